-- 39: X6_init
theorem c39_0 : cd 39 0 = some (0, .aload_n 0, 1, []) := by decide +kernel
theorem x39_0 {d : Nat} {a1 : Value} {x : Nat} {h : AHp} : Rf d 39 0 [.ref x, a1] [] h = Rf d 39 1 [.ref x, a1] [.ref x] h := Rf_go ((stp_of c39_0).trans rfl)
theorem c39_1 : cd 39 1 = some (1, .invokespecial 3, 3, [(1001, 0)]) := by decide +kernel
theorem x39_1 {d : Nat} {a0 a1 : Value} {s0 : Nat} {h : AHp} : Rf d 39 1 [a0, a1] [.ref s0] h = Rf d 39 4 [a0, a1] [] h := Rf_go ((stp_of c39_1).trans rfl)
theorem c39_4 : cd 39 4 = some (4, .aload_n 0, 1, []) := by decide +kernel
theorem x39_4 {d : Nat} {a1 : Value} {x : Nat} {h : AHp} : Rf d 39 4 [.ref x, a1] [] h = Rf d 39 5 [.ref x, a1] [.ref x] h := Rf_go ((stp_of c39_4).trans rfl)
theorem c39_5 : cd 39 5 = some (5, .bipush 10, 2, []) := by decide +kernel
theorem x39_5 {d : Nat} {a0 a1 : Value} {s0 : Nat} {h : AHp} : Rf d 39 5 [a0, a1] [.ref s0] h = Rf d 39 7 [a0, a1] [.int 10, .ref s0] h := Rf_go ((stp_of c39_5).trans rfl)
theorem c39_7 : cd 39 7 = some (7, .newarray .int, 2, [(0, 0)]) := by decide +kernel
theorem x39_7 {d : Nat} {a0 a1 : Value} {s0 : Int32} {s1 : Nat} {h : AHp} : Rf d 39 7 [a0, a1] [.int s0, .ref s1] h = if okN s0 = true then Rf d 39 9 [a0, a1] [.ref h.2.1, .ref s1] (hnew h (.inl (0, s0.toNatClampNeg, .inl (fun _ => 0))) s0.toNatClampNeg) else Rx d 39 7 [a0, a1] [.int s0, .ref s1] h := nwA c39_7
theorem c39_9 : cd 39 9 = some (9, .putfield 9, 3, [(6, 1)]) := by decide +kernel
theorem x39_9 {d : Nat} {a0 a1 : Value} {s0 : Nat} {s1 : Nat} {h : AHp} : Rf d 39 9 [a0, a1] [.ref s0, .ref s1] h = if cls (h.1 s1) = 6 ∧ oL (h.1 s1) = 15 then Rf d 39 12 [a0, a1] [] (hset h s1 (oSet (h.1 s1) 1 (.ref s0))) else Rx d 39 9 [a0, a1] [.ref s0, .ref s1] h := putV c39_9 rfl (fMay_a (t := .int) (by decide +kernel))
theorem c39_12 : cd 39 12 = some (12, .aload_n 0, 1, []) := by decide +kernel
theorem x39_12 {d : Nat} {a1 : Value} {x : Nat} {h : AHp} : Rf d 39 12 [.ref x, a1] [] h = Rf d 39 13 [.ref x, a1] [.ref x] h := Rf_go ((stp_of c39_12).trans rfl)
theorem c39_13 : cd 39 13 = some (13, .bipush 10, 2, []) := by decide +kernel
theorem x39_13 {d : Nat} {a0 a1 : Value} {s0 : Nat} {h : AHp} : Rf d 39 13 [a0, a1] [.ref s0] h = Rf d 39 15 [a0, a1] [.int 10, .ref s0] h := Rf_go ((stp_of c39_13).trans rfl)
theorem c39_15 : cd 39 15 = some (15, .newarray .int, 2, [(0, 0)]) := by decide +kernel
theorem x39_15 {d : Nat} {a0 a1 : Value} {s0 : Int32} {s1 : Nat} {h : AHp} : Rf d 39 15 [a0, a1] [.int s0, .ref s1] h = if okN s0 = true then Rf d 39 17 [a0, a1] [.ref h.2.1, .ref s1] (hnew h (.inl (0, s0.toNatClampNeg, .inl (fun _ => 0))) s0.toNatClampNeg) else Rx d 39 15 [a0, a1] [.int s0, .ref s1] h := nwA c39_15
theorem c39_17 : cd 39 17 = some (17, .putfield 15, 3, [(6, 2)]) := by decide +kernel
theorem x39_17 {d : Nat} {a0 a1 : Value} {s0 : Nat} {s1 : Nat} {h : AHp} : Rf d 39 17 [a0, a1] [.ref s0, .ref s1] h = if cls (h.1 s1) = 6 ∧ oL (h.1 s1) = 15 then Rf d 39 20 [a0, a1] [] (hset h s1 (oSet (h.1 s1) 2 (.ref s0))) else Rx d 39 17 [a0, a1] [.ref s0, .ref s1] h := putV c39_17 rfl (fMay_a (t := .int) (by decide +kernel))
theorem c39_20 : cd 39 20 = some (20, .aload_n 0, 1, []) := by decide +kernel
theorem x39_20 {d : Nat} {a1 : Value} {x : Nat} {h : AHp} : Rf d 39 20 [.ref x, a1] [] h = Rf d 39 21 [.ref x, a1] [.ref x] h := Rf_go ((stp_of c39_20).trans rfl)
theorem c39_21 : cd 39 21 = some (21, .bipush 10, 2, []) := by decide +kernel
theorem x39_21 {d : Nat} {a0 a1 : Value} {s0 : Nat} {h : AHp} : Rf d 39 21 [a0, a1] [.ref s0] h = Rf d 39 23 [a0, a1] [.int 10, .ref s0] h := Rf_go ((stp_of c39_21).trans rfl)
theorem c39_23 : cd 39 23 = some (23, .newarray .int, 2, [(0, 0)]) := by decide +kernel
theorem x39_23 {d : Nat} {a0 a1 : Value} {s0 : Int32} {s1 : Nat} {h : AHp} : Rf d 39 23 [a0, a1] [.int s0, .ref s1] h = if okN s0 = true then Rf d 39 25 [a0, a1] [.ref h.2.1, .ref s1] (hnew h (.inl (0, s0.toNatClampNeg, .inl (fun _ => 0))) s0.toNatClampNeg) else Rx d 39 23 [a0, a1] [.int s0, .ref s1] h := nwA c39_23
theorem c39_25 : cd 39 25 = some (25, .putfield 18, 3, [(6, 3)]) := by decide +kernel
theorem x39_25 {d : Nat} {a0 a1 : Value} {s0 : Nat} {s1 : Nat} {h : AHp} : Rf d 39 25 [a0, a1] [.ref s0, .ref s1] h = if cls (h.1 s1) = 6 ∧ oL (h.1 s1) = 15 then Rf d 39 28 [a0, a1] [] (hset h s1 (oSet (h.1 s1) 3 (.ref s0))) else Rx d 39 25 [a0, a1] [.ref s0, .ref s1] h := putV c39_25 rfl (fMay_a (t := .int) (by decide +kernel))
theorem c39_28 : cd 39 28 = some (28, .aload_n 0, 1, []) := by decide +kernel
theorem x39_28 {d : Nat} {a1 : Value} {x : Nat} {h : AHp} : Rf d 39 28 [.ref x, a1] [] h = Rf d 39 29 [.ref x, a1] [.ref x] h := Rf_go ((stp_of c39_28).trans rfl)
theorem c39_29 : cd 39 29 = some (29, .bipush 10, 2, []) := by decide +kernel
theorem x39_29 {d : Nat} {a0 a1 : Value} {s0 : Nat} {h : AHp} : Rf d 39 29 [a0, a1] [.ref s0] h = Rf d 39 31 [a0, a1] [.int 10, .ref s0] h := Rf_go ((stp_of c39_29).trans rfl)
theorem c39_31 : cd 39 31 = some (31, .newarray .int, 2, [(0, 0)]) := by decide +kernel
theorem x39_31 {d : Nat} {a0 a1 : Value} {s0 : Int32} {s1 : Nat} {h : AHp} : Rf d 39 31 [a0, a1] [.int s0, .ref s1] h = if okN s0 = true then Rf d 39 33 [a0, a1] [.ref h.2.1, .ref s1] (hnew h (.inl (0, s0.toNatClampNeg, .inl (fun _ => 0))) s0.toNatClampNeg) else Rx d 39 31 [a0, a1] [.int s0, .ref s1] h := nwA c39_31
theorem c39_33 : cd 39 33 = some (33, .putfield 21, 3, [(6, 4)]) := by decide +kernel
theorem x39_33 {d : Nat} {a0 a1 : Value} {s0 : Nat} {s1 : Nat} {h : AHp} : Rf d 39 33 [a0, a1] [.ref s0, .ref s1] h = if cls (h.1 s1) = 6 ∧ oL (h.1 s1) = 15 then Rf d 39 36 [a0, a1] [] (hset h s1 (oSet (h.1 s1) 4 (.ref s0))) else Rx d 39 33 [a0, a1] [.ref s0, .ref s1] h := putV c39_33 rfl (fMay_a (t := .int) (by decide +kernel))
theorem c39_36 : cd 39 36 = some (36, .aload_n 0, 1, []) := by decide +kernel
theorem x39_36 {d : Nat} {a1 : Value} {x : Nat} {h : AHp} : Rf d 39 36 [.ref x, a1] [] h = Rf d 39 37 [.ref x, a1] [.ref x] h := Rf_go ((stp_of c39_36).trans rfl)
theorem c39_37 : cd 39 37 = some (37, .bipush 10, 2, []) := by decide +kernel
theorem x39_37 {d : Nat} {a0 a1 : Value} {s0 : Nat} {h : AHp} : Rf d 39 37 [a0, a1] [.ref s0] h = Rf d 39 39 [a0, a1] [.int 10, .ref s0] h := Rf_go ((stp_of c39_37).trans rfl)
theorem c39_39 : cd 39 39 = some (39, .newarray .int, 2, [(0, 0)]) := by decide +kernel
theorem x39_39 {d : Nat} {a0 a1 : Value} {s0 : Int32} {s1 : Nat} {h : AHp} : Rf d 39 39 [a0, a1] [.int s0, .ref s1] h = if okN s0 = true then Rf d 39 41 [a0, a1] [.ref h.2.1, .ref s1] (hnew h (.inl (0, s0.toNatClampNeg, .inl (fun _ => 0))) s0.toNatClampNeg) else Rx d 39 39 [a0, a1] [.int s0, .ref s1] h := nwA c39_39
theorem c39_41 : cd 39 41 = some (41, .putfield 24, 3, [(6, 5)]) := by decide +kernel
theorem x39_41 {d : Nat} {a0 a1 : Value} {s0 : Nat} {s1 : Nat} {h : AHp} : Rf d 39 41 [a0, a1] [.ref s0, .ref s1] h = if cls (h.1 s1) = 6 ∧ oL (h.1 s1) = 15 then Rf d 39 44 [a0, a1] [] (hset h s1 (oSet (h.1 s1) 5 (.ref s0))) else Rx d 39 41 [a0, a1] [.ref s0, .ref s1] h := putV c39_41 rfl (fMay_a (t := .int) (by decide +kernel))
theorem c39_44 : cd 39 44 = some (44, .aload_n 0, 1, []) := by decide +kernel
theorem x39_44 {d : Nat} {a1 : Value} {x : Nat} {h : AHp} : Rf d 39 44 [.ref x, a1] [] h = Rf d 39 45 [.ref x, a1] [.ref x] h := Rf_go ((stp_of c39_44).trans rfl)
theorem c39_45 : cd 39 45 = some (45, .bipush 10, 2, []) := by decide +kernel
theorem x39_45 {d : Nat} {a0 a1 : Value} {s0 : Nat} {h : AHp} : Rf d 39 45 [a0, a1] [.ref s0] h = Rf d 39 47 [a0, a1] [.int 10, .ref s0] h := Rf_go ((stp_of c39_45).trans rfl)
theorem c39_47 : cd 39 47 = some (47, .newarray .int, 2, [(0, 0)]) := by decide +kernel
theorem x39_47 {d : Nat} {a0 a1 : Value} {s0 : Int32} {s1 : Nat} {h : AHp} : Rf d 39 47 [a0, a1] [.int s0, .ref s1] h = if okN s0 = true then Rf d 39 49 [a0, a1] [.ref h.2.1, .ref s1] (hnew h (.inl (0, s0.toNatClampNeg, .inl (fun _ => 0))) s0.toNatClampNeg) else Rx d 39 47 [a0, a1] [.int s0, .ref s1] h := nwA c39_47
theorem c39_49 : cd 39 49 = some (49, .putfield 27, 3, [(6, 6)]) := by decide +kernel
theorem x39_49 {d : Nat} {a0 a1 : Value} {s0 : Nat} {s1 : Nat} {h : AHp} : Rf d 39 49 [a0, a1] [.ref s0, .ref s1] h = if cls (h.1 s1) = 6 ∧ oL (h.1 s1) = 15 then Rf d 39 52 [a0, a1] [] (hset h s1 (oSet (h.1 s1) 6 (.ref s0))) else Rx d 39 49 [a0, a1] [.ref s0, .ref s1] h := putV c39_49 rfl (fMay_a (t := .int) (by decide +kernel))
theorem c39_52 : cd 39 52 = some (52, .aload_n 0, 1, []) := by decide +kernel
theorem x39_52 {d : Nat} {a1 : Value} {x : Nat} {h : AHp} : Rf d 39 52 [.ref x, a1] [] h = Rf d 39 53 [.ref x, a1] [.ref x] h := Rf_go ((stp_of c39_52).trans rfl)
theorem c39_53 : cd 39 53 = some (53, .bipush 10, 2, []) := by decide +kernel
theorem x39_53 {d : Nat} {a0 a1 : Value} {s0 : Nat} {h : AHp} : Rf d 39 53 [a0, a1] [.ref s0] h = Rf d 39 55 [a0, a1] [.int 10, .ref s0] h := Rf_go ((stp_of c39_53).trans rfl)
theorem c39_55 : cd 39 55 = some (55, .anewarray 30, 3, [(3, 0)]) := by decide +kernel
theorem x39_55 {d : Nat} {a0 a1 : Value} {s0 : Int32} {s1 : Nat} {h : AHp} : Rf d 39 55 [a0, a1] [.int s0, .ref s1] h = if okN s0 = true then Rf d 39 58 [a0, a1] [.ref h.2.1, .ref s1] (hnew h (.inl (3, s0.toNatClampNeg, .inr (.inr (.inr (.inr (fun _ => none)))))) s0.toNatClampNeg) else Rx d 39 55 [a0, a1] [.int s0, .ref s1] h := nwQ c39_55
theorem c39_58 : cd 39 58 = some (58, .putfield 32, 3, [(6, 7)]) := by decide +kernel
theorem x39_58 {d : Nat} {a0 a1 : Value} {s0 : Nat} {s1 : Nat} {h : AHp} : Rf d 39 58 [a0, a1] [.ref s0, .ref s1] h = if cls (h.1 s1) = 6 ∧ oL (h.1 s1) = 15 then Rf d 39 61 [a0, a1] [] (hset h s1 (oSet (h.1 s1) 7 (.ref s0))) else Rx d 39 58 [a0, a1] [.ref s0, .ref s1] h := putV c39_58 rfl (fMay_a (t := .object "PayUntold$Knowing") (by decide +kernel))
theorem c39_61 : cd 39 61 = some (61, .aload_n 0, 1, []) := by decide +kernel
theorem x39_61 {d : Nat} {a1 : Value} {x : Nat} {h : AHp} : Rf d 39 61 [.ref x, a1] [] h = Rf d 39 62 [.ref x, a1] [.ref x] h := Rf_go ((stp_of c39_61).trans rfl)
theorem c39_62 : cd 39 62 = some (62, .ldc 36, 2, [(1, 0)]) := by decide +kernel
theorem x39_62 {d : Nat} {a0 a1 : Value} {s0 : Nat} {h : AHp} : Rf d 39 62 [a0, a1] [.ref s0] h = Rf d 39 64 [a0, a1] [.ref 0, .ref s0] h := Rf_go ((stp_of c39_62).trans rfl)
theorem c39_64 : cd 39 64 = some (64, .invokevirtual 38, 3, [(13, 203)]) := by decide +kernel
theorem xc39_64 {d : Nat} {a0 a1 : Value} {s0 : Nat} {s1 : Nat} {h : AHp} {h1 : AHp} {v : Int32} (hr : cls (h.1 s0) = 13) (hq : Rf d 203 0 [.ref s0] [] h = some (some (.int v), h1)) : Rf (d + 1) 39 64 [a0, a1] [.ref s0, .ref s1] h = Rf (d + 1) 39 67 [a0, a1] [.int v, .ref s1] h1 := clV (c := 203) (as := []) c39_64 rfl (by simp [isV]) (by rw [hr]; rfl) hq
theorem c39_67 : cd 39 67 = some (67, .newarray .int, 2, [(0, 0)]) := by decide +kernel
theorem x39_67 {d : Nat} {a0 a1 : Value} {s0 : Int32} {s1 : Nat} {h : AHp} : Rf d 39 67 [a0, a1] [.int s0, .ref s1] h = if okN s0 = true then Rf d 39 69 [a0, a1] [.ref h.2.1, .ref s1] (hnew h (.inl (0, s0.toNatClampNeg, .inl (fun _ => 0))) s0.toNatClampNeg) else Rx d 39 67 [a0, a1] [.int s0, .ref s1] h := nwA c39_67
theorem c39_69 : cd 39 69 = some (69, .putfield 44, 3, [(6, 12)]) := by decide +kernel
theorem x39_69 {d : Nat} {a0 a1 : Value} {s0 : Nat} {s1 : Nat} {h : AHp} : Rf d 39 69 [a0, a1] [.ref s0, .ref s1] h = if cls (h.1 s1) = 6 ∧ oL (h.1 s1) = 15 then Rf d 39 72 [a0, a1] [] (hset h s1 (oSet (h.1 s1) 12 (.ref s0))) else Rx d 39 69 [a0, a1] [.ref s0, .ref s1] h := putV c39_69 rfl (fMay_a (t := .int) (by decide +kernel))
theorem c39_72 : cd 39 72 = some (72, .aload_n 0, 1, []) := by decide +kernel
theorem x39_72 {d : Nat} {a1 : Value} {x : Nat} {h : AHp} : Rf d 39 72 [.ref x, a1] [] h = Rf d 39 73 [.ref x, a1] [.ref x] h := Rf_go ((stp_of c39_72).trans rfl)
theorem c39_73 : cd 39 73 = some (73, .bipush 10, 2, []) := by decide +kernel
theorem x39_73 {d : Nat} {a0 a1 : Value} {s0 : Nat} {h : AHp} : Rf d 39 73 [a0, a1] [.ref s0] h = Rf d 39 75 [a0, a1] [.int 10, .ref s0] h := Rf_go ((stp_of c39_73).trans rfl)
theorem c39_75 : cd 39 75 = some (75, .newarray .int, 2, [(0, 0)]) := by decide +kernel
theorem x39_75 {d : Nat} {a0 a1 : Value} {s0 : Int32} {s1 : Nat} {h : AHp} : Rf d 39 75 [a0, a1] [.int s0, .ref s1] h = if okN s0 = true then Rf d 39 77 [a0, a1] [.ref h.2.1, .ref s1] (hnew h (.inl (0, s0.toNatClampNeg, .inl (fun _ => 0))) s0.toNatClampNeg) else Rx d 39 75 [a0, a1] [.int s0, .ref s1] h := nwA c39_75
theorem c39_77 : cd 39 77 = some (77, .putfield 47, 3, [(6, 13)]) := by decide +kernel
theorem x39_77 {d : Nat} {a0 a1 : Value} {s0 : Nat} {s1 : Nat} {h : AHp} : Rf d 39 77 [a0, a1] [.ref s0, .ref s1] h = if cls (h.1 s1) = 6 ∧ oL (h.1 s1) = 15 then Rf d 39 80 [a0, a1] [] (hset h s1 (oSet (h.1 s1) 13 (.ref s0))) else Rx d 39 77 [a0, a1] [.ref s0, .ref s1] h := putV c39_77 rfl (fMay_a (t := .int) (by decide +kernel))
theorem c39_80 : cd 39 80 = some (80, .aload_n 0, 1, []) := by decide +kernel
theorem x39_80 {d : Nat} {a1 : Value} {x : Nat} {h : AHp} : Rf d 39 80 [.ref x, a1] [] h = Rf d 39 81 [.ref x, a1] [.ref x] h := Rf_go ((stp_of c39_80).trans rfl)
theorem c39_81 : cd 39 81 = some (81, .bipush 10, 2, []) := by decide +kernel
theorem x39_81 {d : Nat} {a0 a1 : Value} {s0 : Nat} {h : AHp} : Rf d 39 81 [a0, a1] [.ref s0] h = Rf d 39 83 [a0, a1] [.int 10, .ref s0] h := Rf_go ((stp_of c39_81).trans rfl)
theorem c39_83 : cd 39 83 = some (83, .newarray .boolean, 2, [(2, 0)]) := by decide +kernel
theorem x39_83 {d : Nat} {a0 a1 : Value} {s0 : Int32} {s1 : Nat} {h : AHp} : Rf d 39 83 [a0, a1] [.int s0, .ref s1] h = if okN s0 = true then Rf d 39 85 [a0, a1] [.ref h.2.1, .ref s1] (hnew h (.inl (2, s0.toNatClampNeg, .inl (fun _ => 0))) s0.toNatClampNeg) else Rx d 39 83 [a0, a1] [.int s0, .ref s1] h := nwA c39_83
theorem c39_85 : cd 39 85 = some (85, .putfield 50, 3, [(6, 14)]) := by decide +kernel
theorem x39_85 {d : Nat} {a0 a1 : Value} {s0 : Nat} {s1 : Nat} {h : AHp} : Rf d 39 85 [a0, a1] [.ref s0, .ref s1] h = if cls (h.1 s1) = 6 ∧ oL (h.1 s1) = 15 then Rf d 39 88 [a0, a1] [] (hset h s1 (oSet (h.1 s1) 14 (.ref s0))) else Rx d 39 85 [a0, a1] [.ref s0, .ref s1] h := putV c39_85 rfl (fMay_a (t := .boolean) (by decide +kernel))
theorem c39_88 : cd 39 88 = some (88, .aload_n 0, 1, []) := by decide +kernel
theorem x39_88 {d : Nat} {a1 : Value} {x : Nat} {h : AHp} : Rf d 39 88 [.ref x, a1] [] h = Rf d 39 89 [.ref x, a1] [.ref x] h := Rf_go ((stp_of c39_88).trans rfl)
theorem c39_89 : cd 39 89 = some (89, .getfield 15, 3, [(6, 2)]) := by decide +kernel
theorem x39_89 {d : Nat} {a0 a1 : Value} {s0 : Nat} {h : AHp} : Rf d 39 89 [a0, a1] [.ref s0] h = if cls (h.1 s0) = 6 ∧ oKr (h.1 s0) 2 = true then Rf d 39 92 [a0, a1] [.ref (oR (h.1 s0) 2)] h else Rx d 39 89 [a0, a1] [.ref s0] h := getR c39_89
theorem c39_92 : cd 39 92 = some (92, .iconst (-1), 1, []) := by decide +kernel
theorem x39_92 {d : Nat} {a0 a1 : Value} {s0 : Nat} {h : AHp} : Rf d 39 92 [a0, a1] [.ref s0] h = Rf d 39 93 [a0, a1] [.int (-1), .ref s0] h := Rf_go ((stp_of c39_92).trans rfl)
theorem c39_93 : cd 39 93 = some (93, .invokestatic 54, 3, [(0, 214)]) := by decide +kernel
theorem xc39_93 {d : Nat} {a0 a1 : Value} {s0 : Int32} {s1 : Nat} {h : AHp} {h1 : AHp} (hq : Rf d 214 0 [.ref s1, .int s0, noV, noV] [] h = some (none, h1)) : Rf (d + 1) 39 93 [a0, a1] [.int s0, .ref s1] h = Rf (d + 1) 39 96 [a0, a1] [] h1 := clS (as := [.ref s1, .int s0]) c39_93 rfl rfl (by simp [isV]) hq
theorem c39_96 : cd 39 96 = some (96, .iconst 0, 1, []) := by decide +kernel
theorem x39_96 {d : Nat} {a0 a1 : Value} {h : AHp} : Rf d 39 96 [a0, a1] [] h = Rf d 39 97 [a0, a1] [.int 0] h := Rf_go ((stp_of c39_96).trans rfl)
theorem c39_97 : cd 39 97 = some (97, .istore_n 1, 1, []) := by decide +kernel
theorem x39_97 {d : Nat} {a0 a1 : Value} {s0 : Int32} {h : AHp} : Rf d 39 97 [a0, a1] [.int s0] h = Rf d 39 98 [a0, .int s0] [] h := Rf_go ((stp_of c39_97).trans rfl)
theorem c39_98 : cd 39 98 = some (98, .iload_n 1, 1, []) := by decide +kernel
theorem x39_98 {d : Nat} {a0 : Value} {x : Int32} {h : AHp} : Rf d 39 98 [a0, .int x] [] h = Rf d 39 99 [a0, .int x] [.int x] h := Rf_go ((stp_of c39_98).trans rfl)
theorem c39_99 : cd 39 99 = some (99, .bipush 10, 2, []) := by decide +kernel
theorem x39_99 {d : Nat} {a0 a1 : Value} {s0 : Int32} {h : AHp} : Rf d 39 99 [a0, a1] [.int s0] h = Rf d 39 101 [a0, a1] [.int 10, .int s0] h := Rf_go ((stp_of c39_99).trans rfl)
theorem c39_101 : cd 39 101 = some (101, .if_icmp .ge 24, 3, [(125, 0)]) := by decide +kernel
theorem x39_101 {d : Nat} {a0 a1 : Value} {s0 : Int32} {s1 : Int32} {h : AHp} : Rf d 39 101 [a0, a1] [.int s0, .int s1] h = if s1 < s0 then Rf d 39 104 [a0, a1] [] h else Rf d 39 125 [a0, a1] [] h := Rf_brn ((stp_of c39_101).trans rfl)
theorem c39_125 : cd 39 125 = some (125, .aload_n 0, 1, []) := by decide +kernel
theorem x39_125 {d : Nat} {a1 : Value} {x : Nat} {h : AHp} : Rf d 39 125 [.ref x, a1] [] h = Rf d 39 126 [.ref x, a1] [.ref x] h := Rf_go ((stp_of c39_125).trans rfl)
theorem c39_126 : cd 39 126 = some (126, .new 63, 3, [(3, 10)]) := by decide +kernel
theorem x39_126 {d : Nat} {a0 a1 : Value} {s0 : Nat} {h : AHp} : Rf d 39 126 [a0, a1] [.ref s0] h = Rf d 39 129 [a0, a1] [.ref h.2.1, .ref s0] (hnew h (.inr (3, [.int 0, .int 0, .null, .int 0, .int 0, .null, .null, .null, .null, .int 0])) 10) := (Rf_go ((stp_of c39_126).trans rfl)).trans (by rw [df3])
theorem c39_129 : cd 39 129 = some (129, .dup, 1, []) := by decide +kernel
theorem x39_129 {d : Nat} {a0 a1 : Value} {s0 : Nat} {s1 : Nat} {h : AHp} : Rf d 39 129 [a0, a1] [.ref s0, .ref s1] h = Rf d 39 130 [a0, a1] [.ref s0, .ref s0, .ref s1] h := Rf_go ((stp_of c39_129).trans rfl)
theorem c39_130 : cd 39 130 = some (130, .iconst 0, 1, []) := by decide +kernel
theorem x39_130 {d : Nat} {a0 a1 : Value} {s0 : Nat} {s1 : Nat} {s2 : Nat} {h : AHp} : Rf d 39 130 [a0, a1] [.ref s0, .ref s1, .ref s2] h = Rf d 39 131 [a0, a1] [.int 0, .ref s0, .ref s1, .ref s2] h := Rf_go ((stp_of c39_130).trans rfl)
theorem c39_131 : cd 39 131 = some (131, .newarray .byte, 2, [(1, 0)]) := by decide +kernel
theorem x39_131 {d : Nat} {a0 a1 : Value} {s0 : Int32} {s1 : Nat} {s2 : Nat} {s3 : Nat} {h : AHp} : Rf d 39 131 [a0, a1] [.int s0, .ref s1, .ref s2, .ref s3] h = if okN s0 = true then Rf d 39 133 [a0, a1] [.ref h.2.1, .ref s1, .ref s2, .ref s3] (hnew h (.inl (1, s0.toNatClampNeg, .inl (fun _ => 0))) s0.toNatClampNeg) else Rx d 39 131 [a0, a1] [.int s0, .ref s1, .ref s2, .ref s3] h := nwA c39_131
theorem c39_133 : cd 39 133 = some (133, .invokespecial 65, 3, [(1003, 12)]) := by decide +kernel
theorem xc39_133 {d : Nat} {a0 a1 : Value} {s0 : Nat} {s1 : Nat} {s2 : Nat} {s3 : Nat} {h : AHp} {h1 : AHp} (hr : cls (h.1 s1) < 13) (hq : Rf d 12 0 [.ref s1, .ref s0] [] h = some (none, h1)) : Rf (d + 1) 39 133 [a0, a1] [.ref s0, .ref s1, .ref s2, .ref s3] h = Rf (d + 1) 39 136 [a0, a1] [.ref s2, .ref s3] h1 := clP (as := [.ref s0]) c39_133 rfl rfl (by simp [isV]) hr hq
theorem c39_136 : cd 39 136 = some (136, .putfield 68, 3, [(6, 11)]) := by decide +kernel
theorem x39_136 {d : Nat} {a0 a1 : Value} {s0 : Nat} {s1 : Nat} {h : AHp} : Rf d 39 136 [a0, a1] [.ref s0, .ref s1] h = if cls (h.1 s1) = 6 ∧ oL (h.1 s1) = 15 then Rf d 39 139 [a0, a1] [] (hset h s1 (oSet (h.1 s1) 11 (.ref s0))) else Rx d 39 136 [a0, a1] [.ref s0, .ref s1] h := putV c39_136 rfl (fMay_o (C := "PayUntold$House") (by decide +kernel))
theorem c39_139 : cd 39 139 = some (139, .return_, 1, []) := by decide +kernel
theorem x39_139 {d : Nat} {a0 a1 : Value} {h : AHp} : Rf d 39 139 [a0, a1] [] h = some (none, h) := Rf_end (endV c39_139 (by decide +kernel))
theorem c39_104 : cd 39 104 = some (104, .aload_n 0, 1, []) := by decide +kernel
theorem x39_104 {d : Nat} {a1 : Value} {x : Nat} {h : AHp} : Rf d 39 104 [.ref x, a1] [] h = Rf d 39 105 [.ref x, a1] [.ref x] h := Rf_go ((stp_of c39_104).trans rfl)
theorem c39_105 : cd 39 105 = some (105, .getfield 32, 3, [(6, 7)]) := by decide +kernel
theorem x39_105 {d : Nat} {a0 a1 : Value} {s0 : Nat} {h : AHp} : Rf d 39 105 [a0, a1] [.ref s0] h = if cls (h.1 s0) = 6 ∧ oKr (h.1 s0) 7 = true then Rf d 39 108 [a0, a1] [.ref (oR (h.1 s0) 7)] h else Rx d 39 105 [a0, a1] [.ref s0] h := getR c39_105
theorem c39_108 : cd 39 108 = some (108, .iload_n 1, 1, []) := by decide +kernel
theorem x39_108 {d : Nat} {a0 : Value} {s0 : Nat} {x : Int32} {h : AHp} : Rf d 39 108 [a0, .int x] [.ref s0] h = Rf d 39 109 [a0, .int x] [.int x, .ref s0] h := Rf_go ((stp_of c39_108).trans rfl)
theorem c39_109 : cd 39 109 = some (109, .new 30, 3, [(4, 2)]) := by decide +kernel
theorem x39_109 {d : Nat} {a0 a1 : Value} {s0 : Int32} {s1 : Nat} {h : AHp} : Rf d 39 109 [a0, a1] [.int s0, .ref s1] h = Rf d 39 112 [a0, a1] [.ref h.2.1, .int s0, .ref s1] (hnew h (.inr (4, [.int 0, .int 0])) 2) := (Rf_go ((stp_of c39_109).trans rfl)).trans (by rw [df4])
theorem c39_112 : cd 39 112 = some (112, .dup, 1, []) := by decide +kernel
theorem x39_112 {d : Nat} {a0 a1 : Value} {s0 : Nat} {s1 : Int32} {s2 : Nat} {h : AHp} : Rf d 39 112 [a0, a1] [.ref s0, .int s1, .ref s2] h = Rf d 39 113 [a0, a1] [.ref s0, .ref s0, .int s1, .ref s2] h := Rf_go ((stp_of c39_112).trans rfl)
theorem c39_113 : cd 39 113 = some (113, .iload_n 1, 1, []) := by decide +kernel
theorem x39_113 {d : Nat} {a0 : Value} {s0 : Nat} {s1 : Nat} {s2 : Int32} {s3 : Nat} {x : Int32} {h : AHp} : Rf d 39 113 [a0, .int x] [.ref s0, .ref s1, .int s2, .ref s3] h = Rf d 39 114 [a0, .int x] [.int x, .ref s0, .ref s1, .int s2, .ref s3] h := Rf_go ((stp_of c39_113).trans rfl)
theorem c39_114 : cd 39 114 = some (114, .iconst 0, 1, []) := by decide +kernel
theorem x39_114 {d : Nat} {a0 a1 : Value} {s0 : Int32} {s1 : Nat} {s2 : Nat} {s3 : Int32} {s4 : Nat} {h : AHp} : Rf d 39 114 [a0, a1] [.int s0, .ref s1, .ref s2, .int s3, .ref s4] h = Rf d 39 115 [a0, a1] [.int 0, .int s0, .ref s1, .ref s2, .int s3, .ref s4] h := Rf_go ((stp_of c39_114).trans rfl)
theorem c39_115 : cd 39 115 = some (115, .invokespecial 60, 3, [(1003, 28)]) := by decide +kernel
theorem xc39_115 {d : Nat} {a0 a1 : Value} {s0 : Int32} {s1 : Int32} {s2 : Nat} {s3 : Nat} {s4 : Int32} {s5 : Nat} {h : AHp} {h1 : AHp} (hr : cls (h.1 s2) < 13) (hq : Rf d 28 0 [.ref s2, .int s1, .int s0] [] h = some (none, h1)) : Rf (d + 1) 39 115 [a0, a1] [.int s0, .int s1, .ref s2, .ref s3, .int s4, .ref s5] h = Rf (d + 1) 39 118 [a0, a1] [.ref s3, .int s4, .ref s5] h1 := clP (as := [.int s1, .int s0]) c39_115 rfl rfl (by simp [isV]) hr hq
theorem c39_118 : cd 39 118 = some (118, .aastore, 1, []) := by decide +kernel
theorem x39_118 {d : Nat} {a0 a1 : Value} {s0 : Nat} {s1 : Int32} {s2 : Nat} {h : AHp} : Rf d 39 118 [a0, a1] [.ref s0, .int s1, .ref s2] h = if isKn (h.1 s0) = true ∧ aTq (h.1 s2) = 3 ∧ inB s1 (aN (h.1 s2)) = true then Rf d 39 119 [a0, a1] [] (hset h s2 (.inl (3, aN (h.1 s2), .inr (.inr (.inr (.inr (va_up (aG (h.1 s2)) s1.toNatClampNeg (some s0)))))))) else Rx d 39 118 [a0, a1] [.ref s0, .int s1, .ref s2] h := stQ c39_118
theorem c39_119 : cd 39 119 = some (119, .iinc 1 1, 3, []) := by decide +kernel
theorem x39_119 {d : Nat} {a0 : Value} {x : Int32} {h : AHp} : Rf d 39 119 [a0, .int x] [] h = Rf d 39 122 [a0, .int (x + 1)] [] h := Rf_go ((stp_of c39_119).trans rfl)
theorem c39_122 : cd 39 122 = some (122, .goto (-24), 3, [(98, 0)]) := by decide +kernel
theorem x39_122 {d : Nat} {a0 a1 : Value} {h : AHp} : Rf d 39 122 [a0, a1] [] h = Rf d 39 98 [a0, a1] [] h := Rf_go ((stp_of c39_122).trans rfl)
-- 40: X6_copyFrom
theorem c40_0 : cd 40 0 = some (0, .aload_n 0, 1, []) := by decide +kernel
theorem x40_0 {d : Nat} {a1 a2 : Value} {x : Nat} {h : AHp} : Rf d 40 0 [.ref x, a1, a2] [] h = Rf d 40 1 [.ref x, a1, a2] [.ref x] h := Rf_go ((stp_of c40_0).trans rfl)
theorem c40_1 : cd 40 1 = some (1, .aload_n 1, 1, []) := by decide +kernel
theorem x40_1 {d : Nat} {a0 a2 : Value} {s0 : Nat} {x : Nat} {h : AHp} : Rf d 40 1 [a0, .ref x, a2] [.ref s0] h = Rf d 40 2 [a0, .ref x, a2] [.ref x, .ref s0] h := Rf_go ((stp_of c40_1).trans rfl)
theorem c40_2 : cd 40 2 = some (2, .getfield 72, 3, [(6, 0)]) := by decide +kernel
theorem x40_2 {d : Nat} {a0 a1 a2 : Value} {s0 : Nat} {s1 : Nat} {h : AHp} : Rf d 40 2 [a0, a1, a2] [.ref s0, .ref s1] h = if cls (h.1 s0) = 6 ∧ oKi (h.1 s0) 0 = true then Rf d 40 5 [a0, a1, a2] [.int (oN (h.1 s0) 0), .ref s1] h else Rx d 40 2 [a0, a1, a2] [.ref s0, .ref s1] h := getI c40_2
theorem c40_5 : cd 40 5 = some (5, .putfield 72, 3, [(6, 0)]) := by decide +kernel
theorem x40_5 {d : Nat} {a0 a1 a2 : Value} {s0 : Int32} {s1 : Nat} {h : AHp} : Rf d 40 5 [a0, a1, a2] [.int s0, .ref s1] h = if cls (h.1 s1) = 6 ∧ oL (h.1 s1) = 15 then Rf d 40 8 [a0, a1, a2] [] (hset h s1 (oSet (h.1 s1) 0 (.int s0))) else Rx d 40 5 [a0, a1, a2] [.int s0, .ref s1] h := putV c40_5 rfl (fMay_i (by decide +kernel))
theorem c40_8 : cd 40 8 = some (8, .aload_n 1, 1, []) := by decide +kernel
theorem x40_8 {d : Nat} {a0 a2 : Value} {x : Nat} {h : AHp} : Rf d 40 8 [a0, .ref x, a2] [] h = Rf d 40 9 [a0, .ref x, a2] [.ref x] h := Rf_go ((stp_of c40_8).trans rfl)
theorem c40_9 : cd 40 9 = some (9, .getfield 9, 3, [(6, 1)]) := by decide +kernel
theorem x40_9 {d : Nat} {a0 a1 a2 : Value} {s0 : Nat} {h : AHp} : Rf d 40 9 [a0, a1, a2] [.ref s0] h = if cls (h.1 s0) = 6 ∧ oKr (h.1 s0) 1 = true then Rf d 40 12 [a0, a1, a2] [.ref (oR (h.1 s0) 1)] h else Rx d 40 9 [a0, a1, a2] [.ref s0] h := getR c40_9
theorem c40_12 : cd 40 12 = some (12, .aload_n 0, 1, []) := by decide +kernel
theorem x40_12 {d : Nat} {a1 a2 : Value} {s0 : Nat} {x : Nat} {h : AHp} : Rf d 40 12 [.ref x, a1, a2] [.ref s0] h = Rf d 40 13 [.ref x, a1, a2] [.ref x, .ref s0] h := Rf_go ((stp_of c40_12).trans rfl)
theorem c40_13 : cd 40 13 = some (13, .getfield 9, 3, [(6, 1)]) := by decide +kernel
theorem x40_13 {d : Nat} {a0 a1 a2 : Value} {s0 : Nat} {s1 : Nat} {h : AHp} : Rf d 40 13 [a0, a1, a2] [.ref s0, .ref s1] h = if cls (h.1 s0) = 6 ∧ oKr (h.1 s0) 1 = true then Rf d 40 16 [a0, a1, a2] [.ref (oR (h.1 s0) 1), .ref s1] h else Rx d 40 13 [a0, a1, a2] [.ref s0, .ref s1] h := getR c40_13
theorem c40_16 : cd 40 16 = some (16, .invokestatic 76, 3, [(0, 41)]) := by decide +kernel
theorem xc40_16 {d : Nat} {a0 a1 a2 : Value} {s0 : Nat} {s1 : Nat} {h : AHp} {h1 : AHp} (hq : Rf d 41 0 [.ref s1, .ref s0] [] h = some (none, h1)) : Rf (d + 1) 40 16 [a0, a1, a2] [.ref s0, .ref s1] h = Rf (d + 1) 40 19 [a0, a1, a2] [] h1 := clS (as := [.ref s1, .ref s0]) c40_16 rfl rfl (by simp [isV]) hq
theorem c40_19 : cd 40 19 = some (19, .aload_n 1, 1, []) := by decide +kernel
theorem x40_19 {d : Nat} {a0 a2 : Value} {x : Nat} {h : AHp} : Rf d 40 19 [a0, .ref x, a2] [] h = Rf d 40 20 [a0, .ref x, a2] [.ref x] h := Rf_go ((stp_of c40_19).trans rfl)
theorem c40_20 : cd 40 20 = some (20, .getfield 15, 3, [(6, 2)]) := by decide +kernel
theorem x40_20 {d : Nat} {a0 a1 a2 : Value} {s0 : Nat} {h : AHp} : Rf d 40 20 [a0, a1, a2] [.ref s0] h = if cls (h.1 s0) = 6 ∧ oKr (h.1 s0) 2 = true then Rf d 40 23 [a0, a1, a2] [.ref (oR (h.1 s0) 2)] h else Rx d 40 20 [a0, a1, a2] [.ref s0] h := getR c40_20
theorem c40_23 : cd 40 23 = some (23, .aload_n 0, 1, []) := by decide +kernel
theorem x40_23 {d : Nat} {a1 a2 : Value} {s0 : Nat} {x : Nat} {h : AHp} : Rf d 40 23 [.ref x, a1, a2] [.ref s0] h = Rf d 40 24 [.ref x, a1, a2] [.ref x, .ref s0] h := Rf_go ((stp_of c40_23).trans rfl)
theorem c40_24 : cd 40 24 = some (24, .getfield 15, 3, [(6, 2)]) := by decide +kernel
theorem x40_24 {d : Nat} {a0 a1 a2 : Value} {s0 : Nat} {s1 : Nat} {h : AHp} : Rf d 40 24 [a0, a1, a2] [.ref s0, .ref s1] h = if cls (h.1 s0) = 6 ∧ oKr (h.1 s0) 2 = true then Rf d 40 27 [a0, a1, a2] [.ref (oR (h.1 s0) 2), .ref s1] h else Rx d 40 24 [a0, a1, a2] [.ref s0, .ref s1] h := getR c40_24
theorem c40_27 : cd 40 27 = some (27, .invokestatic 76, 3, [(0, 41)]) := by decide +kernel
theorem xc40_27 {d : Nat} {a0 a1 a2 : Value} {s0 : Nat} {s1 : Nat} {h : AHp} {h1 : AHp} (hq : Rf d 41 0 [.ref s1, .ref s0] [] h = some (none, h1)) : Rf (d + 1) 40 27 [a0, a1, a2] [.ref s0, .ref s1] h = Rf (d + 1) 40 30 [a0, a1, a2] [] h1 := clS (as := [.ref s1, .ref s0]) c40_27 rfl rfl (by simp [isV]) hq
theorem c40_30 : cd 40 30 = some (30, .aload_n 1, 1, []) := by decide +kernel
theorem x40_30 {d : Nat} {a0 a2 : Value} {x : Nat} {h : AHp} : Rf d 40 30 [a0, .ref x, a2] [] h = Rf d 40 31 [a0, .ref x, a2] [.ref x] h := Rf_go ((stp_of c40_30).trans rfl)
theorem c40_31 : cd 40 31 = some (31, .getfield 18, 3, [(6, 3)]) := by decide +kernel
theorem x40_31 {d : Nat} {a0 a1 a2 : Value} {s0 : Nat} {h : AHp} : Rf d 40 31 [a0, a1, a2] [.ref s0] h = if cls (h.1 s0) = 6 ∧ oKr (h.1 s0) 3 = true then Rf d 40 34 [a0, a1, a2] [.ref (oR (h.1 s0) 3)] h else Rx d 40 31 [a0, a1, a2] [.ref s0] h := getR c40_31
theorem c40_34 : cd 40 34 = some (34, .aload_n 0, 1, []) := by decide +kernel
theorem x40_34 {d : Nat} {a1 a2 : Value} {s0 : Nat} {x : Nat} {h : AHp} : Rf d 40 34 [.ref x, a1, a2] [.ref s0] h = Rf d 40 35 [.ref x, a1, a2] [.ref x, .ref s0] h := Rf_go ((stp_of c40_34).trans rfl)
theorem c40_35 : cd 40 35 = some (35, .getfield 18, 3, [(6, 3)]) := by decide +kernel
theorem x40_35 {d : Nat} {a0 a1 a2 : Value} {s0 : Nat} {s1 : Nat} {h : AHp} : Rf d 40 35 [a0, a1, a2] [.ref s0, .ref s1] h = if cls (h.1 s0) = 6 ∧ oKr (h.1 s0) 3 = true then Rf d 40 38 [a0, a1, a2] [.ref (oR (h.1 s0) 3), .ref s1] h else Rx d 40 35 [a0, a1, a2] [.ref s0, .ref s1] h := getR c40_35
theorem c40_38 : cd 40 38 = some (38, .invokestatic 76, 3, [(0, 41)]) := by decide +kernel
theorem xc40_38 {d : Nat} {a0 a1 a2 : Value} {s0 : Nat} {s1 : Nat} {h : AHp} {h1 : AHp} (hq : Rf d 41 0 [.ref s1, .ref s0] [] h = some (none, h1)) : Rf (d + 1) 40 38 [a0, a1, a2] [.ref s0, .ref s1] h = Rf (d + 1) 40 41 [a0, a1, a2] [] h1 := clS (as := [.ref s1, .ref s0]) c40_38 rfl rfl (by simp [isV]) hq
theorem c40_41 : cd 40 41 = some (41, .aload_n 1, 1, []) := by decide +kernel
theorem x40_41 {d : Nat} {a0 a2 : Value} {x : Nat} {h : AHp} : Rf d 40 41 [a0, .ref x, a2] [] h = Rf d 40 42 [a0, .ref x, a2] [.ref x] h := Rf_go ((stp_of c40_41).trans rfl)
theorem c40_42 : cd 40 42 = some (42, .getfield 21, 3, [(6, 4)]) := by decide +kernel
theorem x40_42 {d : Nat} {a0 a1 a2 : Value} {s0 : Nat} {h : AHp} : Rf d 40 42 [a0, a1, a2] [.ref s0] h = if cls (h.1 s0) = 6 ∧ oKr (h.1 s0) 4 = true then Rf d 40 45 [a0, a1, a2] [.ref (oR (h.1 s0) 4)] h else Rx d 40 42 [a0, a1, a2] [.ref s0] h := getR c40_42
theorem c40_45 : cd 40 45 = some (45, .aload_n 0, 1, []) := by decide +kernel
theorem x40_45 {d : Nat} {a1 a2 : Value} {s0 : Nat} {x : Nat} {h : AHp} : Rf d 40 45 [.ref x, a1, a2] [.ref s0] h = Rf d 40 46 [.ref x, a1, a2] [.ref x, .ref s0] h := Rf_go ((stp_of c40_45).trans rfl)
theorem c40_46 : cd 40 46 = some (46, .getfield 21, 3, [(6, 4)]) := by decide +kernel
theorem x40_46 {d : Nat} {a0 a1 a2 : Value} {s0 : Nat} {s1 : Nat} {h : AHp} : Rf d 40 46 [a0, a1, a2] [.ref s0, .ref s1] h = if cls (h.1 s0) = 6 ∧ oKr (h.1 s0) 4 = true then Rf d 40 49 [a0, a1, a2] [.ref (oR (h.1 s0) 4), .ref s1] h else Rx d 40 46 [a0, a1, a2] [.ref s0, .ref s1] h := getR c40_46
theorem c40_49 : cd 40 49 = some (49, .invokestatic 76, 3, [(0, 41)]) := by decide +kernel
theorem xc40_49 {d : Nat} {a0 a1 a2 : Value} {s0 : Nat} {s1 : Nat} {h : AHp} {h1 : AHp} (hq : Rf d 41 0 [.ref s1, .ref s0] [] h = some (none, h1)) : Rf (d + 1) 40 49 [a0, a1, a2] [.ref s0, .ref s1] h = Rf (d + 1) 40 52 [a0, a1, a2] [] h1 := clS (as := [.ref s1, .ref s0]) c40_49 rfl rfl (by simp [isV]) hq
theorem c40_52 : cd 40 52 = some (52, .aload_n 1, 1, []) := by decide +kernel
theorem x40_52 {d : Nat} {a0 a2 : Value} {x : Nat} {h : AHp} : Rf d 40 52 [a0, .ref x, a2] [] h = Rf d 40 53 [a0, .ref x, a2] [.ref x] h := Rf_go ((stp_of c40_52).trans rfl)
theorem c40_53 : cd 40 53 = some (53, .getfield 24, 3, [(6, 5)]) := by decide +kernel
theorem x40_53 {d : Nat} {a0 a1 a2 : Value} {s0 : Nat} {h : AHp} : Rf d 40 53 [a0, a1, a2] [.ref s0] h = if cls (h.1 s0) = 6 ∧ oKr (h.1 s0) 5 = true then Rf d 40 56 [a0, a1, a2] [.ref (oR (h.1 s0) 5)] h else Rx d 40 53 [a0, a1, a2] [.ref s0] h := getR c40_53
theorem c40_56 : cd 40 56 = some (56, .aload_n 0, 1, []) := by decide +kernel
theorem x40_56 {d : Nat} {a1 a2 : Value} {s0 : Nat} {x : Nat} {h : AHp} : Rf d 40 56 [.ref x, a1, a2] [.ref s0] h = Rf d 40 57 [.ref x, a1, a2] [.ref x, .ref s0] h := Rf_go ((stp_of c40_56).trans rfl)
theorem c40_57 : cd 40 57 = some (57, .getfield 24, 3, [(6, 5)]) := by decide +kernel
theorem x40_57 {d : Nat} {a0 a1 a2 : Value} {s0 : Nat} {s1 : Nat} {h : AHp} : Rf d 40 57 [a0, a1, a2] [.ref s0, .ref s1] h = if cls (h.1 s0) = 6 ∧ oKr (h.1 s0) 5 = true then Rf d 40 60 [a0, a1, a2] [.ref (oR (h.1 s0) 5), .ref s1] h else Rx d 40 57 [a0, a1, a2] [.ref s0, .ref s1] h := getR c40_57
theorem c40_60 : cd 40 60 = some (60, .invokestatic 76, 3, [(0, 41)]) := by decide +kernel
theorem xc40_60 {d : Nat} {a0 a1 a2 : Value} {s0 : Nat} {s1 : Nat} {h : AHp} {h1 : AHp} (hq : Rf d 41 0 [.ref s1, .ref s0] [] h = some (none, h1)) : Rf (d + 1) 40 60 [a0, a1, a2] [.ref s0, .ref s1] h = Rf (d + 1) 40 63 [a0, a1, a2] [] h1 := clS (as := [.ref s1, .ref s0]) c40_60 rfl rfl (by simp [isV]) hq
theorem c40_63 : cd 40 63 = some (63, .aload_n 1, 1, []) := by decide +kernel
theorem x40_63 {d : Nat} {a0 a2 : Value} {x : Nat} {h : AHp} : Rf d 40 63 [a0, .ref x, a2] [] h = Rf d 40 64 [a0, .ref x, a2] [.ref x] h := Rf_go ((stp_of c40_63).trans rfl)
theorem c40_64 : cd 40 64 = some (64, .getfield 27, 3, [(6, 6)]) := by decide +kernel
theorem x40_64 {d : Nat} {a0 a1 a2 : Value} {s0 : Nat} {h : AHp} : Rf d 40 64 [a0, a1, a2] [.ref s0] h = if cls (h.1 s0) = 6 ∧ oKr (h.1 s0) 6 = true then Rf d 40 67 [a0, a1, a2] [.ref (oR (h.1 s0) 6)] h else Rx d 40 64 [a0, a1, a2] [.ref s0] h := getR c40_64
theorem c40_67 : cd 40 67 = some (67, .aload_n 0, 1, []) := by decide +kernel
theorem x40_67 {d : Nat} {a1 a2 : Value} {s0 : Nat} {x : Nat} {h : AHp} : Rf d 40 67 [.ref x, a1, a2] [.ref s0] h = Rf d 40 68 [.ref x, a1, a2] [.ref x, .ref s0] h := Rf_go ((stp_of c40_67).trans rfl)
theorem c40_68 : cd 40 68 = some (68, .getfield 27, 3, [(6, 6)]) := by decide +kernel
theorem x40_68 {d : Nat} {a0 a1 a2 : Value} {s0 : Nat} {s1 : Nat} {h : AHp} : Rf d 40 68 [a0, a1, a2] [.ref s0, .ref s1] h = if cls (h.1 s0) = 6 ∧ oKr (h.1 s0) 6 = true then Rf d 40 71 [a0, a1, a2] [.ref (oR (h.1 s0) 6), .ref s1] h else Rx d 40 68 [a0, a1, a2] [.ref s0, .ref s1] h := getR c40_68
theorem c40_71 : cd 40 71 = some (71, .invokestatic 76, 3, [(0, 41)]) := by decide +kernel
theorem xc40_71 {d : Nat} {a0 a1 a2 : Value} {s0 : Nat} {s1 : Nat} {h : AHp} {h1 : AHp} (hq : Rf d 41 0 [.ref s1, .ref s0] [] h = some (none, h1)) : Rf (d + 1) 40 71 [a0, a1, a2] [.ref s0, .ref s1] h = Rf (d + 1) 40 74 [a0, a1, a2] [] h1 := clS (as := [.ref s1, .ref s0]) c40_71 rfl rfl (by simp [isV]) hq
theorem c40_74 : cd 40 74 = some (74, .iconst 0, 1, []) := by decide +kernel
theorem x40_74 {d : Nat} {a0 a1 a2 : Value} {h : AHp} : Rf d 40 74 [a0, a1, a2] [] h = Rf d 40 75 [a0, a1, a2] [.int 0] h := Rf_go ((stp_of c40_74).trans rfl)
theorem c40_75 : cd 40 75 = some (75, .istore_n 2, 1, []) := by decide +kernel
theorem x40_75 {d : Nat} {a0 a1 a2 : Value} {s0 : Int32} {h : AHp} : Rf d 40 75 [a0, a1, a2] [.int s0] h = Rf d 40 76 [a0, a1, .int s0] [] h := Rf_go ((stp_of c40_75).trans rfl)
theorem c40_76 : cd 40 76 = some (76, .iload_n 2, 1, []) := by decide +kernel
theorem x40_76 {d : Nat} {a0 a1 : Value} {x : Int32} {h : AHp} : Rf d 40 76 [a0, a1, .int x] [] h = Rf d 40 77 [a0, a1, .int x] [.int x] h := Rf_go ((stp_of c40_76).trans rfl)
theorem c40_77 : cd 40 77 = some (77, .bipush 10, 2, []) := by decide +kernel
theorem x40_77 {d : Nat} {a0 a1 a2 : Value} {s0 : Int32} {h : AHp} : Rf d 40 77 [a0, a1, a2] [.int s0] h = Rf d 40 79 [a0, a1, a2] [.int 10, .int s0] h := Rf_go ((stp_of c40_77).trans rfl)
theorem c40_79 : cd 40 79 = some (79, .if_icmp .ge 21, 3, [(100, 0)]) := by decide +kernel
theorem x40_79 {d : Nat} {a0 a1 a2 : Value} {s0 : Int32} {s1 : Int32} {h : AHp} : Rf d 40 79 [a0, a1, a2] [.int s0, .int s1] h = if s1 < s0 then Rf d 40 82 [a0, a1, a2] [] h else Rf d 40 100 [a0, a1, a2] [] h := Rf_brn ((stp_of c40_79).trans rfl)
theorem c40_100 : cd 40 100 = some (100, .aload_n 0, 1, []) := by decide +kernel
theorem x40_100 {d : Nat} {a1 a2 : Value} {x : Nat} {h : AHp} : Rf d 40 100 [.ref x, a1, a2] [] h = Rf d 40 101 [.ref x, a1, a2] [.ref x] h := Rf_go ((stp_of c40_100).trans rfl)
theorem c40_101 : cd 40 101 = some (101, .aload_n 1, 1, []) := by decide +kernel
theorem x40_101 {d : Nat} {a0 a2 : Value} {s0 : Nat} {x : Nat} {h : AHp} : Rf d 40 101 [a0, .ref x, a2] [.ref s0] h = Rf d 40 102 [a0, .ref x, a2] [.ref x, .ref s0] h := Rf_go ((stp_of c40_101).trans rfl)
theorem c40_102 : cd 40 102 = some (102, .getfield 80, 3, [(6, 8)]) := by decide +kernel
theorem x40_102 {d : Nat} {a0 a1 a2 : Value} {s0 : Nat} {s1 : Nat} {h : AHp} : Rf d 40 102 [a0, a1, a2] [.ref s0, .ref s1] h = if cls (h.1 s0) = 6 ∧ oKi (h.1 s0) 8 = true then Rf d 40 105 [a0, a1, a2] [.int (oN (h.1 s0) 8), .ref s1] h else Rx d 40 102 [a0, a1, a2] [.ref s0, .ref s1] h := getI c40_102
theorem c40_105 : cd 40 105 = some (105, .putfield 80, 3, [(6, 8)]) := by decide +kernel
theorem x40_105 {d : Nat} {a0 a1 a2 : Value} {s0 : Int32} {s1 : Nat} {h : AHp} : Rf d 40 105 [a0, a1, a2] [.int s0, .ref s1] h = if cls (h.1 s1) = 6 ∧ oL (h.1 s1) = 15 then Rf d 40 108 [a0, a1, a2] [] (hset h s1 (oSet (h.1 s1) 8 (.int s0))) else Rx d 40 105 [a0, a1, a2] [.int s0, .ref s1] h := putV c40_105 rfl (fMay_i (by decide +kernel))
theorem c40_108 : cd 40 108 = some (108, .aload_n 0, 1, []) := by decide +kernel
theorem x40_108 {d : Nat} {a1 a2 : Value} {x : Nat} {h : AHp} : Rf d 40 108 [.ref x, a1, a2] [] h = Rf d 40 109 [.ref x, a1, a2] [.ref x] h := Rf_go ((stp_of c40_108).trans rfl)
theorem c40_109 : cd 40 109 = some (109, .aload_n 1, 1, []) := by decide +kernel
theorem x40_109 {d : Nat} {a0 a2 : Value} {s0 : Nat} {x : Nat} {h : AHp} : Rf d 40 109 [a0, .ref x, a2] [.ref s0] h = Rf d 40 110 [a0, .ref x, a2] [.ref x, .ref s0] h := Rf_go ((stp_of c40_109).trans rfl)
theorem c40_110 : cd 40 110 = some (110, .getfield 83, 3, [(6, 9)]) := by decide +kernel
theorem x40_110 {d : Nat} {a0 a1 a2 : Value} {s0 : Nat} {s1 : Nat} {h : AHp} : Rf d 40 110 [a0, a1, a2] [.ref s0, .ref s1] h = if cls (h.1 s0) = 6 ∧ oKi (h.1 s0) 9 = true then Rf d 40 113 [a0, a1, a2] [.int (oN (h.1 s0) 9), .ref s1] h else Rx d 40 110 [a0, a1, a2] [.ref s0, .ref s1] h := getI c40_110
theorem c40_113 : cd 40 113 = some (113, .putfield 83, 3, [(6, 9)]) := by decide +kernel
theorem x40_113 {d : Nat} {a0 a1 a2 : Value} {s0 : Int32} {s1 : Nat} {h : AHp} : Rf d 40 113 [a0, a1, a2] [.int s0, .ref s1] h = if cls (h.1 s1) = 6 ∧ oL (h.1 s1) = 15 then Rf d 40 116 [a0, a1, a2] [] (hset h s1 (oSet (h.1 s1) 9 (.int s0))) else Rx d 40 113 [a0, a1, a2] [.int s0, .ref s1] h := putV c40_113 rfl (fMay_i (by decide +kernel))
theorem c40_116 : cd 40 116 = some (116, .aload_n 0, 1, []) := by decide +kernel
theorem x40_116 {d : Nat} {a1 a2 : Value} {x : Nat} {h : AHp} : Rf d 40 116 [.ref x, a1, a2] [] h = Rf d 40 117 [.ref x, a1, a2] [.ref x] h := Rf_go ((stp_of c40_116).trans rfl)
theorem c40_117 : cd 40 117 = some (117, .aload_n 1, 1, []) := by decide +kernel
theorem x40_117 {d : Nat} {a0 a2 : Value} {s0 : Nat} {x : Nat} {h : AHp} : Rf d 40 117 [a0, .ref x, a2] [.ref s0] h = Rf d 40 118 [a0, .ref x, a2] [.ref x, .ref s0] h := Rf_go ((stp_of c40_117).trans rfl)
theorem c40_118 : cd 40 118 = some (118, .getfield 86, 3, [(6, 10)]) := by decide +kernel
theorem x40_118 {d : Nat} {a0 a1 a2 : Value} {s0 : Nat} {s1 : Nat} {h : AHp} : Rf d 40 118 [a0, a1, a2] [.ref s0, .ref s1] h = if cls (h.1 s0) = 6 ∧ oKi (h.1 s0) 10 = true then Rf d 40 121 [a0, a1, a2] [.int (oN (h.1 s0) 10), .ref s1] h else Rx d 40 118 [a0, a1, a2] [.ref s0, .ref s1] h := getI c40_118
theorem c40_121 : cd 40 121 = some (121, .putfield 86, 3, [(6, 10)]) := by decide +kernel
theorem x40_121 {d : Nat} {a0 a1 a2 : Value} {s0 : Int32} {s1 : Nat} {h : AHp} : Rf d 40 121 [a0, a1, a2] [.int s0, .ref s1] h = if cls (h.1 s1) = 6 ∧ oL (h.1 s1) = 15 then Rf d 40 124 [a0, a1, a2] [] (hset h s1 (oSet (h.1 s1) 10 (.int s0))) else Rx d 40 121 [a0, a1, a2] [.int s0, .ref s1] h := putV c40_121 rfl (fMay_i (by decide +kernel))
theorem c40_124 : cd 40 124 = some (124, .aload_n 0, 1, []) := by decide +kernel
theorem x40_124 {d : Nat} {a1 a2 : Value} {x : Nat} {h : AHp} : Rf d 40 124 [.ref x, a1, a2] [] h = Rf d 40 125 [.ref x, a1, a2] [.ref x] h := Rf_go ((stp_of c40_124).trans rfl)
theorem c40_125 : cd 40 125 = some (125, .aload_n 1, 1, []) := by decide +kernel
theorem x40_125 {d : Nat} {a0 a2 : Value} {s0 : Nat} {x : Nat} {h : AHp} : Rf d 40 125 [a0, .ref x, a2] [.ref s0] h = Rf d 40 126 [a0, .ref x, a2] [.ref x, .ref s0] h := Rf_go ((stp_of c40_125).trans rfl)
theorem c40_126 : cd 40 126 = some (126, .getfield 68, 3, [(6, 11)]) := by decide +kernel
theorem x40_126 {d : Nat} {a0 a1 a2 : Value} {s0 : Nat} {s1 : Nat} {h : AHp} : Rf d 40 126 [a0, a1, a2] [.ref s0, .ref s1] h = if cls (h.1 s0) = 6 ∧ oKr (h.1 s0) 11 = true then Rf d 40 129 [a0, a1, a2] [.ref (oR (h.1 s0) 11), .ref s1] h else Rx d 40 126 [a0, a1, a2] [.ref s0, .ref s1] h := getR c40_126
theorem c40_129 : cd 40 129 = some (129, .putfield 68, 3, [(6, 11)]) := by decide +kernel
theorem x40_129 {d : Nat} {a0 a1 a2 : Value} {s0 : Nat} {s1 : Nat} {h : AHp} : Rf d 40 129 [a0, a1, a2] [.ref s0, .ref s1] h = if cls (h.1 s1) = 6 ∧ oL (h.1 s1) = 15 then Rf d 40 132 [a0, a1, a2] [] (hset h s1 (oSet (h.1 s1) 11 (.ref s0))) else Rx d 40 129 [a0, a1, a2] [.ref s0, .ref s1] h := putV c40_129 rfl (fMay_o (C := "PayUntold$House") (by decide +kernel))
theorem c40_132 : cd 40 132 = some (132, .return_, 1, []) := by decide +kernel
theorem x40_132 {d : Nat} {a0 a1 a2 : Value} {h : AHp} : Rf d 40 132 [a0, a1, a2] [] h = some (none, h) := Rf_end (endV c40_132 (by decide +kernel))
theorem c40_82 : cd 40 82 = some (82, .aload_n 0, 1, []) := by decide +kernel
theorem x40_82 {d : Nat} {a1 a2 : Value} {x : Nat} {h : AHp} : Rf d 40 82 [.ref x, a1, a2] [] h = Rf d 40 83 [.ref x, a1, a2] [.ref x] h := Rf_go ((stp_of c40_82).trans rfl)
theorem c40_83 : cd 40 83 = some (83, .getfield 32, 3, [(6, 7)]) := by decide +kernel
theorem x40_83 {d : Nat} {a0 a1 a2 : Value} {s0 : Nat} {h : AHp} : Rf d 40 83 [a0, a1, a2] [.ref s0] h = if cls (h.1 s0) = 6 ∧ oKr (h.1 s0) 7 = true then Rf d 40 86 [a0, a1, a2] [.ref (oR (h.1 s0) 7)] h else Rx d 40 83 [a0, a1, a2] [.ref s0] h := getR c40_83
theorem c40_86 : cd 40 86 = some (86, .iload_n 2, 1, []) := by decide +kernel
theorem x40_86 {d : Nat} {a0 a1 : Value} {s0 : Nat} {x : Int32} {h : AHp} : Rf d 40 86 [a0, a1, .int x] [.ref s0] h = Rf d 40 87 [a0, a1, .int x] [.int x, .ref s0] h := Rf_go ((stp_of c40_86).trans rfl)
theorem c40_87 : cd 40 87 = some (87, .aload_n 1, 1, []) := by decide +kernel
theorem x40_87 {d : Nat} {a0 a2 : Value} {s0 : Int32} {s1 : Nat} {x : Nat} {h : AHp} : Rf d 40 87 [a0, .ref x, a2] [.int s0, .ref s1] h = Rf d 40 88 [a0, .ref x, a2] [.ref x, .int s0, .ref s1] h := Rf_go ((stp_of c40_87).trans rfl)
theorem c40_88 : cd 40 88 = some (88, .getfield 32, 3, [(6, 7)]) := by decide +kernel
theorem x40_88 {d : Nat} {a0 a1 a2 : Value} {s0 : Nat} {s1 : Int32} {s2 : Nat} {h : AHp} : Rf d 40 88 [a0, a1, a2] [.ref s0, .int s1, .ref s2] h = if cls (h.1 s0) = 6 ∧ oKr (h.1 s0) 7 = true then Rf d 40 91 [a0, a1, a2] [.ref (oR (h.1 s0) 7), .int s1, .ref s2] h else Rx d 40 88 [a0, a1, a2] [.ref s0, .int s1, .ref s2] h := getR c40_88
theorem c40_91 : cd 40 91 = some (91, .iload_n 2, 1, []) := by decide +kernel
theorem x40_91 {d : Nat} {a0 a1 : Value} {s0 : Nat} {s1 : Int32} {s2 : Nat} {x : Int32} {h : AHp} : Rf d 40 91 [a0, a1, .int x] [.ref s0, .int s1, .ref s2] h = Rf d 40 92 [a0, a1, .int x] [.int x, .ref s0, .int s1, .ref s2] h := Rf_go ((stp_of c40_91).trans rfl)
theorem c40_92 : cd 40 92 = some (92, .aaload, 1, []) := by decide +kernel
theorem x40_92 {d : Nat} {a0 a1 a2 : Value} {s0 : Int32} {s1 : Nat} {s2 : Int32} {s3 : Nat} {h : AHp} : Rf d 40 92 [a0, a1, a2] [.int s0, .ref s1, .int s2, .ref s3] h = if aTq (h.1 s1) = 3 ∧ inB s0 (aN (h.1 s1)) = true ∧ (aG (h.1 s1) s0.toNatClampNeg).isSome = true then Rf d 40 93 [a0, a1, a2] [.ref ((aG (h.1 s1) s0.toNatClampNeg).getD 0), .int s2, .ref s3] h else Rx d 40 92 [a0, a1, a2] [.int s0, .ref s1, .int s2, .ref s3] h := ldQ c40_92
theorem c40_93 : cd 40 93 = some (93, .aastore, 1, []) := by decide +kernel
theorem x40_93 {d : Nat} {a0 a1 a2 : Value} {s0 : Nat} {s1 : Int32} {s2 : Nat} {h : AHp} : Rf d 40 93 [a0, a1, a2] [.ref s0, .int s1, .ref s2] h = if isKn (h.1 s0) = true ∧ aTq (h.1 s2) = 3 ∧ inB s1 (aN (h.1 s2)) = true then Rf d 40 94 [a0, a1, a2] [] (hset h s2 (.inl (3, aN (h.1 s2), .inr (.inr (.inr (.inr (va_up (aG (h.1 s2)) s1.toNatClampNeg (some s0)))))))) else Rx d 40 93 [a0, a1, a2] [.ref s0, .int s1, .ref s2] h := stQ c40_93
theorem c40_94 : cd 40 94 = some (94, .iinc 2 1, 3, []) := by decide +kernel
theorem x40_94 {d : Nat} {a0 a1 : Value} {x : Int32} {h : AHp} : Rf d 40 94 [a0, a1, .int x] [] h = Rf d 40 97 [a0, a1, .int (x + 1)] [] h := Rf_go ((stp_of c40_94).trans rfl)
theorem c40_97 : cd 40 97 = some (97, .goto (-21), 3, [(76, 0)]) := by decide +kernel
theorem x40_97 {d : Nat} {a0 a1 a2 : Value} {h : AHp} : Rf d 40 97 [a0, a1, a2] [] h = Rf d 40 76 [a0, a1, a2] [] h := Rf_go ((stp_of c40_97).trans rfl)
-- 41: X6_copyRow
theorem c41_0 : cd 41 0 = some (0, .aload_n 0, 1, []) := by decide +kernel
theorem x41_0 {d : Nat} {a1 : Value} {x : Nat} {h : AHp} : Rf d 41 0 [.ref x, a1] [] h = Rf d 41 1 [.ref x, a1] [.ref x] h := Rf_go ((stp_of c41_0).trans rfl)
theorem c41_1 : cd 41 1 = some (1, .iconst 0, 1, []) := by decide +kernel
theorem x41_1 {d : Nat} {a0 a1 : Value} {s0 : Nat} {h : AHp} : Rf d 41 1 [a0, a1] [.ref s0] h = Rf d 41 2 [a0, a1] [.int 0, .ref s0] h := Rf_go ((stp_of c41_1).trans rfl)
theorem c41_2 : cd 41 2 = some (2, .aload_n 1, 1, []) := by decide +kernel
theorem x41_2 {d : Nat} {a0 : Value} {s0 : Int32} {s1 : Nat} {x : Nat} {h : AHp} : Rf d 41 2 [a0, .ref x] [.int s0, .ref s1] h = Rf d 41 3 [a0, .ref x] [.ref x, .int s0, .ref s1] h := Rf_go ((stp_of c41_2).trans rfl)
theorem c41_3 : cd 41 3 = some (3, .iconst 0, 1, []) := by decide +kernel
theorem x41_3 {d : Nat} {a0 a1 : Value} {s0 : Nat} {s1 : Int32} {s2 : Nat} {h : AHp} : Rf d 41 3 [a0, a1] [.ref s0, .int s1, .ref s2] h = Rf d 41 4 [a0, a1] [.int 0, .ref s0, .int s1, .ref s2] h := Rf_go ((stp_of c41_3).trans rfl)
theorem c41_4 : cd 41 4 = some (4, .bipush 10, 2, []) := by decide +kernel
theorem x41_4 {d : Nat} {a0 a1 : Value} {s0 : Int32} {s1 : Nat} {s2 : Int32} {s3 : Nat} {h : AHp} : Rf d 41 4 [a0, a1] [.int s0, .ref s1, .int s2, .ref s3] h = Rf d 41 6 [a0, a1] [.int 10, .int s0, .ref s1, .int s2, .ref s3] h := Rf_go ((stp_of c41_4).trans rfl)
theorem c41_6 : cd 41 6 = some (6, .invokestatic 89, 3, [(1000, 0)]) := by decide +kernel
theorem x41_6 {d : Nat} {a0 a1 : Value} {s0 : Int32} {s1 : Int32} {s2 : Nat} {s3 : Int32} {s4 : Nat} {h : AHp} : Rf d 41 6 [a0, a1] [.int s0, .int s1, .ref s2, .int s3, .ref s4] h = if (copyC (h.1 s4) (h.1 s2) s3 s1 s0).isSome = true then Rf d 41 9 [a0, a1] [] (hset h s2 ((copyC (h.1 s4) (h.1 s2) s3 s1 s0).getD noC)) else Rx d 41 6 [a0, a1] [.int s0, .int s1, .ref s2, .int s3, .ref s4] h := cpA c41_6 (by simp)
theorem c41_9 : cd 41 9 = some (9, .return_, 1, []) := by decide +kernel
theorem x41_9 {d : Nat} {a0 a1 : Value} {h : AHp} : Rf d 41 9 [a0, a1] [] h = some (none, h) := Rf_end (endV c41_9 (by decide +kernel))
-- 42: X6_isWorker
theorem c42_0 : cd 42 0 = some (0, .iload_n 1, 1, []) := by decide +kernel
theorem x42_0 {d : Nat} {a0 : Value} {x : Int32} {h : AHp} : Rf d 42 0 [a0, .int x] [] h = Rf d 42 1 [a0, .int x] [.int x] h := Rf_go ((stp_of c42_0).trans rfl)
theorem c42_1 : cd 42 1 = some (1, .ifCond .lt 15, 3, [(16, 0)]) := by decide +kernel
theorem x42_1 {d : Nat} {a0 a1 : Value} {s0 : Int32} {h : AHp} : Rf d 42 1 [a0, a1] [.int s0] h = if s0 < 0 then Rf d 42 16 [a0, a1] [] h else Rf d 42 4 [a0, a1] [] h := Rf_brd ((stp_of c42_1).trans rfl)
theorem c42_16 : cd 42 16 = some (16, .iconst 0, 1, []) := by decide +kernel
theorem x42_16 {d : Nat} {a0 a1 : Value} {h : AHp} : Rf d 42 16 [a0, a1] [] h = Rf d 42 17 [a0, a1] [.int 0] h := Rf_go ((stp_of c42_16).trans rfl)
theorem c42_17 : cd 42 17 = some (17, .ireturn, 1, []) := by decide +kernel
theorem x42_17 {d : Nat} {a0 a1 : Value} {s0 : Int32} {h : AHp} : Rf d 42 17 [a0, a1] [.int s0] h = if retI (some .boolean) s0 = true then some (some (.int s0), h) else Rx d 42 17 [a0, a1] [.int s0] h := Rf_ife (fun hk => by rw [stp_of c42_17]; exact if_pos hk)
theorem c42_4 : cd 42 4 = some (4, .iload_n 1, 1, []) := by decide +kernel
theorem x42_4 {d : Nat} {a0 : Value} {x : Int32} {h : AHp} : Rf d 42 4 [a0, .int x] [] h = Rf d 42 5 [a0, .int x] [.int x] h := Rf_go ((stp_of c42_4).trans rfl)
theorem c42_5 : cd 42 5 = some (5, .aload_n 0, 1, []) := by decide +kernel
theorem x42_5 {d : Nat} {a1 : Value} {s0 : Int32} {x : Nat} {h : AHp} : Rf d 42 5 [.ref x, a1] [.int s0] h = Rf d 42 6 [.ref x, a1] [.ref x, .int s0] h := Rf_go ((stp_of c42_5).trans rfl)
theorem c42_6 : cd 42 6 = some (6, .getfield 72, 3, [(6, 0)]) := by decide +kernel
theorem x42_6 {d : Nat} {a0 a1 : Value} {s0 : Nat} {s1 : Int32} {h : AHp} : Rf d 42 6 [a0, a1] [.ref s0, .int s1] h = if cls (h.1 s0) = 6 ∧ oKi (h.1 s0) 0 = true then Rf d 42 9 [a0, a1] [.int (oN (h.1 s0) 0), .int s1] h else Rx d 42 6 [a0, a1] [.ref s0, .int s1] h := getI c42_6
theorem c42_9 : cd 42 9 = some (9, .if_icmp .ge 7, 3, [(16, 0)]) := by decide +kernel
theorem x42_9 {d : Nat} {a0 a1 : Value} {s0 : Int32} {s1 : Int32} {h : AHp} : Rf d 42 9 [a0, a1] [.int s0, .int s1] h = if s1 < s0 then Rf d 42 12 [a0, a1] [] h else Rf d 42 16 [a0, a1] [] h := Rf_brn ((stp_of c42_9).trans rfl)
theorem c42_12 : cd 42 12 = some (12, .iconst 1, 1, []) := by decide +kernel
theorem x42_12 {d : Nat} {a0 a1 : Value} {h : AHp} : Rf d 42 12 [a0, a1] [] h = Rf d 42 13 [a0, a1] [.int 1] h := Rf_go ((stp_of c42_12).trans rfl)
theorem c42_13 : cd 42 13 = some (13, .goto 4, 3, [(17, 0)]) := by decide +kernel
theorem x42_13 {d : Nat} {a0 a1 : Value} {s0 : Int32} {h : AHp} : Rf d 42 13 [a0, a1] [.int s0] h = Rf d 42 17 [a0, a1] [.int s0] h := Rf_go ((stp_of c42_13).trans rfl)
-- 43: X6_hire
theorem c43_0 : cd 43 0 = some (0, .aload_n 0, 1, []) := by decide +kernel
theorem x43_0 {d : Nat} {a1 a2 a3 a4 a5 : Value} {x : Nat} {h : AHp} : Rf d 43 0 [.ref x, a1, a2, a3, a4, a5] [] h = Rf d 43 1 [.ref x, a1, a2, a3, a4, a5] [.ref x] h := Rf_go ((stp_of c43_0).trans rfl)
theorem c43_1 : cd 43 1 = some (1, .getfield 72, 3, [(6, 0)]) := by decide +kernel
theorem x43_1 {d : Nat} {a0 a1 a2 a3 a4 a5 : Value} {s0 : Nat} {h : AHp} : Rf d 43 1 [a0, a1, a2, a3, a4, a5] [.ref s0] h = if cls (h.1 s0) = 6 ∧ oKi (h.1 s0) 0 = true then Rf d 43 4 [a0, a1, a2, a3, a4, a5] [.int (oN (h.1 s0) 0)] h else Rx d 43 1 [a0, a1, a2, a3, a4, a5] [.ref s0] h := getI c43_1
theorem c43_4 : cd 43 4 = some (4, .istore 5, 2, []) := by decide +kernel
theorem x43_4 {d : Nat} {a0 a1 a2 a3 a4 a5 : Value} {s0 : Int32} {h : AHp} : Rf d 43 4 [a0, a1, a2, a3, a4, a5] [.int s0] h = Rf d 43 6 [a0, a1, a2, a3, a4, .int s0] [] h := Rf_go ((stp_of c43_4).trans rfl)
theorem c43_6 : cd 43 6 = some (6, .aload_n 0, 1, []) := by decide +kernel
theorem x43_6 {d : Nat} {a1 a2 a3 a4 a5 : Value} {x : Nat} {h : AHp} : Rf d 43 6 [.ref x, a1, a2, a3, a4, a5] [] h = Rf d 43 7 [.ref x, a1, a2, a3, a4, a5] [.ref x] h := Rf_go ((stp_of c43_6).trans rfl)
theorem c43_7 : cd 43 7 = some (7, .dup, 1, []) := by decide +kernel
theorem x43_7 {d : Nat} {a0 a1 a2 a3 a4 a5 : Value} {s0 : Nat} {h : AHp} : Rf d 43 7 [a0, a1, a2, a3, a4, a5] [.ref s0] h = Rf d 43 8 [a0, a1, a2, a3, a4, a5] [.ref s0, .ref s0] h := Rf_go ((stp_of c43_7).trans rfl)
theorem c43_8 : cd 43 8 = some (8, .getfield 72, 3, [(6, 0)]) := by decide +kernel
theorem x43_8 {d : Nat} {a0 a1 a2 a3 a4 a5 : Value} {s0 : Nat} {s1 : Nat} {h : AHp} : Rf d 43 8 [a0, a1, a2, a3, a4, a5] [.ref s0, .ref s1] h = if cls (h.1 s0) = 6 ∧ oKi (h.1 s0) 0 = true then Rf d 43 11 [a0, a1, a2, a3, a4, a5] [.int (oN (h.1 s0) 0), .ref s1] h else Rx d 43 8 [a0, a1, a2, a3, a4, a5] [.ref s0, .ref s1] h := getI c43_8
theorem c43_11 : cd 43 11 = some (11, .iconst 1, 1, []) := by decide +kernel
theorem x43_11 {d : Nat} {a0 a1 a2 a3 a4 a5 : Value} {s0 : Int32} {s1 : Nat} {h : AHp} : Rf d 43 11 [a0, a1, a2, a3, a4, a5] [.int s0, .ref s1] h = Rf d 43 12 [a0, a1, a2, a3, a4, a5] [.int 1, .int s0, .ref s1] h := Rf_go ((stp_of c43_11).trans rfl)
theorem c43_12 : cd 43 12 = some (12, .iadd, 1, []) := by decide +kernel
theorem x43_12 {d : Nat} {a0 a1 a2 a3 a4 a5 : Value} {s0 : Int32} {s1 : Int32} {s2 : Nat} {h : AHp} : Rf d 43 12 [a0, a1, a2, a3, a4, a5] [.int s0, .int s1, .ref s2] h = Rf d 43 13 [a0, a1, a2, a3, a4, a5] [.int (s1 + s0), .ref s2] h := Rf_go ((stp_of c43_12).trans rfl)
theorem c43_13 : cd 43 13 = some (13, .putfield 72, 3, [(6, 0)]) := by decide +kernel
theorem x43_13 {d : Nat} {a0 a1 a2 a3 a4 a5 : Value} {s0 : Int32} {s1 : Nat} {h : AHp} : Rf d 43 13 [a0, a1, a2, a3, a4, a5] [.int s0, .ref s1] h = if cls (h.1 s1) = 6 ∧ oL (h.1 s1) = 15 then Rf d 43 16 [a0, a1, a2, a3, a4, a5] [] (hset h s1 (oSet (h.1 s1) 0 (.int s0))) else Rx d 43 13 [a0, a1, a2, a3, a4, a5] [.int s0, .ref s1] h := putV c43_13 rfl (fMay_i (by decide +kernel))
theorem c43_16 : cd 43 16 = some (16, .aload_n 0, 1, []) := by decide +kernel
theorem x43_16 {d : Nat} {a1 a2 a3 a4 a5 : Value} {x : Nat} {h : AHp} : Rf d 43 16 [.ref x, a1, a2, a3, a4, a5] [] h = Rf d 43 17 [.ref x, a1, a2, a3, a4, a5] [.ref x] h := Rf_go ((stp_of c43_16).trans rfl)
theorem c43_17 : cd 43 17 = some (17, .getfield 9, 3, [(6, 1)]) := by decide +kernel
theorem x43_17 {d : Nat} {a0 a1 a2 a3 a4 a5 : Value} {s0 : Nat} {h : AHp} : Rf d 43 17 [a0, a1, a2, a3, a4, a5] [.ref s0] h = if cls (h.1 s0) = 6 ∧ oKr (h.1 s0) 1 = true then Rf d 43 20 [a0, a1, a2, a3, a4, a5] [.ref (oR (h.1 s0) 1)] h else Rx d 43 17 [a0, a1, a2, a3, a4, a5] [.ref s0] h := getR c43_17
theorem c43_20 : cd 43 20 = some (20, .iload 5, 2, []) := by decide +kernel
theorem x43_20 {d : Nat} {a0 a1 a2 a3 a4 : Value} {s0 : Nat} {x : Int32} {h : AHp} : Rf d 43 20 [a0, a1, a2, a3, a4, .int x] [.ref s0] h = Rf d 43 22 [a0, a1, a2, a3, a4, .int x] [.int x, .ref s0] h := Rf_go ((stp_of c43_20).trans rfl)
theorem c43_22 : cd 43 22 = some (22, .iload_n 1, 1, []) := by decide +kernel
theorem x43_22 {d : Nat} {a0 a2 a3 a4 a5 : Value} {s0 : Int32} {s1 : Nat} {x : Int32} {h : AHp} : Rf d 43 22 [a0, .int x, a2, a3, a4, a5] [.int s0, .ref s1] h = Rf d 43 23 [a0, .int x, a2, a3, a4, a5] [.int x, .int s0, .ref s1] h := Rf_go ((stp_of c43_22).trans rfl)
theorem c43_23 : cd 43 23 = some (23, .iastore, 1, []) := by decide +kernel
theorem x43_23 {d : Nat} {a0 a1 a2 a3 a4 a5 : Value} {s0 : Int32} {s1 : Int32} {s2 : Nat} {h : AHp} : Rf d 43 23 [a0, a1, a2, a3, a4, a5] [.int s0, .int s1, .ref s2] h = if aT (h.1 s2) = 0 ∧ inB s1 (aN (h.1 s2)) = true then Rf d 43 24 [a0, a1, a2, a3, a4, a5] [] (hset h s2 (.inl (0, aN (h.1 s2), .inl (upd (aF (h.1 s2)) s1.toNatClampNeg s0)))) else Rx d 43 23 [a0, a1, a2, a3, a4, a5] [.int s0, .int s1, .ref s2] h := stI c43_23
theorem c43_24 : cd 43 24 = some (24, .aload_n 0, 1, []) := by decide +kernel
theorem x43_24 {d : Nat} {a1 a2 a3 a4 a5 : Value} {x : Nat} {h : AHp} : Rf d 43 24 [.ref x, a1, a2, a3, a4, a5] [] h = Rf d 43 25 [.ref x, a1, a2, a3, a4, a5] [.ref x] h := Rf_go ((stp_of c43_24).trans rfl)
theorem c43_25 : cd 43 25 = some (25, .getfield 15, 3, [(6, 2)]) := by decide +kernel
theorem x43_25 {d : Nat} {a0 a1 a2 a3 a4 a5 : Value} {s0 : Nat} {h : AHp} : Rf d 43 25 [a0, a1, a2, a3, a4, a5] [.ref s0] h = if cls (h.1 s0) = 6 ∧ oKr (h.1 s0) 2 = true then Rf d 43 28 [a0, a1, a2, a3, a4, a5] [.ref (oR (h.1 s0) 2)] h else Rx d 43 25 [a0, a1, a2, a3, a4, a5] [.ref s0] h := getR c43_25
theorem c43_28 : cd 43 28 = some (28, .iload_n 1, 1, []) := by decide +kernel
theorem x43_28 {d : Nat} {a0 a2 a3 a4 a5 : Value} {s0 : Nat} {x : Int32} {h : AHp} : Rf d 43 28 [a0, .int x, a2, a3, a4, a5] [.ref s0] h = Rf d 43 29 [a0, .int x, a2, a3, a4, a5] [.int x, .ref s0] h := Rf_go ((stp_of c43_28).trans rfl)
theorem c43_29 : cd 43 29 = some (29, .iload 5, 2, []) := by decide +kernel
theorem x43_29 {d : Nat} {a0 a1 a2 a3 a4 : Value} {s0 : Int32} {s1 : Nat} {x : Int32} {h : AHp} : Rf d 43 29 [a0, a1, a2, a3, a4, .int x] [.int s0, .ref s1] h = Rf d 43 31 [a0, a1, a2, a3, a4, .int x] [.int x, .int s0, .ref s1] h := Rf_go ((stp_of c43_29).trans rfl)
theorem c43_31 : cd 43 31 = some (31, .iastore, 1, []) := by decide +kernel
theorem x43_31 {d : Nat} {a0 a1 a2 a3 a4 a5 : Value} {s0 : Int32} {s1 : Int32} {s2 : Nat} {h : AHp} : Rf d 43 31 [a0, a1, a2, a3, a4, a5] [.int s0, .int s1, .ref s2] h = if aT (h.1 s2) = 0 ∧ inB s1 (aN (h.1 s2)) = true then Rf d 43 32 [a0, a1, a2, a3, a4, a5] [] (hset h s2 (.inl (0, aN (h.1 s2), .inl (upd (aF (h.1 s2)) s1.toNatClampNeg s0)))) else Rx d 43 31 [a0, a1, a2, a3, a4, a5] [.int s0, .int s1, .ref s2] h := stI c43_31
theorem c43_32 : cd 43 32 = some (32, .aload_n 0, 1, []) := by decide +kernel
theorem x43_32 {d : Nat} {a1 a2 a3 a4 a5 : Value} {x : Nat} {h : AHp} : Rf d 43 32 [.ref x, a1, a2, a3, a4, a5] [] h = Rf d 43 33 [.ref x, a1, a2, a3, a4, a5] [.ref x] h := Rf_go ((stp_of c43_32).trans rfl)
theorem c43_33 : cd 43 33 = some (33, .getfield 18, 3, [(6, 3)]) := by decide +kernel
theorem x43_33 {d : Nat} {a0 a1 a2 a3 a4 a5 : Value} {s0 : Nat} {h : AHp} : Rf d 43 33 [a0, a1, a2, a3, a4, a5] [.ref s0] h = if cls (h.1 s0) = 6 ∧ oKr (h.1 s0) 3 = true then Rf d 43 36 [a0, a1, a2, a3, a4, a5] [.ref (oR (h.1 s0) 3)] h else Rx d 43 33 [a0, a1, a2, a3, a4, a5] [.ref s0] h := getR c43_33
theorem c43_36 : cd 43 36 = some (36, .iload 5, 2, []) := by decide +kernel
theorem x43_36 {d : Nat} {a0 a1 a2 a3 a4 : Value} {s0 : Nat} {x : Int32} {h : AHp} : Rf d 43 36 [a0, a1, a2, a3, a4, .int x] [.ref s0] h = Rf d 43 38 [a0, a1, a2, a3, a4, .int x] [.int x, .ref s0] h := Rf_go ((stp_of c43_36).trans rfl)
theorem c43_38 : cd 43 38 = some (38, .iload_n 2, 1, []) := by decide +kernel
theorem x43_38 {d : Nat} {a0 a1 a3 a4 a5 : Value} {s0 : Int32} {s1 : Nat} {x : Int32} {h : AHp} : Rf d 43 38 [a0, a1, .int x, a3, a4, a5] [.int s0, .ref s1] h = Rf d 43 39 [a0, a1, .int x, a3, a4, a5] [.int x, .int s0, .ref s1] h := Rf_go ((stp_of c43_38).trans rfl)
theorem c43_39 : cd 43 39 = some (39, .iastore, 1, []) := by decide +kernel
theorem x43_39 {d : Nat} {a0 a1 a2 a3 a4 a5 : Value} {s0 : Int32} {s1 : Int32} {s2 : Nat} {h : AHp} : Rf d 43 39 [a0, a1, a2, a3, a4, a5] [.int s0, .int s1, .ref s2] h = if aT (h.1 s2) = 0 ∧ inB s1 (aN (h.1 s2)) = true then Rf d 43 40 [a0, a1, a2, a3, a4, a5] [] (hset h s2 (.inl (0, aN (h.1 s2), .inl (upd (aF (h.1 s2)) s1.toNatClampNeg s0)))) else Rx d 43 39 [a0, a1, a2, a3, a4, a5] [.int s0, .int s1, .ref s2] h := stI c43_39
theorem c43_40 : cd 43 40 = some (40, .aload_n 0, 1, []) := by decide +kernel
theorem x43_40 {d : Nat} {a1 a2 a3 a4 a5 : Value} {x : Nat} {h : AHp} : Rf d 43 40 [.ref x, a1, a2, a3, a4, a5] [] h = Rf d 43 41 [.ref x, a1, a2, a3, a4, a5] [.ref x] h := Rf_go ((stp_of c43_40).trans rfl)
theorem c43_41 : cd 43 41 = some (41, .getfield 21, 3, [(6, 4)]) := by decide +kernel
theorem x43_41 {d : Nat} {a0 a1 a2 a3 a4 a5 : Value} {s0 : Nat} {h : AHp} : Rf d 43 41 [a0, a1, a2, a3, a4, a5] [.ref s0] h = if cls (h.1 s0) = 6 ∧ oKr (h.1 s0) 4 = true then Rf d 43 44 [a0, a1, a2, a3, a4, a5] [.ref (oR (h.1 s0) 4)] h else Rx d 43 41 [a0, a1, a2, a3, a4, a5] [.ref s0] h := getR c43_41
theorem c43_44 : cd 43 44 = some (44, .iload 5, 2, []) := by decide +kernel
theorem x43_44 {d : Nat} {a0 a1 a2 a3 a4 : Value} {s0 : Nat} {x : Int32} {h : AHp} : Rf d 43 44 [a0, a1, a2, a3, a4, .int x] [.ref s0] h = Rf d 43 46 [a0, a1, a2, a3, a4, .int x] [.int x, .ref s0] h := Rf_go ((stp_of c43_44).trans rfl)
theorem c43_46 : cd 43 46 = some (46, .iload_n 3, 1, []) := by decide +kernel
theorem x43_46 {d : Nat} {a0 a1 a2 a4 a5 : Value} {s0 : Int32} {s1 : Nat} {x : Int32} {h : AHp} : Rf d 43 46 [a0, a1, a2, .int x, a4, a5] [.int s0, .ref s1] h = Rf d 43 47 [a0, a1, a2, .int x, a4, a5] [.int x, .int s0, .ref s1] h := Rf_go ((stp_of c43_46).trans rfl)
theorem c43_47 : cd 43 47 = some (47, .iastore, 1, []) := by decide +kernel
theorem x43_47 {d : Nat} {a0 a1 a2 a3 a4 a5 : Value} {s0 : Int32} {s1 : Int32} {s2 : Nat} {h : AHp} : Rf d 43 47 [a0, a1, a2, a3, a4, a5] [.int s0, .int s1, .ref s2] h = if aT (h.1 s2) = 0 ∧ inB s1 (aN (h.1 s2)) = true then Rf d 43 48 [a0, a1, a2, a3, a4, a5] [] (hset h s2 (.inl (0, aN (h.1 s2), .inl (upd (aF (h.1 s2)) s1.toNatClampNeg s0)))) else Rx d 43 47 [a0, a1, a2, a3, a4, a5] [.int s0, .int s1, .ref s2] h := stI c43_47
theorem c43_48 : cd 43 48 = some (48, .aload_n 0, 1, []) := by decide +kernel
theorem x43_48 {d : Nat} {a1 a2 a3 a4 a5 : Value} {x : Nat} {h : AHp} : Rf d 43 48 [.ref x, a1, a2, a3, a4, a5] [] h = Rf d 43 49 [.ref x, a1, a2, a3, a4, a5] [.ref x] h := Rf_go ((stp_of c43_48).trans rfl)
theorem c43_49 : cd 43 49 = some (49, .getfield 24, 3, [(6, 5)]) := by decide +kernel
theorem x43_49 {d : Nat} {a0 a1 a2 a3 a4 a5 : Value} {s0 : Nat} {h : AHp} : Rf d 43 49 [a0, a1, a2, a3, a4, a5] [.ref s0] h = if cls (h.1 s0) = 6 ∧ oKr (h.1 s0) 5 = true then Rf d 43 52 [a0, a1, a2, a3, a4, a5] [.ref (oR (h.1 s0) 5)] h else Rx d 43 49 [a0, a1, a2, a3, a4, a5] [.ref s0] h := getR c43_49
theorem c43_52 : cd 43 52 = some (52, .iload 5, 2, []) := by decide +kernel
theorem x43_52 {d : Nat} {a0 a1 a2 a3 a4 : Value} {s0 : Nat} {x : Int32} {h : AHp} : Rf d 43 52 [a0, a1, a2, a3, a4, .int x] [.ref s0] h = Rf d 43 54 [a0, a1, a2, a3, a4, .int x] [.int x, .ref s0] h := Rf_go ((stp_of c43_52).trans rfl)
theorem c43_54 : cd 43 54 = some (54, .iload 4, 2, []) := by decide +kernel
theorem x43_54 {d : Nat} {a0 a1 a2 a3 a5 : Value} {s0 : Int32} {s1 : Nat} {x : Int32} {h : AHp} : Rf d 43 54 [a0, a1, a2, a3, .int x, a5] [.int s0, .ref s1] h = Rf d 43 56 [a0, a1, a2, a3, .int x, a5] [.int x, .int s0, .ref s1] h := Rf_go ((stp_of c43_54).trans rfl)
theorem c43_56 : cd 43 56 = some (56, .iastore, 1, []) := by decide +kernel
theorem x43_56 {d : Nat} {a0 a1 a2 a3 a4 a5 : Value} {s0 : Int32} {s1 : Int32} {s2 : Nat} {h : AHp} : Rf d 43 56 [a0, a1, a2, a3, a4, a5] [.int s0, .int s1, .ref s2] h = if aT (h.1 s2) = 0 ∧ inB s1 (aN (h.1 s2)) = true then Rf d 43 57 [a0, a1, a2, a3, a4, a5] [] (hset h s2 (.inl (0, aN (h.1 s2), .inl (upd (aF (h.1 s2)) s1.toNatClampNeg s0)))) else Rx d 43 56 [a0, a1, a2, a3, a4, a5] [.int s0, .int s1, .ref s2] h := stI c43_56
theorem c43_57 : cd 43 57 = some (57, .aload_n 0, 1, []) := by decide +kernel
theorem x43_57 {d : Nat} {a1 a2 a3 a4 a5 : Value} {x : Nat} {h : AHp} : Rf d 43 57 [.ref x, a1, a2, a3, a4, a5] [] h = Rf d 43 58 [.ref x, a1, a2, a3, a4, a5] [.ref x] h := Rf_go ((stp_of c43_57).trans rfl)
theorem c43_58 : cd 43 58 = some (58, .getfield 27, 3, [(6, 6)]) := by decide +kernel
theorem x43_58 {d : Nat} {a0 a1 a2 a3 a4 a5 : Value} {s0 : Nat} {h : AHp} : Rf d 43 58 [a0, a1, a2, a3, a4, a5] [.ref s0] h = if cls (h.1 s0) = 6 ∧ oKr (h.1 s0) 6 = true then Rf d 43 61 [a0, a1, a2, a3, a4, a5] [.ref (oR (h.1 s0) 6)] h else Rx d 43 58 [a0, a1, a2, a3, a4, a5] [.ref s0] h := getR c43_58
theorem c43_61 : cd 43 61 = some (61, .iload 5, 2, []) := by decide +kernel
theorem x43_61 {d : Nat} {a0 a1 a2 a3 a4 : Value} {s0 : Nat} {x : Int32} {h : AHp} : Rf d 43 61 [a0, a1, a2, a3, a4, .int x] [.ref s0] h = Rf d 43 63 [a0, a1, a2, a3, a4, .int x] [.int x, .ref s0] h := Rf_go ((stp_of c43_61).trans rfl)
theorem c43_63 : cd 43 63 = some (63, .bipush (-5), 2, []) := by decide +kernel
theorem x43_63 {d : Nat} {a0 a1 a2 a3 a4 a5 : Value} {s0 : Int32} {s1 : Nat} {h : AHp} : Rf d 43 63 [a0, a1, a2, a3, a4, a5] [.int s0, .ref s1] h = Rf d 43 65 [a0, a1, a2, a3, a4, a5] [.int (-5), .int s0, .ref s1] h := Rf_go ((stp_of c43_63).trans rfl)
theorem c43_65 : cd 43 65 = some (65, .iastore, 1, []) := by decide +kernel
theorem x43_65 {d : Nat} {a0 a1 a2 a3 a4 a5 : Value} {s0 : Int32} {s1 : Int32} {s2 : Nat} {h : AHp} : Rf d 43 65 [a0, a1, a2, a3, a4, a5] [.int s0, .int s1, .ref s2] h = if aT (h.1 s2) = 0 ∧ inB s1 (aN (h.1 s2)) = true then Rf d 43 66 [a0, a1, a2, a3, a4, a5] [] (hset h s2 (.inl (0, aN (h.1 s2), .inl (upd (aF (h.1 s2)) s1.toNatClampNeg s0)))) else Rx d 43 65 [a0, a1, a2, a3, a4, a5] [.int s0, .int s1, .ref s2] h := stI c43_65
theorem c43_66 : cd 43 66 = some (66, .aload_n 0, 1, []) := by decide +kernel
theorem x43_66 {d : Nat} {a1 a2 a3 a4 a5 : Value} {x : Nat} {h : AHp} : Rf d 43 66 [.ref x, a1, a2, a3, a4, a5] [] h = Rf d 43 67 [.ref x, a1, a2, a3, a4, a5] [.ref x] h := Rf_go ((stp_of c43_66).trans rfl)
theorem c43_67 : cd 43 67 = some (67, .iload 5, 2, []) := by decide +kernel
theorem x43_67 {d : Nat} {a0 a1 a2 a3 a4 : Value} {s0 : Nat} {x : Int32} {h : AHp} : Rf d 43 67 [a0, a1, a2, a3, a4, .int x] [.ref s0] h = Rf d 43 69 [a0, a1, a2, a3, a4, .int x] [.int x, .ref s0] h := Rf_go ((stp_of c43_67).trans rfl)
theorem c43_69 : cd 43 69 = some (69, .iconst 0, 1, []) := by decide +kernel
theorem x43_69 {d : Nat} {a0 a1 a2 a3 a4 a5 : Value} {s0 : Int32} {s1 : Nat} {h : AHp} : Rf d 43 69 [a0, a1, a2, a3, a4, a5] [.int s0, .ref s1] h = Rf d 43 70 [a0, a1, a2, a3, a4, a5] [.int 0, .int s0, .ref s1] h := Rf_go ((stp_of c43_69).trans rfl)
theorem c43_70 : cd 43 70 = some (70, .iconst 0, 1, []) := by decide +kernel
theorem x43_70 {d : Nat} {a0 a1 a2 a3 a4 a5 : Value} {s0 : Int32} {s1 : Int32} {s2 : Nat} {h : AHp} : Rf d 43 70 [a0, a1, a2, a3, a4, a5] [.int s0, .int s1, .ref s2] h = Rf d 43 71 [a0, a1, a2, a3, a4, a5] [.int 0, .int s0, .int s1, .ref s2] h := Rf_go ((stp_of c43_70).trans rfl)
theorem c43_71 : cd 43 71 = some (71, .invokevirtual 95, 3, [(6, 44)]) := by decide +kernel
theorem xc43_71 {d : Nat} {a0 a1 a2 a3 a4 a5 : Value} {s0 : Int32} {s1 : Int32} {s2 : Int32} {s3 : Nat} {h : AHp} {h1 : AHp} {v : Int32} (hr : cls (h.1 s3) = 6) (hq : Rf d 44 0 [.ref s3, .int s2, .int s1, .int s0, noV] [] h = some (some (.int v), h1)) : Rf (d + 1) 43 71 [a0, a1, a2, a3, a4, a5] [.int s0, .int s1, .int s2, .ref s3] h = Rf (d + 1) 43 74 [a0, a1, a2, a3, a4, a5] [.int v] h1 := clV (c := 44) (as := [.int s2, .int s1, .int s0]) c43_71 rfl (by simp [isV]) (by rw [hr]; rfl) hq
theorem c43_74 : cd 43 74 = some (74, .pop, 1, []) := by decide +kernel
theorem x43_74 {d : Nat} {a0 a1 a2 a3 a4 a5 : Value} {s0 : Int32} {h : AHp} : Rf d 43 74 [a0, a1, a2, a3, a4, a5] [.int s0] h = Rf d 43 75 [a0, a1, a2, a3, a4, a5] [] h := Rf_go ((stp_of c43_74).trans rfl)
theorem c43_75 : cd 43 75 = some (75, .iload 5, 2, []) := by decide +kernel
theorem x43_75 {d : Nat} {a0 a1 a2 a3 a4 : Value} {x : Int32} {h : AHp} : Rf d 43 75 [a0, a1, a2, a3, a4, .int x] [] h = Rf d 43 77 [a0, a1, a2, a3, a4, .int x] [.int x] h := Rf_go ((stp_of c43_75).trans rfl)
theorem c43_77 : cd 43 77 = some (77, .ireturn, 1, []) := by decide +kernel
theorem x43_77 {d : Nat} {a0 a1 a2 a3 a4 a5 : Value} {s0 : Int32} {h : AHp} : Rf d 43 77 [a0, a1, a2, a3, a4, a5] [.int s0] h = some (some (.int s0), h) := Rf_end (by rw [stp_of c43_77]; simp only [stpI]; rw [if_pos (show retI (mH 43).2.2.1 s0 = true from retI_int)])
-- 44: X6_become
theorem c44_0 : cd 44 0 = some (0, .aload_n 0, 1, []) := by decide +kernel
theorem x44_0 {d : Nat} {a1 a2 a3 a4 : Value} {x : Nat} {h : AHp} : Rf d 44 0 [.ref x, a1, a2, a3, a4] [] h = Rf d 44 1 [.ref x, a1, a2, a3, a4] [.ref x] h := Rf_go ((stp_of c44_0).trans rfl)
theorem c44_1 : cd 44 1 = some (1, .getfield 32, 3, [(6, 7)]) := by decide +kernel
theorem x44_1 {d : Nat} {a0 a1 a2 a3 a4 : Value} {s0 : Nat} {h : AHp} : Rf d 44 1 [a0, a1, a2, a3, a4] [.ref s0] h = if cls (h.1 s0) = 6 ∧ oKr (h.1 s0) 7 = true then Rf d 44 4 [a0, a1, a2, a3, a4] [.ref (oR (h.1 s0) 7)] h else Rx d 44 1 [a0, a1, a2, a3, a4] [.ref s0] h := getR c44_1
theorem c44_4 : cd 44 4 = some (4, .iload_n 1, 1, []) := by decide +kernel
theorem x44_4 {d : Nat} {a0 a2 a3 a4 : Value} {s0 : Nat} {x : Int32} {h : AHp} : Rf d 44 4 [a0, .int x, a2, a3, a4] [.ref s0] h = Rf d 44 5 [a0, .int x, a2, a3, a4] [.int x, .ref s0] h := Rf_go ((stp_of c44_4).trans rfl)
theorem c44_5 : cd 44 5 = some (5, .aaload, 1, []) := by decide +kernel
theorem x44_5 {d : Nat} {a0 a1 a2 a3 a4 : Value} {s0 : Int32} {s1 : Nat} {h : AHp} : Rf d 44 5 [a0, a1, a2, a3, a4] [.int s0, .ref s1] h = if aTq (h.1 s1) = 3 ∧ inB s0 (aN (h.1 s1)) = true ∧ (aG (h.1 s1) s0.toNatClampNeg).isSome = true then Rf d 44 6 [a0, a1, a2, a3, a4] [.ref ((aG (h.1 s1) s0.toNatClampNeg).getD 0)] h else Rx d 44 5 [a0, a1, a2, a3, a4] [.int s0, .ref s1] h := ldQ c44_5
theorem c44_6 : cd 44 6 = some (6, .invokevirtual 99, 3, [(0, 1), (1, 5), (2, 9), (4, 30), (5, 36), (8, 85), (9, 89), (201, 4), (202, 4)]) := by decide +kernel
theorem xc44_6_0 {d : Nat} {a0 a1 a2 a3 a4 : Value} {s0 : Nat} {h : AHp} {h1 : AHp} {v : Int32} (hr : cls (h.1 s0) = 0) (hq : Rf d 1 0 [.ref s0] [] h = some (some (.int v), h1)) : Rf (d + 1) 44 6 [a0, a1, a2, a3, a4] [.ref s0] h = Rf (d + 1) 44 9 [a0, a1, a2, a3, a4] [.int v] h1 := clV (c := 1) (as := []) c44_6 rfl (by simp [isV]) (by rw [hr]; rfl) hq
theorem xc44_6_1 {d : Nat} {a0 a1 a2 a3 a4 : Value} {s0 : Nat} {h : AHp} {h1 : AHp} {v : Int32} (hr : cls (h.1 s0) = 1) (hq : Rf d 5 0 [.ref s0] [] h = some (some (.int v), h1)) : Rf (d + 1) 44 6 [a0, a1, a2, a3, a4] [.ref s0] h = Rf (d + 1) 44 9 [a0, a1, a2, a3, a4] [.int v] h1 := clV (c := 5) (as := []) c44_6 rfl (by simp [isV]) (by rw [hr]; rfl) hq
theorem xc44_6_2 {d : Nat} {a0 a1 a2 a3 a4 : Value} {s0 : Nat} {h : AHp} {h1 : AHp} {v : Int32} (hr : cls (h.1 s0) = 2) (hq : Rf d 9 0 [.ref s0] [] h = some (some (.int v), h1)) : Rf (d + 1) 44 6 [a0, a1, a2, a3, a4] [.ref s0] h = Rf (d + 1) 44 9 [a0, a1, a2, a3, a4] [.int v] h1 := clV (c := 9) (as := []) c44_6 rfl (by simp [isV]) (by rw [hr]; rfl) hq
theorem xc44_6_4 {d : Nat} {a0 a1 a2 a3 a4 : Value} {s0 : Nat} {h : AHp} {h1 : AHp} {v : Int32} (hr : cls (h.1 s0) = 4) (hq : Rf d 30 0 [.ref s0] [] h = some (some (.int v), h1)) : Rf (d + 1) 44 6 [a0, a1, a2, a3, a4] [.ref s0] h = Rf (d + 1) 44 9 [a0, a1, a2, a3, a4] [.int v] h1 := clV (c := 30) (as := []) c44_6 rfl (by simp [isV]) (by rw [hr]; rfl) hq
theorem xc44_6_5 {d : Nat} {a0 a1 a2 a3 a4 : Value} {s0 : Nat} {h : AHp} {h1 : AHp} {v : Int32} (hr : cls (h.1 s0) = 5) (hq : Rf d 36 0 [.ref s0] [] h = some (some (.int v), h1)) : Rf (d + 1) 44 6 [a0, a1, a2, a3, a4] [.ref s0] h = Rf (d + 1) 44 9 [a0, a1, a2, a3, a4] [.int v] h1 := clV (c := 36) (as := []) c44_6 rfl (by simp [isV]) (by rw [hr]; rfl) hq
theorem xc44_6_8 {d : Nat} {a0 a1 a2 a3 a4 : Value} {s0 : Nat} {h : AHp} {h1 : AHp} {v : Int32} (hr : cls (h.1 s0) = 8) (hq : Rf d 85 0 [.ref s0] [] h = some (some (.int v), h1)) : Rf (d + 1) 44 6 [a0, a1, a2, a3, a4] [.ref s0] h = Rf (d + 1) 44 9 [a0, a1, a2, a3, a4] [.int v] h1 := clV (c := 85) (as := []) c44_6 rfl (by simp [isV]) (by rw [hr]; rfl) hq
theorem xc44_6_9 {d : Nat} {a0 a1 a2 a3 a4 : Value} {s0 : Nat} {h : AHp} {h1 : AHp} {v : Int32} (hr : cls (h.1 s0) = 9) (hq : Rf d 89 0 [.ref s0] [] h = some (some (.int v), h1)) : Rf (d + 1) 44 6 [a0, a1, a2, a3, a4] [.ref s0] h = Rf (d + 1) 44 9 [a0, a1, a2, a3, a4] [.int v] h1 := clV (c := 89) (as := []) c44_6 rfl (by simp [isV]) (by rw [hr]; rfl) hq
theorem c44_9 : cd 44 9 = some (9, .istore 4, 2, []) := by decide +kernel
theorem x44_9 {d : Nat} {a0 a1 a2 a3 a4 : Value} {s0 : Int32} {h : AHp} : Rf d 44 9 [a0, a1, a2, a3, a4] [.int s0] h = Rf d 44 11 [a0, a1, a2, a3, .int s0] [] h := Rf_go ((stp_of c44_9).trans rfl)
theorem c44_11 : cd 44 11 = some (11, .aload_n 0, 1, []) := by decide +kernel
theorem x44_11 {d : Nat} {a1 a2 a3 a4 : Value} {x : Nat} {h : AHp} : Rf d 44 11 [.ref x, a1, a2, a3, a4] [] h = Rf d 44 12 [.ref x, a1, a2, a3, a4] [.ref x] h := Rf_go ((stp_of c44_11).trans rfl)
theorem c44_12 : cd 44 12 = some (12, .getfield 32, 3, [(6, 7)]) := by decide +kernel
theorem x44_12 {d : Nat} {a0 a1 a2 a3 a4 : Value} {s0 : Nat} {h : AHp} : Rf d 44 12 [a0, a1, a2, a3, a4] [.ref s0] h = if cls (h.1 s0) = 6 ∧ oKr (h.1 s0) 7 = true then Rf d 44 15 [a0, a1, a2, a3, a4] [.ref (oR (h.1 s0) 7)] h else Rx d 44 12 [a0, a1, a2, a3, a4] [.ref s0] h := getR c44_12
theorem c44_15 : cd 44 15 = some (15, .iload_n 1, 1, []) := by decide +kernel
theorem x44_15 {d : Nat} {a0 a2 a3 a4 : Value} {s0 : Nat} {x : Int32} {h : AHp} : Rf d 44 15 [a0, .int x, a2, a3, a4] [.ref s0] h = Rf d 44 16 [a0, .int x, a2, a3, a4] [.int x, .ref s0] h := Rf_go ((stp_of c44_15).trans rfl)
theorem c44_16 : cd 44 16 = some (16, .iload_n 2, 1, []) := by decide +kernel
theorem x44_16 {d : Nat} {a0 a1 a3 a4 : Value} {s0 : Int32} {s1 : Nat} {x : Int32} {h : AHp} : Rf d 44 16 [a0, a1, .int x, a3, a4] [.int s0, .ref s1] h = Rf d 44 17 [a0, a1, .int x, a3, a4] [.int x, .int s0, .ref s1] h := Rf_go ((stp_of c44_16).trans rfl)
theorem c44_17 : cd 44 17 = some (17, .iload_n 1, 1, []) := by decide +kernel
theorem x44_17 {d : Nat} {a0 a2 a3 a4 : Value} {s0 : Int32} {s1 : Int32} {s2 : Nat} {x : Int32} {h : AHp} : Rf d 44 17 [a0, .int x, a2, a3, a4] [.int s0, .int s1, .ref s2] h = Rf d 44 18 [a0, .int x, a2, a3, a4] [.int x, .int s0, .int s1, .ref s2] h := Rf_go ((stp_of c44_17).trans rfl)
theorem c44_18 : cd 44 18 = some (18, .iload_n 3, 1, []) := by decide +kernel
theorem x44_18 {d : Nat} {a0 a1 a2 a4 : Value} {s0 : Int32} {s1 : Int32} {s2 : Int32} {s3 : Nat} {x : Int32} {h : AHp} : Rf d 44 18 [a0, a1, a2, .int x, a4] [.int s0, .int s1, .int s2, .ref s3] h = Rf d 44 19 [a0, a1, a2, .int x, a4] [.int x, .int s0, .int s1, .int s2, .ref s3] h := Rf_go ((stp_of c44_18).trans rfl)
theorem c44_19 : cd 44 19 = some (19, .invokestatic 102, 3, [(0, 29)]) := by decide +kernel
theorem xc44_19 {d : Nat} {a0 a1 a2 a3 a4 : Value} {s0 : Int32} {s1 : Int32} {s2 : Int32} {s3 : Int32} {s4 : Nat} {h : AHp} {h1 : AHp} {v : Nat} (hq : Rf d 29 0 [.int s2, .int s1, .int s0] [] h = some (some (.ref v), h1)) : Rf (d + 1) 44 19 [a0, a1, a2, a3, a4] [.int s0, .int s1, .int s2, .int s3, .ref s4] h = Rf (d + 1) 44 22 [a0, a1, a2, a3, a4] [.ref v, .int s3, .ref s4] h1 := clS (as := [.int s2, .int s1, .int s0]) c44_19 rfl rfl (by simp [isV]) hq
theorem c44_22 : cd 44 22 = some (22, .aastore, 1, []) := by decide +kernel
theorem x44_22 {d : Nat} {a0 a1 a2 a3 a4 : Value} {s0 : Nat} {s1 : Int32} {s2 : Nat} {h : AHp} : Rf d 44 22 [a0, a1, a2, a3, a4] [.ref s0, .int s1, .ref s2] h = if isKn (h.1 s0) = true ∧ aTq (h.1 s2) = 3 ∧ inB s1 (aN (h.1 s2)) = true then Rf d 44 23 [a0, a1, a2, a3, a4] [] (hset h s2 (.inl (3, aN (h.1 s2), .inr (.inr (.inr (.inr (va_up (aG (h.1 s2)) s1.toNatClampNeg (some s0)))))))) else Rx d 44 22 [a0, a1, a2, a3, a4] [.ref s0, .int s1, .ref s2] h := stQ c44_22
theorem c44_23 : cd 44 23 = some (23, .iload 4, 2, []) := by decide +kernel
theorem x44_23 {d : Nat} {a0 a1 a2 a3 : Value} {x : Int32} {h : AHp} : Rf d 44 23 [a0, a1, a2, a3, .int x] [] h = Rf d 44 25 [a0, a1, a2, a3, .int x] [.int x] h := Rf_go ((stp_of c44_23).trans rfl)
theorem c44_25 : cd 44 25 = some (25, .ireturn, 1, []) := by decide +kernel
theorem x44_25 {d : Nat} {a0 a1 a2 a3 a4 : Value} {s0 : Int32} {h : AHp} : Rf d 44 25 [a0, a1, a2, a3, a4] [.int s0] h = some (some (.int s0), h) := Rf_end (by rw [stp_of c44_25]; simp only [stpI]; rw [if_pos (show retI (mH 44).2.2.1 s0 = true from retI_int)])
-- 45: X6_moveInto
theorem c45_0 : cd 45 0 = some (0, .aload_n 0, 1, []) := by decide +kernel
theorem x45_0 {d : Nat} {a1 : Value} {x : Nat} {h : AHp} : Rf d 45 0 [.ref x, a1] [] h = Rf d 45 1 [.ref x, a1] [.ref x] h := Rf_go ((stp_of c45_0).trans rfl)
theorem c45_1 : cd 45 1 = some (1, .aload_n 1, 1, []) := by decide +kernel
theorem x45_1 {d : Nat} {a0 : Value} {s0 : Nat} {x : Nat} {h : AHp} : Rf d 45 1 [a0, .ref x] [.ref s0] h = Rf d 45 2 [a0, .ref x] [.ref x, .ref s0] h := Rf_go ((stp_of c45_1).trans rfl)
theorem c45_2 : cd 45 2 = some (2, .putfield 68, 3, [(6, 11)]) := by decide +kernel
theorem x45_2 {d : Nat} {a0 a1 : Value} {s0 : Nat} {s1 : Nat} {h : AHp} : Rf d 45 2 [a0, a1] [.ref s0, .ref s1] h = if cls (h.1 s1) = 6 ∧ oL (h.1 s1) = 15 then Rf d 45 5 [a0, a1] [] (hset h s1 (oSet (h.1 s1) 11 (.ref s0))) else Rx d 45 2 [a0, a1] [.ref s0, .ref s1] h := putV c45_2 rfl (fMay_o (C := "PayUntold$House") (by decide +kernel))
theorem c45_5 : cd 45 5 = some (5, .aload_n 0, 1, []) := by decide +kernel
theorem x45_5 {d : Nat} {a1 : Value} {x : Nat} {h : AHp} : Rf d 45 5 [.ref x, a1] [] h = Rf d 45 6 [.ref x, a1] [.ref x] h := Rf_go ((stp_of c45_5).trans rfl)
theorem c45_6 : cd 45 6 = some (6, .dup, 1, []) := by decide +kernel
theorem x45_6 {d : Nat} {a0 a1 : Value} {s0 : Nat} {h : AHp} : Rf d 45 6 [a0, a1] [.ref s0] h = Rf d 45 7 [a0, a1] [.ref s0, .ref s0] h := Rf_go ((stp_of c45_6).trans rfl)
theorem c45_7 : cd 45 7 = some (7, .getfield 86, 3, [(6, 10)]) := by decide +kernel
theorem x45_7 {d : Nat} {a0 a1 : Value} {s0 : Nat} {s1 : Nat} {h : AHp} : Rf d 45 7 [a0, a1] [.ref s0, .ref s1] h = if cls (h.1 s0) = 6 ∧ oKi (h.1 s0) 10 = true then Rf d 45 10 [a0, a1] [.int (oN (h.1 s0) 10), .ref s1] h else Rx d 45 7 [a0, a1] [.ref s0, .ref s1] h := getI c45_7
theorem c45_10 : cd 45 10 = some (10, .iconst 1, 1, []) := by decide +kernel
theorem x45_10 {d : Nat} {a0 a1 : Value} {s0 : Int32} {s1 : Nat} {h : AHp} : Rf d 45 10 [a0, a1] [.int s0, .ref s1] h = Rf d 45 11 [a0, a1] [.int 1, .int s0, .ref s1] h := Rf_go ((stp_of c45_10).trans rfl)
theorem c45_11 : cd 45 11 = some (11, .iadd, 1, []) := by decide +kernel
theorem x45_11 {d : Nat} {a0 a1 : Value} {s0 : Int32} {s1 : Int32} {s2 : Nat} {h : AHp} : Rf d 45 11 [a0, a1] [.int s0, .int s1, .ref s2] h = Rf d 45 12 [a0, a1] [.int (s1 + s0), .ref s2] h := Rf_go ((stp_of c45_11).trans rfl)
theorem c45_12 : cd 45 12 = some (12, .putfield 86, 3, [(6, 10)]) := by decide +kernel
theorem x45_12 {d : Nat} {a0 a1 : Value} {s0 : Int32} {s1 : Nat} {h : AHp} : Rf d 45 12 [a0, a1] [.int s0, .ref s1] h = if cls (h.1 s1) = 6 ∧ oL (h.1 s1) = 15 then Rf d 45 15 [a0, a1] [] (hset h s1 (oSet (h.1 s1) 10 (.int s0))) else Rx d 45 12 [a0, a1] [.int s0, .ref s1] h := putV c45_12 rfl (fMay_i (by decide +kernel))
theorem c45_15 : cd 45 15 = some (15, .aload_n 0, 1, []) := by decide +kernel
theorem x45_15 {d : Nat} {a1 : Value} {x : Nat} {h : AHp} : Rf d 45 15 [.ref x, a1] [] h = Rf d 45 16 [.ref x, a1] [.ref x] h := Rf_go ((stp_of c45_15).trans rfl)
theorem c45_16 : cd 45 16 = some (16, .getfield 86, 3, [(6, 10)]) := by decide +kernel
theorem x45_16 {d : Nat} {a0 a1 : Value} {s0 : Nat} {h : AHp} : Rf d 45 16 [a0, a1] [.ref s0] h = if cls (h.1 s0) = 6 ∧ oKi (h.1 s0) 10 = true then Rf d 45 19 [a0, a1] [.int (oN (h.1 s0) 10)] h else Rx d 45 16 [a0, a1] [.ref s0] h := getI c45_16
theorem c45_19 : cd 45 19 = some (19, .iconst 1, 1, []) := by decide +kernel
theorem x45_19 {d : Nat} {a0 a1 : Value} {s0 : Int32} {h : AHp} : Rf d 45 19 [a0, a1] [.int s0] h = Rf d 45 20 [a0, a1] [.int 1, .int s0] h := Rf_go ((stp_of c45_19).trans rfl)
theorem c45_20 : cd 45 20 = some (20, .isub, 1, []) := by decide +kernel
theorem x45_20 {d : Nat} {a0 a1 : Value} {s0 : Int32} {s1 : Int32} {h : AHp} : Rf d 45 20 [a0, a1] [.int s0, .int s1] h = Rf d 45 21 [a0, a1] [.int (s1 - s0)] h := Rf_go ((stp_of c45_20).trans rfl)
theorem c45_21 : cd 45 21 = some (21, .ireturn, 1, []) := by decide +kernel
theorem x45_21 {d : Nat} {a0 a1 : Value} {s0 : Int32} {h : AHp} : Rf d 45 21 [a0, a1] [.int s0] h = some (some (.int s0), h) := Rf_end (by rw [stp_of c45_21]; simp only [stpI]; rw [if_pos (show retI (mH 45).2.2.1 s0 = true from retI_int)])
-- 46: X6_ahead
theorem c46_0 : cd 46 0 = some (0, .aload_n 0, 1, []) := by decide +kernel
theorem x46_0 {d : Nat} {a1 a2 : Value} {x : Nat} {h : AHp} : Rf d 46 0 [.ref x, a1, a2] [] h = Rf d 46 1 [.ref x, a1, a2] [.ref x] h := Rf_go ((stp_of c46_0).trans rfl)
theorem c46_1 : cd 46 1 = some (1, .getfield 9, 3, [(6, 1)]) := by decide +kernel
theorem x46_1 {d : Nat} {a0 a1 a2 : Value} {s0 : Nat} {h : AHp} : Rf d 46 1 [a0, a1, a2] [.ref s0] h = if cls (h.1 s0) = 6 ∧ oKr (h.1 s0) 1 = true then Rf d 46 4 [a0, a1, a2] [.ref (oR (h.1 s0) 1)] h else Rx d 46 1 [a0, a1, a2] [.ref s0] h := getR c46_1
theorem c46_4 : cd 46 4 = some (4, .iload_n 1, 1, []) := by decide +kernel
theorem x46_4 {d : Nat} {a0 a2 : Value} {s0 : Nat} {x : Int32} {h : AHp} : Rf d 46 4 [a0, .int x, a2] [.ref s0] h = Rf d 46 5 [a0, .int x, a2] [.int x, .ref s0] h := Rf_go ((stp_of c46_4).trans rfl)
theorem c46_5 : cd 46 5 = some (5, .iaload, 1, []) := by decide +kernel
theorem x46_5 {d : Nat} {a0 a1 a2 : Value} {s0 : Int32} {s1 : Nat} {h : AHp} : Rf d 46 5 [a0, a1, a2] [.int s0, .ref s1] h = if (aT (h.1 s1) = 0 ∨ aT (h.1 s1) = 10) ∧ inB s0 (aN (h.1 s1)) = true then Rf d 46 6 [a0, a1, a2] [.int (aF (h.1 s1) s0.toNatClampNeg)] h else Rx d 46 5 [a0, a1, a2] [.int s0, .ref s1] h := ldI c46_5
theorem c46_6 : cd 46 6 = some (6, .iconst 1, 1, []) := by decide +kernel
theorem x46_6 {d : Nat} {a0 a1 a2 : Value} {s0 : Int32} {h : AHp} : Rf d 46 6 [a0, a1, a2] [.int s0] h = Rf d 46 7 [a0, a1, a2] [.int 1, .int s0] h := Rf_go ((stp_of c46_6).trans rfl)
theorem c46_7 : cd 46 7 = some (7, .isub, 1, []) := by decide +kernel
theorem x46_7 {d : Nat} {a0 a1 a2 : Value} {s0 : Int32} {s1 : Int32} {h : AHp} : Rf d 46 7 [a0, a1, a2] [.int s0, .int s1] h = Rf d 46 8 [a0, a1, a2] [.int (s1 - s0)] h := Rf_go ((stp_of c46_7).trans rfl)
theorem c46_8 : cd 46 8 = some (8, .istore_n 2, 1, []) := by decide +kernel
theorem x46_8 {d : Nat} {a0 a1 a2 : Value} {s0 : Int32} {h : AHp} : Rf d 46 8 [a0, a1, a2] [.int s0] h = Rf d 46 9 [a0, a1, .int s0] [] h := Rf_go ((stp_of c46_8).trans rfl)
theorem c46_9 : cd 46 9 = some (9, .iload_n 2, 1, []) := by decide +kernel
theorem x46_9 {d : Nat} {a0 a1 : Value} {x : Int32} {h : AHp} : Rf d 46 9 [a0, a1, .int x] [] h = Rf d 46 10 [a0, a1, .int x] [.int x] h := Rf_go ((stp_of c46_9).trans rfl)
theorem c46_10 : cd 46 10 = some (10, .ifCond .lt 26, 3, [(36, 0)]) := by decide +kernel
theorem x46_10 {d : Nat} {a0 a1 a2 : Value} {s0 : Int32} {h : AHp} : Rf d 46 10 [a0, a1, a2] [.int s0] h = if s0 < 0 then Rf d 46 36 [a0, a1, a2] [] h else Rf d 46 13 [a0, a1, a2] [] h := Rf_brd ((stp_of c46_10).trans rfl)
theorem c46_36 : cd 46 36 = some (36, .iconst (-1), 1, []) := by decide +kernel
theorem x46_36 {d : Nat} {a0 a1 a2 : Value} {h : AHp} : Rf d 46 36 [a0, a1, a2] [] h = Rf d 46 37 [a0, a1, a2] [.int (-1)] h := Rf_go ((stp_of c46_36).trans rfl)
theorem c46_37 : cd 46 37 = some (37, .ireturn, 1, []) := by decide +kernel
theorem x46_37 {d : Nat} {a0 a1 a2 : Value} {s0 : Int32} {h : AHp} : Rf d 46 37 [a0, a1, a2] [.int s0] h = some (some (.int s0), h) := Rf_end (by rw [stp_of c46_37]; simp only [stpI]; rw [if_pos (show retI (mH 46).2.2.1 s0 = true from retI_int)])
theorem c46_13 : cd 46 13 = some (13, .aload_n 0, 1, []) := by decide +kernel
theorem x46_13 {d : Nat} {a1 a2 : Value} {x : Nat} {h : AHp} : Rf d 46 13 [.ref x, a1, a2] [] h = Rf d 46 14 [.ref x, a1, a2] [.ref x] h := Rf_go ((stp_of c46_13).trans rfl)
theorem c46_14 : cd 46 14 = some (14, .getfield 15, 3, [(6, 2)]) := by decide +kernel
theorem x46_14 {d : Nat} {a0 a1 a2 : Value} {s0 : Nat} {h : AHp} : Rf d 46 14 [a0, a1, a2] [.ref s0] h = if cls (h.1 s0) = 6 ∧ oKr (h.1 s0) 2 = true then Rf d 46 17 [a0, a1, a2] [.ref (oR (h.1 s0) 2)] h else Rx d 46 14 [a0, a1, a2] [.ref s0] h := getR c46_14
theorem c46_17 : cd 46 17 = some (17, .iload_n 2, 1, []) := by decide +kernel
theorem x46_17 {d : Nat} {a0 a1 : Value} {s0 : Nat} {x : Int32} {h : AHp} : Rf d 46 17 [a0, a1, .int x] [.ref s0] h = Rf d 46 18 [a0, a1, .int x] [.int x, .ref s0] h := Rf_go ((stp_of c46_17).trans rfl)
theorem c46_18 : cd 46 18 = some (18, .iaload, 1, []) := by decide +kernel
theorem x46_18 {d : Nat} {a0 a1 a2 : Value} {s0 : Int32} {s1 : Nat} {h : AHp} : Rf d 46 18 [a0, a1, a2] [.int s0, .ref s1] h = if (aT (h.1 s1) = 0 ∨ aT (h.1 s1) = 10) ∧ inB s0 (aN (h.1 s1)) = true then Rf d 46 19 [a0, a1, a2] [.int (aF (h.1 s1) s0.toNatClampNeg)] h else Rx d 46 18 [a0, a1, a2] [.int s0, .ref s1] h := ldI c46_18
theorem c46_19 : cd 46 19 = some (19, .iconst (-1), 1, []) := by decide +kernel
theorem x46_19 {d : Nat} {a0 a1 a2 : Value} {s0 : Int32} {h : AHp} : Rf d 46 19 [a0, a1, a2] [.int s0] h = Rf d 46 20 [a0, a1, a2] [.int (-1), .int s0] h := Rf_go ((stp_of c46_19).trans rfl)
theorem c46_20 : cd 46 20 = some (20, .if_icmp .eq 10, 3, [(30, 0)]) := by decide +kernel
theorem x46_20 {d : Nat} {a0 a1 a2 : Value} {s0 : Int32} {s1 : Int32} {h : AHp} : Rf d 46 20 [a0, a1, a2] [.int s0, .int s1] h = if s1 = s0 then Rf d 46 30 [a0, a1, a2] [] h else Rf d 46 23 [a0, a1, a2] [] h := Rf_brd ((stp_of c46_20).trans rfl)
theorem c46_30 : cd 46 30 = some (30, .iinc 2 (-1), 3, []) := by decide +kernel
theorem x46_30 {d : Nat} {a0 a1 : Value} {x : Int32} {h : AHp} : Rf d 46 30 [a0, a1, .int x] [] h = Rf d 46 33 [a0, a1, .int (x + (-1))] [] h := Rf_go ((stp_of c46_30).trans rfl)
theorem c46_33 : cd 46 33 = some (33, .goto (-24), 3, [(9, 0)]) := by decide +kernel
theorem x46_33 {d : Nat} {a0 a1 a2 : Value} {h : AHp} : Rf d 46 33 [a0, a1, a2] [] h = Rf d 46 9 [a0, a1, a2] [] h := Rf_go ((stp_of c46_33).trans rfl)
theorem c46_23 : cd 46 23 = some (23, .aload_n 0, 1, []) := by decide +kernel
theorem x46_23 {d : Nat} {a1 a2 : Value} {x : Nat} {h : AHp} : Rf d 46 23 [.ref x, a1, a2] [] h = Rf d 46 24 [.ref x, a1, a2] [.ref x] h := Rf_go ((stp_of c46_23).trans rfl)
theorem c46_24 : cd 46 24 = some (24, .getfield 15, 3, [(6, 2)]) := by decide +kernel
theorem x46_24 {d : Nat} {a0 a1 a2 : Value} {s0 : Nat} {h : AHp} : Rf d 46 24 [a0, a1, a2] [.ref s0] h = if cls (h.1 s0) = 6 ∧ oKr (h.1 s0) 2 = true then Rf d 46 27 [a0, a1, a2] [.ref (oR (h.1 s0) 2)] h else Rx d 46 24 [a0, a1, a2] [.ref s0] h := getR c46_24
theorem c46_27 : cd 46 27 = some (27, .iload_n 2, 1, []) := by decide +kernel
theorem x46_27 {d : Nat} {a0 a1 : Value} {s0 : Nat} {x : Int32} {h : AHp} : Rf d 46 27 [a0, a1, .int x] [.ref s0] h = Rf d 46 28 [a0, a1, .int x] [.int x, .ref s0] h := Rf_go ((stp_of c46_27).trans rfl)
theorem c46_28 : cd 46 28 = some (28, .iaload, 1, []) := by decide +kernel
theorem x46_28 {d : Nat} {a0 a1 a2 : Value} {s0 : Int32} {s1 : Nat} {h : AHp} : Rf d 46 28 [a0, a1, a2] [.int s0, .ref s1] h = if (aT (h.1 s1) = 0 ∨ aT (h.1 s1) = 10) ∧ inB s0 (aN (h.1 s1)) = true then Rf d 46 29 [a0, a1, a2] [.int (aF (h.1 s1) s0.toNatClampNeg)] h else Rx d 46 28 [a0, a1, a2] [.int s0, .ref s1] h := ldI c46_28
theorem c46_29 : cd 46 29 = some (29, .ireturn, 1, []) := by decide +kernel
theorem x46_29 {d : Nat} {a0 a1 a2 : Value} {s0 : Int32} {h : AHp} : Rf d 46 29 [a0, a1, a2] [.int s0] h = some (some (.int s0), h) := Rf_end (by rw [stp_of c46_29]; simp only [stpI]; rw [if_pos (show retI (mH 46).2.2.1 s0 = true from retI_int)])
-- 47: X6_behind
theorem c47_0 : cd 47 0 = some (0, .aload_n 0, 1, []) := by decide +kernel
theorem x47_0 {d : Nat} {a1 a2 : Value} {x : Nat} {h : AHp} : Rf d 47 0 [.ref x, a1, a2] [] h = Rf d 47 1 [.ref x, a1, a2] [.ref x] h := Rf_go ((stp_of c47_0).trans rfl)
theorem c47_1 : cd 47 1 = some (1, .getfield 9, 3, [(6, 1)]) := by decide +kernel
theorem x47_1 {d : Nat} {a0 a1 a2 : Value} {s0 : Nat} {h : AHp} : Rf d 47 1 [a0, a1, a2] [.ref s0] h = if cls (h.1 s0) = 6 ∧ oKr (h.1 s0) 1 = true then Rf d 47 4 [a0, a1, a2] [.ref (oR (h.1 s0) 1)] h else Rx d 47 1 [a0, a1, a2] [.ref s0] h := getR c47_1
theorem c47_4 : cd 47 4 = some (4, .iload_n 1, 1, []) := by decide +kernel
theorem x47_4 {d : Nat} {a0 a2 : Value} {s0 : Nat} {x : Int32} {h : AHp} : Rf d 47 4 [a0, .int x, a2] [.ref s0] h = Rf d 47 5 [a0, .int x, a2] [.int x, .ref s0] h := Rf_go ((stp_of c47_4).trans rfl)
theorem c47_5 : cd 47 5 = some (5, .iaload, 1, []) := by decide +kernel
theorem x47_5 {d : Nat} {a0 a1 a2 : Value} {s0 : Int32} {s1 : Nat} {h : AHp} : Rf d 47 5 [a0, a1, a2] [.int s0, .ref s1] h = if (aT (h.1 s1) = 0 ∨ aT (h.1 s1) = 10) ∧ inB s0 (aN (h.1 s1)) = true then Rf d 47 6 [a0, a1, a2] [.int (aF (h.1 s1) s0.toNatClampNeg)] h else Rx d 47 5 [a0, a1, a2] [.int s0, .ref s1] h := ldI c47_5
theorem c47_6 : cd 47 6 = some (6, .iconst 1, 1, []) := by decide +kernel
theorem x47_6 {d : Nat} {a0 a1 a2 : Value} {s0 : Int32} {h : AHp} : Rf d 47 6 [a0, a1, a2] [.int s0] h = Rf d 47 7 [a0, a1, a2] [.int 1, .int s0] h := Rf_go ((stp_of c47_6).trans rfl)
theorem c47_7 : cd 47 7 = some (7, .iadd, 1, []) := by decide +kernel
theorem x47_7 {d : Nat} {a0 a1 a2 : Value} {s0 : Int32} {s1 : Int32} {h : AHp} : Rf d 47 7 [a0, a1, a2] [.int s0, .int s1] h = Rf d 47 8 [a0, a1, a2] [.int (s1 + s0)] h := Rf_go ((stp_of c47_7).trans rfl)
theorem c47_8 : cd 47 8 = some (8, .istore_n 2, 1, []) := by decide +kernel
theorem x47_8 {d : Nat} {a0 a1 a2 : Value} {s0 : Int32} {h : AHp} : Rf d 47 8 [a0, a1, a2] [.int s0] h = Rf d 47 9 [a0, a1, .int s0] [] h := Rf_go ((stp_of c47_8).trans rfl)
theorem c47_9 : cd 47 9 = some (9, .iload_n 2, 1, []) := by decide +kernel
theorem x47_9 {d : Nat} {a0 a1 : Value} {x : Int32} {h : AHp} : Rf d 47 9 [a0, a1, .int x] [] h = Rf d 47 10 [a0, a1, .int x] [.int x] h := Rf_go ((stp_of c47_9).trans rfl)
theorem c47_10 : cd 47 10 = some (10, .bipush 10, 2, []) := by decide +kernel
theorem x47_10 {d : Nat} {a0 a1 a2 : Value} {s0 : Int32} {h : AHp} : Rf d 47 10 [a0, a1, a2] [.int s0] h = Rf d 47 12 [a0, a1, a2] [.int 10, .int s0] h := Rf_go ((stp_of c47_10).trans rfl)
theorem c47_12 : cd 47 12 = some (12, .if_icmp .ge 26, 3, [(38, 0)]) := by decide +kernel
theorem x47_12 {d : Nat} {a0 a1 a2 : Value} {s0 : Int32} {s1 : Int32} {h : AHp} : Rf d 47 12 [a0, a1, a2] [.int s0, .int s1] h = if s1 < s0 then Rf d 47 15 [a0, a1, a2] [] h else Rf d 47 38 [a0, a1, a2] [] h := Rf_brn ((stp_of c47_12).trans rfl)
theorem c47_38 : cd 47 38 = some (38, .iconst (-1), 1, []) := by decide +kernel
theorem x47_38 {d : Nat} {a0 a1 a2 : Value} {h : AHp} : Rf d 47 38 [a0, a1, a2] [] h = Rf d 47 39 [a0, a1, a2] [.int (-1)] h := Rf_go ((stp_of c47_38).trans rfl)
theorem c47_39 : cd 47 39 = some (39, .ireturn, 1, []) := by decide +kernel
theorem x47_39 {d : Nat} {a0 a1 a2 : Value} {s0 : Int32} {h : AHp} : Rf d 47 39 [a0, a1, a2] [.int s0] h = some (some (.int s0), h) := Rf_end (by rw [stp_of c47_39]; simp only [stpI]; rw [if_pos (show retI (mH 47).2.2.1 s0 = true from retI_int)])
theorem c47_15 : cd 47 15 = some (15, .aload_n 0, 1, []) := by decide +kernel
theorem x47_15 {d : Nat} {a1 a2 : Value} {x : Nat} {h : AHp} : Rf d 47 15 [.ref x, a1, a2] [] h = Rf d 47 16 [.ref x, a1, a2] [.ref x] h := Rf_go ((stp_of c47_15).trans rfl)
theorem c47_16 : cd 47 16 = some (16, .getfield 15, 3, [(6, 2)]) := by decide +kernel
theorem x47_16 {d : Nat} {a0 a1 a2 : Value} {s0 : Nat} {h : AHp} : Rf d 47 16 [a0, a1, a2] [.ref s0] h = if cls (h.1 s0) = 6 ∧ oKr (h.1 s0) 2 = true then Rf d 47 19 [a0, a1, a2] [.ref (oR (h.1 s0) 2)] h else Rx d 47 16 [a0, a1, a2] [.ref s0] h := getR c47_16
theorem c47_19 : cd 47 19 = some (19, .iload_n 2, 1, []) := by decide +kernel
theorem x47_19 {d : Nat} {a0 a1 : Value} {s0 : Nat} {x : Int32} {h : AHp} : Rf d 47 19 [a0, a1, .int x] [.ref s0] h = Rf d 47 20 [a0, a1, .int x] [.int x, .ref s0] h := Rf_go ((stp_of c47_19).trans rfl)
theorem c47_20 : cd 47 20 = some (20, .iaload, 1, []) := by decide +kernel
theorem x47_20 {d : Nat} {a0 a1 a2 : Value} {s0 : Int32} {s1 : Nat} {h : AHp} : Rf d 47 20 [a0, a1, a2] [.int s0, .ref s1] h = if (aT (h.1 s1) = 0 ∨ aT (h.1 s1) = 10) ∧ inB s0 (aN (h.1 s1)) = true then Rf d 47 21 [a0, a1, a2] [.int (aF (h.1 s1) s0.toNatClampNeg)] h else Rx d 47 20 [a0, a1, a2] [.int s0, .ref s1] h := ldI c47_20
theorem c47_21 : cd 47 21 = some (21, .iconst (-1), 1, []) := by decide +kernel
theorem x47_21 {d : Nat} {a0 a1 a2 : Value} {s0 : Int32} {h : AHp} : Rf d 47 21 [a0, a1, a2] [.int s0] h = Rf d 47 22 [a0, a1, a2] [.int (-1), .int s0] h := Rf_go ((stp_of c47_21).trans rfl)
theorem c47_22 : cd 47 22 = some (22, .if_icmp .eq 10, 3, [(32, 0)]) := by decide +kernel
theorem x47_22 {d : Nat} {a0 a1 a2 : Value} {s0 : Int32} {s1 : Int32} {h : AHp} : Rf d 47 22 [a0, a1, a2] [.int s0, .int s1] h = if s1 = s0 then Rf d 47 32 [a0, a1, a2] [] h else Rf d 47 25 [a0, a1, a2] [] h := Rf_brd ((stp_of c47_22).trans rfl)
theorem c47_32 : cd 47 32 = some (32, .iinc 2 1, 3, []) := by decide +kernel
theorem x47_32 {d : Nat} {a0 a1 : Value} {x : Int32} {h : AHp} : Rf d 47 32 [a0, a1, .int x] [] h = Rf d 47 35 [a0, a1, .int (x + 1)] [] h := Rf_go ((stp_of c47_32).trans rfl)
theorem c47_35 : cd 47 35 = some (35, .goto (-26), 3, [(9, 0)]) := by decide +kernel
theorem x47_35 {d : Nat} {a0 a1 a2 : Value} {h : AHp} : Rf d 47 35 [a0, a1, a2] [] h = Rf d 47 9 [a0, a1, a2] [] h := Rf_go ((stp_of c47_35).trans rfl)
theorem c47_25 : cd 47 25 = some (25, .aload_n 0, 1, []) := by decide +kernel
theorem x47_25 {d : Nat} {a1 a2 : Value} {x : Nat} {h : AHp} : Rf d 47 25 [.ref x, a1, a2] [] h = Rf d 47 26 [.ref x, a1, a2] [.ref x] h := Rf_go ((stp_of c47_25).trans rfl)
theorem c47_26 : cd 47 26 = some (26, .getfield 15, 3, [(6, 2)]) := by decide +kernel
theorem x47_26 {d : Nat} {a0 a1 a2 : Value} {s0 : Nat} {h : AHp} : Rf d 47 26 [a0, a1, a2] [.ref s0] h = if cls (h.1 s0) = 6 ∧ oKr (h.1 s0) 2 = true then Rf d 47 29 [a0, a1, a2] [.ref (oR (h.1 s0) 2)] h else Rx d 47 26 [a0, a1, a2] [.ref s0] h := getR c47_26
theorem c47_29 : cd 47 29 = some (29, .iload_n 2, 1, []) := by decide +kernel
theorem x47_29 {d : Nat} {a0 a1 : Value} {s0 : Nat} {x : Int32} {h : AHp} : Rf d 47 29 [a0, a1, .int x] [.ref s0] h = Rf d 47 30 [a0, a1, .int x] [.int x, .ref s0] h := Rf_go ((stp_of c47_29).trans rfl)
theorem c47_30 : cd 47 30 = some (30, .iaload, 1, []) := by decide +kernel
theorem x47_30 {d : Nat} {a0 a1 a2 : Value} {s0 : Int32} {s1 : Nat} {h : AHp} : Rf d 47 30 [a0, a1, a2] [.int s0, .ref s1] h = if (aT (h.1 s1) = 0 ∨ aT (h.1 s1) = 10) ∧ inB s0 (aN (h.1 s1)) = true then Rf d 47 31 [a0, a1, a2] [.int (aF (h.1 s1) s0.toNatClampNeg)] h else Rx d 47 30 [a0, a1, a2] [.int s0, .ref s1] h := ldI c47_30
theorem c47_31 : cd 47 31 = some (31, .ireturn, 1, []) := by decide +kernel
theorem x47_31 {d : Nat} {a0 a1 a2 : Value} {s0 : Int32} {h : AHp} : Rf d 47 31 [a0, a1, a2] [.int s0] h = some (some (.int s0), h) := Rf_end (by rw [stp_of c47_31]; simp only [stpI]; rw [if_pos (show retI (mH 47).2.2.1 s0 = true from retI_int)])
-- 48: X6_payOf
theorem c48_0 : cd 48 0 = some (0, .aload_n 0, 1, []) := by decide +kernel
theorem x48_0 {d : Nat} {a1 : Value} {x : Nat} {h : AHp} : Rf d 48 0 [.ref x, a1] [] h = Rf d 48 1 [.ref x, a1] [.ref x] h := Rf_go ((stp_of c48_0).trans rfl)
theorem c48_1 : cd 48 1 = some (1, .iload_n 1, 1, []) := by decide +kernel
theorem x48_1 {d : Nat} {a0 : Value} {s0 : Nat} {x : Int32} {h : AHp} : Rf d 48 1 [a0, .int x] [.ref s0] h = Rf d 48 2 [a0, .int x] [.int x, .ref s0] h := Rf_go ((stp_of c48_1).trans rfl)
theorem c48_2 : cd 48 2 = some (2, .invokevirtual 106, 3, [(6, 42)]) := by decide +kernel
theorem xc48_2 {d : Nat} {a0 a1 : Value} {s0 : Int32} {s1 : Nat} {h : AHp} {h1 : AHp} {v : Int32} (hr : cls (h.1 s1) = 6) (hq : Rf d 42 0 [.ref s1, .int s0] [] h = some (some (.int v), h1)) : Rf (d + 1) 48 2 [a0, a1] [.int s0, .ref s1] h = Rf (d + 1) 48 5 [a0, a1] [.int v] h1 := clV (c := 42) (as := [.int s0]) c48_2 rfl (by simp [isV]) (by rw [hr]; rfl) hq
theorem c48_5 : cd 48 5 = some (5, .ifCond .eq 12, 3, [(17, 0)]) := by decide +kernel
theorem x48_5 {d : Nat} {a0 a1 : Value} {s0 : Int32} {h : AHp} : Rf d 48 5 [a0, a1] [.int s0] h = if s0 = 0 then Rf d 48 17 [a0, a1] [] h else Rf d 48 8 [a0, a1] [] h := Rf_brd ((stp_of c48_5).trans rfl)
theorem c48_17 : cd 48 17 = some (17, .iconst 0, 1, []) := by decide +kernel
theorem x48_17 {d : Nat} {a0 a1 : Value} {h : AHp} : Rf d 48 17 [a0, a1] [] h = Rf d 48 18 [a0, a1] [.int 0] h := Rf_go ((stp_of c48_17).trans rfl)
theorem c48_18 : cd 48 18 = some (18, .ireturn, 1, []) := by decide +kernel
theorem x48_18 {d : Nat} {a0 a1 : Value} {s0 : Int32} {h : AHp} : Rf d 48 18 [a0, a1] [.int s0] h = some (some (.int s0), h) := Rf_end (by rw [stp_of c48_18]; simp only [stpI]; rw [if_pos (show retI (mH 48).2.2.1 s0 = true from retI_int)])
theorem c48_8 : cd 48 8 = some (8, .aload_n 0, 1, []) := by decide +kernel
theorem x48_8 {d : Nat} {a1 : Value} {x : Nat} {h : AHp} : Rf d 48 8 [.ref x, a1] [] h = Rf d 48 9 [.ref x, a1] [.ref x] h := Rf_go ((stp_of c48_8).trans rfl)
theorem c48_9 : cd 48 9 = some (9, .getfield 18, 3, [(6, 3)]) := by decide +kernel
theorem x48_9 {d : Nat} {a0 a1 : Value} {s0 : Nat} {h : AHp} : Rf d 48 9 [a0, a1] [.ref s0] h = if cls (h.1 s0) = 6 ∧ oKr (h.1 s0) 3 = true then Rf d 48 12 [a0, a1] [.ref (oR (h.1 s0) 3)] h else Rx d 48 9 [a0, a1] [.ref s0] h := getR c48_9
theorem c48_12 : cd 48 12 = some (12, .iload_n 1, 1, []) := by decide +kernel
theorem x48_12 {d : Nat} {a0 : Value} {s0 : Nat} {x : Int32} {h : AHp} : Rf d 48 12 [a0, .int x] [.ref s0] h = Rf d 48 13 [a0, .int x] [.int x, .ref s0] h := Rf_go ((stp_of c48_12).trans rfl)
theorem c48_13 : cd 48 13 = some (13, .iaload, 1, []) := by decide +kernel
theorem x48_13 {d : Nat} {a0 a1 : Value} {s0 : Int32} {s1 : Nat} {h : AHp} : Rf d 48 13 [a0, a1] [.int s0, .ref s1] h = if (aT (h.1 s1) = 0 ∨ aT (h.1 s1) = 10) ∧ inB s0 (aN (h.1 s1)) = true then Rf d 48 14 [a0, a1] [.int (aF (h.1 s1) s0.toNatClampNeg)] h else Rx d 48 13 [a0, a1] [.int s0, .ref s1] h := ldI c48_13
theorem c48_14 : cd 48 14 = some (14, .goto 4, 3, [(18, 0)]) := by decide +kernel
theorem x48_14 {d : Nat} {a0 a1 : Value} {s0 : Int32} {h : AHp} : Rf d 48 14 [a0, a1] [.int s0] h = Rf d 48 18 [a0, a1] [.int s0] h := Rf_go ((stp_of c48_14).trans rfl)
-- 49: X6_friendOf
theorem c49_0 : cd 49 0 = some (0, .aload_n 0, 1, []) := by decide +kernel
theorem x49_0 {d : Nat} {a1 : Value} {x : Nat} {h : AHp} : Rf d 49 0 [.ref x, a1] [] h = Rf d 49 1 [.ref x, a1] [.ref x] h := Rf_go ((stp_of c49_0).trans rfl)
theorem c49_1 : cd 49 1 = some (1, .iload_n 1, 1, []) := by decide +kernel
theorem x49_1 {d : Nat} {a0 : Value} {s0 : Nat} {x : Int32} {h : AHp} : Rf d 49 1 [a0, .int x] [.ref s0] h = Rf d 49 2 [a0, .int x] [.int x, .ref s0] h := Rf_go ((stp_of c49_1).trans rfl)
theorem c49_2 : cd 49 2 = some (2, .invokevirtual 106, 3, [(6, 42)]) := by decide +kernel
theorem xc49_2 {d : Nat} {a0 a1 : Value} {s0 : Int32} {s1 : Nat} {h : AHp} {h1 : AHp} {v : Int32} (hr : cls (h.1 s1) = 6) (hq : Rf d 42 0 [.ref s1, .int s0] [] h = some (some (.int v), h1)) : Rf (d + 1) 49 2 [a0, a1] [.int s0, .ref s1] h = Rf (d + 1) 49 5 [a0, a1] [.int v] h1 := clV (c := 42) (as := [.int s0]) c49_2 rfl (by simp [isV]) (by rw [hr]; rfl) hq
theorem c49_5 : cd 49 5 = some (5, .ifCond .eq 12, 3, [(17, 0)]) := by decide +kernel
theorem x49_5 {d : Nat} {a0 a1 : Value} {s0 : Int32} {h : AHp} : Rf d 49 5 [a0, a1] [.int s0] h = if s0 = 0 then Rf d 49 17 [a0, a1] [] h else Rf d 49 8 [a0, a1] [] h := Rf_brd ((stp_of c49_5).trans rfl)
theorem c49_17 : cd 49 17 = some (17, .bipush (-5), 2, []) := by decide +kernel
theorem x49_17 {d : Nat} {a0 a1 : Value} {h : AHp} : Rf d 49 17 [a0, a1] [] h = Rf d 49 19 [a0, a1] [.int (-5)] h := Rf_go ((stp_of c49_17).trans rfl)
theorem c49_19 : cd 49 19 = some (19, .ireturn, 1, []) := by decide +kernel
theorem x49_19 {d : Nat} {a0 a1 : Value} {s0 : Int32} {h : AHp} : Rf d 49 19 [a0, a1] [.int s0] h = some (some (.int s0), h) := Rf_end (by rw [stp_of c49_19]; simp only [stpI]; rw [if_pos (show retI (mH 49).2.2.1 s0 = true from retI_int)])
theorem c49_8 : cd 49 8 = some (8, .aload_n 0, 1, []) := by decide +kernel
theorem x49_8 {d : Nat} {a1 : Value} {x : Nat} {h : AHp} : Rf d 49 8 [.ref x, a1] [] h = Rf d 49 9 [.ref x, a1] [.ref x] h := Rf_go ((stp_of c49_8).trans rfl)
theorem c49_9 : cd 49 9 = some (9, .getfield 27, 3, [(6, 6)]) := by decide +kernel
theorem x49_9 {d : Nat} {a0 a1 : Value} {s0 : Nat} {h : AHp} : Rf d 49 9 [a0, a1] [.ref s0] h = if cls (h.1 s0) = 6 ∧ oKr (h.1 s0) 6 = true then Rf d 49 12 [a0, a1] [.ref (oR (h.1 s0) 6)] h else Rx d 49 9 [a0, a1] [.ref s0] h := getR c49_9
theorem c49_12 : cd 49 12 = some (12, .iload_n 1, 1, []) := by decide +kernel
theorem x49_12 {d : Nat} {a0 : Value} {s0 : Nat} {x : Int32} {h : AHp} : Rf d 49 12 [a0, .int x] [.ref s0] h = Rf d 49 13 [a0, .int x] [.int x, .ref s0] h := Rf_go ((stp_of c49_12).trans rfl)
theorem c49_13 : cd 49 13 = some (13, .iaload, 1, []) := by decide +kernel
theorem x49_13 {d : Nat} {a0 a1 : Value} {s0 : Int32} {s1 : Nat} {h : AHp} : Rf d 49 13 [a0, a1] [.int s0, .ref s1] h = if (aT (h.1 s1) = 0 ∨ aT (h.1 s1) = 10) ∧ inB s0 (aN (h.1 s1)) = true then Rf d 49 14 [a0, a1] [.int (aF (h.1 s1) s0.toNatClampNeg)] h else Rx d 49 13 [a0, a1] [.int s0, .ref s1] h := ldI c49_13
theorem c49_14 : cd 49 14 = some (14, .goto 5, 3, [(19, 0)]) := by decide +kernel
theorem x49_14 {d : Nat} {a0 a1 : Value} {s0 : Int32} {h : AHp} : Rf d 49 14 [a0, a1] [.int s0] h = Rf d 49 19 [a0, a1] [.int s0] h := Rf_go ((stp_of c49_14).trans rfl)
-- 50: X6_allPay
theorem c50_0 : cd 50 0 = some (0, .iconst 0, 1, []) := by decide +kernel
theorem x50_0 {d : Nat} {a0 a1 a2 : Value} {h : AHp} : Rf d 50 0 [a0, a1, a2] [] h = Rf d 50 1 [a0, a1, a2] [.int 0] h := Rf_go ((stp_of c50_0).trans rfl)
theorem c50_1 : cd 50 1 = some (1, .istore_n 1, 1, []) := by decide +kernel
theorem x50_1 {d : Nat} {a0 a1 a2 : Value} {s0 : Int32} {h : AHp} : Rf d 50 1 [a0, a1, a2] [.int s0] h = Rf d 50 2 [a0, .int s0, a2] [] h := Rf_go ((stp_of c50_1).trans rfl)
theorem c50_2 : cd 50 2 = some (2, .iconst 0, 1, []) := by decide +kernel
theorem x50_2 {d : Nat} {a0 a1 a2 : Value} {h : AHp} : Rf d 50 2 [a0, a1, a2] [] h = Rf d 50 3 [a0, a1, a2] [.int 0] h := Rf_go ((stp_of c50_2).trans rfl)
theorem c50_3 : cd 50 3 = some (3, .istore_n 2, 1, []) := by decide +kernel
theorem x50_3 {d : Nat} {a0 a1 a2 : Value} {s0 : Int32} {h : AHp} : Rf d 50 3 [a0, a1, a2] [.int s0] h = Rf d 50 4 [a0, a1, .int s0] [] h := Rf_go ((stp_of c50_3).trans rfl)
theorem c50_4 : cd 50 4 = some (4, .iload_n 2, 1, []) := by decide +kernel
theorem x50_4 {d : Nat} {a0 a1 : Value} {x : Int32} {h : AHp} : Rf d 50 4 [a0, a1, .int x] [] h = Rf d 50 5 [a0, a1, .int x] [.int x] h := Rf_go ((stp_of c50_4).trans rfl)
theorem c50_5 : cd 50 5 = some (5, .aload_n 0, 1, []) := by decide +kernel
theorem x50_5 {d : Nat} {a1 a2 : Value} {s0 : Int32} {x : Nat} {h : AHp} : Rf d 50 5 [.ref x, a1, a2] [.int s0] h = Rf d 50 6 [.ref x, a1, a2] [.ref x, .int s0] h := Rf_go ((stp_of c50_5).trans rfl)
theorem c50_6 : cd 50 6 = some (6, .getfield 72, 3, [(6, 0)]) := by decide +kernel
theorem x50_6 {d : Nat} {a0 a1 a2 : Value} {s0 : Nat} {s1 : Int32} {h : AHp} : Rf d 50 6 [a0, a1, a2] [.ref s0, .int s1] h = if cls (h.1 s0) = 6 ∧ oKi (h.1 s0) 0 = true then Rf d 50 9 [a0, a1, a2] [.int (oN (h.1 s0) 0), .int s1] h else Rx d 50 6 [a0, a1, a2] [.ref s0, .int s1] h := getI c50_6
theorem c50_9 : cd 50 9 = some (9, .if_icmp .ge 18, 3, [(27, 0)]) := by decide +kernel
theorem x50_9 {d : Nat} {a0 a1 a2 : Value} {s0 : Int32} {s1 : Int32} {h : AHp} : Rf d 50 9 [a0, a1, a2] [.int s0, .int s1] h = if s1 < s0 then Rf d 50 12 [a0, a1, a2] [] h else Rf d 50 27 [a0, a1, a2] [] h := Rf_brn ((stp_of c50_9).trans rfl)
theorem c50_27 : cd 50 27 = some (27, .iload_n 1, 1, []) := by decide +kernel
theorem x50_27 {d : Nat} {a0 a2 : Value} {x : Int32} {h : AHp} : Rf d 50 27 [a0, .int x, a2] [] h = Rf d 50 28 [a0, .int x, a2] [.int x] h := Rf_go ((stp_of c50_27).trans rfl)
theorem c50_28 : cd 50 28 = some (28, .ireturn, 1, []) := by decide +kernel
theorem x50_28 {d : Nat} {a0 a1 a2 : Value} {s0 : Int32} {h : AHp} : Rf d 50 28 [a0, a1, a2] [.int s0] h = some (some (.int s0), h) := Rf_end (by rw [stp_of c50_28]; simp only [stpI]; rw [if_pos (show retI (mH 50).2.2.1 s0 = true from retI_int)])
theorem c50_12 : cd 50 12 = some (12, .iload_n 1, 1, []) := by decide +kernel
theorem x50_12 {d : Nat} {a0 a2 : Value} {x : Int32} {h : AHp} : Rf d 50 12 [a0, .int x, a2] [] h = Rf d 50 13 [a0, .int x, a2] [.int x] h := Rf_go ((stp_of c50_12).trans rfl)
theorem c50_13 : cd 50 13 = some (13, .aload_n 0, 1, []) := by decide +kernel
theorem x50_13 {d : Nat} {a1 a2 : Value} {s0 : Int32} {x : Nat} {h : AHp} : Rf d 50 13 [.ref x, a1, a2] [.int s0] h = Rf d 50 14 [.ref x, a1, a2] [.ref x, .int s0] h := Rf_go ((stp_of c50_13).trans rfl)
theorem c50_14 : cd 50 14 = some (14, .getfield 18, 3, [(6, 3)]) := by decide +kernel
theorem x50_14 {d : Nat} {a0 a1 a2 : Value} {s0 : Nat} {s1 : Int32} {h : AHp} : Rf d 50 14 [a0, a1, a2] [.ref s0, .int s1] h = if cls (h.1 s0) = 6 ∧ oKr (h.1 s0) 3 = true then Rf d 50 17 [a0, a1, a2] [.ref (oR (h.1 s0) 3), .int s1] h else Rx d 50 14 [a0, a1, a2] [.ref s0, .int s1] h := getR c50_14
theorem c50_17 : cd 50 17 = some (17, .iload_n 2, 1, []) := by decide +kernel
theorem x50_17 {d : Nat} {a0 a1 : Value} {s0 : Nat} {s1 : Int32} {x : Int32} {h : AHp} : Rf d 50 17 [a0, a1, .int x] [.ref s0, .int s1] h = Rf d 50 18 [a0, a1, .int x] [.int x, .ref s0, .int s1] h := Rf_go ((stp_of c50_17).trans rfl)
theorem c50_18 : cd 50 18 = some (18, .iaload, 1, []) := by decide +kernel
theorem x50_18 {d : Nat} {a0 a1 a2 : Value} {s0 : Int32} {s1 : Nat} {s2 : Int32} {h : AHp} : Rf d 50 18 [a0, a1, a2] [.int s0, .ref s1, .int s2] h = if (aT (h.1 s1) = 0 ∨ aT (h.1 s1) = 10) ∧ inB s0 (aN (h.1 s1)) = true then Rf d 50 19 [a0, a1, a2] [.int (aF (h.1 s1) s0.toNatClampNeg), .int s2] h else Rx d 50 18 [a0, a1, a2] [.int s0, .ref s1, .int s2] h := ldI c50_18
theorem c50_19 : cd 50 19 = some (19, .iadd, 1, []) := by decide +kernel
theorem x50_19 {d : Nat} {a0 a1 a2 : Value} {s0 : Int32} {s1 : Int32} {h : AHp} : Rf d 50 19 [a0, a1, a2] [.int s0, .int s1] h = Rf d 50 20 [a0, a1, a2] [.int (s1 + s0)] h := Rf_go ((stp_of c50_19).trans rfl)
theorem c50_20 : cd 50 20 = some (20, .istore_n 1, 1, []) := by decide +kernel
theorem x50_20 {d : Nat} {a0 a1 a2 : Value} {s0 : Int32} {h : AHp} : Rf d 50 20 [a0, a1, a2] [.int s0] h = Rf d 50 21 [a0, .int s0, a2] [] h := Rf_go ((stp_of c50_20).trans rfl)
theorem c50_21 : cd 50 21 = some (21, .iinc 2 1, 3, []) := by decide +kernel
theorem x50_21 {d : Nat} {a0 a1 : Value} {x : Int32} {h : AHp} : Rf d 50 21 [a0, a1, .int x] [] h = Rf d 50 24 [a0, a1, .int (x + 1)] [] h := Rf_go ((stp_of c50_21).trans rfl)
theorem c50_24 : cd 50 24 = some (24, .goto (-20), 3, [(4, 0)]) := by decide +kernel
theorem x50_24 {d : Nat} {a0 a1 a2 : Value} {h : AHp} : Rf d 50 24 [a0, a1, a2] [] h = Rf d 50 4 [a0, a1, a2] [] h := Rf_go ((stp_of c50_24).trans rfl)
-- 51: X6_meanOfAll
theorem c51_0 : cd 51 0 = some (0, .aload_n 0, 1, []) := by decide +kernel
theorem x51_0 {d : Nat} {x : Nat} {h : AHp} : Rf d 51 0 [.ref x] [] h = Rf d 51 1 [.ref x] [.ref x] h := Rf_go ((stp_of c51_0).trans rfl)
theorem c51_1 : cd 51 1 = some (1, .getfield 72, 3, [(6, 0)]) := by decide +kernel
theorem x51_1 {d : Nat} {a0 : Value} {s0 : Nat} {h : AHp} : Rf d 51 1 [a0] [.ref s0] h = if cls (h.1 s0) = 6 ∧ oKi (h.1 s0) 0 = true then Rf d 51 4 [a0] [.int (oN (h.1 s0) 0)] h else Rx d 51 1 [a0] [.ref s0] h := getI c51_1
theorem c51_4 : cd 51 4 = some (4, .ifCond .ne 7, 3, [(11, 0)]) := by decide +kernel
theorem x51_4 {d : Nat} {a0 : Value} {s0 : Int32} {h : AHp} : Rf d 51 4 [a0] [.int s0] h = if s0 = 0 then Rf d 51 7 [a0] [] h else Rf d 51 11 [a0] [] h := Rf_brn ((stp_of c51_4).trans rfl)
theorem c51_11 : cd 51 11 = some (11, .aload_n 0, 1, []) := by decide +kernel
theorem x51_11 {d : Nat} {x : Nat} {h : AHp} : Rf d 51 11 [.ref x] [] h = Rf d 51 12 [.ref x] [.ref x] h := Rf_go ((stp_of c51_11).trans rfl)
theorem c51_12 : cd 51 12 = some (12, .invokevirtual 110, 3, [(6, 50)]) := by decide +kernel
theorem xc51_12 {d : Nat} {a0 : Value} {s0 : Nat} {h : AHp} {h1 : AHp} {v : Int32} (hr : cls (h.1 s0) = 6) (hq : Rf d 50 0 [.ref s0, noV, noV] [] h = some (some (.int v), h1)) : Rf (d + 1) 51 12 [a0] [.ref s0] h = Rf (d + 1) 51 15 [a0] [.int v] h1 := clV (c := 50) (as := []) c51_12 rfl (by simp [isV]) (by rw [hr]; rfl) hq
theorem c51_15 : cd 51 15 = some (15, .aload_n 0, 1, []) := by decide +kernel
theorem x51_15 {d : Nat} {s0 : Int32} {x : Nat} {h : AHp} : Rf d 51 15 [.ref x] [.int s0] h = Rf d 51 16 [.ref x] [.ref x, .int s0] h := Rf_go ((stp_of c51_15).trans rfl)
theorem c51_16 : cd 51 16 = some (16, .getfield 72, 3, [(6, 0)]) := by decide +kernel
theorem x51_16 {d : Nat} {a0 : Value} {s0 : Nat} {s1 : Int32} {h : AHp} : Rf d 51 16 [a0] [.ref s0, .int s1] h = if cls (h.1 s0) = 6 ∧ oKi (h.1 s0) 0 = true then Rf d 51 19 [a0] [.int (oN (h.1 s0) 0), .int s1] h else Rx d 51 16 [a0] [.ref s0, .int s1] h := getI c51_16
theorem c51_19 : cd 51 19 = some (19, .idiv, 1, []) := by decide +kernel
theorem x51_19 {d : Nat} {a0 : Value} {s0 : Int32} {s1 : Int32} {h : AHp} : Rf d 51 19 [a0] [.int s0, .int s1] h = if ¬ s0 = 0 then Rf d 51 20 [a0] [.int (s1 / s0)] h else Rx d 51 19 [a0] [.int s0, .int s1] h := divE c51_19 (fun _ _ _ => rfl)
theorem c51_20 : cd 51 20 = some (20, .ireturn, 1, []) := by decide +kernel
theorem x51_20 {d : Nat} {a0 : Value} {s0 : Int32} {h : AHp} : Rf d 51 20 [a0] [.int s0] h = some (some (.int s0), h) := Rf_end (by rw [stp_of c51_20]; simp only [stpI]; rw [if_pos (show retI (mH 51).2.2.1 s0 = true from retI_int)])
theorem c51_7 : cd 51 7 = some (7, .iconst 0, 1, []) := by decide +kernel
theorem x51_7 {d : Nat} {a0 : Value} {h : AHp} : Rf d 51 7 [a0] [] h = Rf d 51 8 [a0] [.int 0] h := Rf_go ((stp_of c51_7).trans rfl)
theorem c51_8 : cd 51 8 = some (8, .goto 12, 3, [(20, 0)]) := by decide +kernel
theorem x51_8 {d : Nat} {a0 : Value} {s0 : Int32} {h : AHp} : Rf d 51 8 [a0] [.int s0] h = Rf d 51 20 [a0] [.int s0] h := Rf_go ((stp_of c51_8).trans rfl)
-- 52: X6_meanAround
theorem c52_0 : cd 52 0 = some (0, .aload_n 0, 1, []) := by decide +kernel
theorem x52_0 {d : Nat} {a1 a2 a3 a4 a5 a6 : Value} {x : Nat} {h : AHp} : Rf d 52 0 [.ref x, a1, a2, a3, a4, a5, a6] [] h = Rf d 52 1 [.ref x, a1, a2, a3, a4, a5, a6] [.ref x] h := Rf_go ((stp_of c52_0).trans rfl)
theorem c52_1 : cd 52 1 = some (1, .iload_n 1, 1, []) := by decide +kernel
theorem x52_1 {d : Nat} {a0 a2 a3 a4 a5 a6 : Value} {s0 : Nat} {x : Int32} {h : AHp} : Rf d 52 1 [a0, .int x, a2, a3, a4, a5, a6] [.ref s0] h = Rf d 52 2 [a0, .int x, a2, a3, a4, a5, a6] [.int x, .ref s0] h := Rf_go ((stp_of c52_1).trans rfl)
theorem c52_2 : cd 52 2 = some (2, .invokevirtual 106, 3, [(6, 42)]) := by decide +kernel
theorem xc52_2 {d : Nat} {a0 a1 a2 a3 a4 a5 a6 : Value} {s0 : Int32} {s1 : Nat} {h : AHp} {h1 : AHp} {v : Int32} (hr : cls (h.1 s1) = 6) (hq : Rf d 42 0 [.ref s1, .int s0] [] h = some (some (.int v), h1)) : Rf (d + 1) 52 2 [a0, a1, a2, a3, a4, a5, a6] [.int s0, .ref s1] h = Rf (d + 1) 52 5 [a0, a1, a2, a3, a4, a5, a6] [.int v] h1 := clV (c := 42) (as := [.int s0]) c52_2 rfl (by simp [isV]) (by rw [hr]; rfl) hq
theorem c52_5 : cd 52 5 = some (5, .ifCond .ne 5, 3, [(10, 0)]) := by decide +kernel
theorem x52_5 {d : Nat} {a0 a1 a2 a3 a4 a5 a6 : Value} {s0 : Int32} {h : AHp} : Rf d 52 5 [a0, a1, a2, a3, a4, a5, a6] [.int s0] h = if s0 = 0 then Rf d 52 8 [a0, a1, a2, a3, a4, a5, a6] [] h else Rf d 52 10 [a0, a1, a2, a3, a4, a5, a6] [] h := Rf_brn ((stp_of c52_5).trans rfl)
theorem c52_10 : cd 52 10 = some (10, .aload_n 0, 1, []) := by decide +kernel
theorem x52_10 {d : Nat} {a1 a2 a3 a4 a5 a6 : Value} {x : Nat} {h : AHp} : Rf d 52 10 [.ref x, a1, a2, a3, a4, a5, a6] [] h = Rf d 52 11 [.ref x, a1, a2, a3, a4, a5, a6] [.ref x] h := Rf_go ((stp_of c52_10).trans rfl)
theorem c52_11 : cd 52 11 = some (11, .iload_n 1, 1, []) := by decide +kernel
theorem x52_11 {d : Nat} {a0 a2 a3 a4 a5 a6 : Value} {s0 : Nat} {x : Int32} {h : AHp} : Rf d 52 11 [a0, .int x, a2, a3, a4, a5, a6] [.ref s0] h = Rf d 52 12 [a0, .int x, a2, a3, a4, a5, a6] [.int x, .ref s0] h := Rf_go ((stp_of c52_11).trans rfl)
theorem c52_12 : cd 52 12 = some (12, .invokevirtual 113, 3, [(6, 46)]) := by decide +kernel
theorem xc52_12 {d : Nat} {a0 a1 a2 a3 a4 a5 a6 : Value} {s0 : Int32} {s1 : Nat} {h : AHp} {h1 : AHp} {v : Int32} (hr : cls (h.1 s1) = 6) (hq : Rf d 46 0 [.ref s1, .int s0, noV] [] h = some (some (.int v), h1)) : Rf (d + 1) 52 12 [a0, a1, a2, a3, a4, a5, a6] [.int s0, .ref s1] h = Rf (d + 1) 52 15 [a0, a1, a2, a3, a4, a5, a6] [.int v] h1 := clV (c := 46) (as := [.int s0]) c52_12 rfl (by simp [isV]) (by rw [hr]; rfl) hq
theorem c52_15 : cd 52 15 = some (15, .istore_n 3, 1, []) := by decide +kernel
theorem x52_15 {d : Nat} {a0 a1 a2 a3 a4 a5 a6 : Value} {s0 : Int32} {h : AHp} : Rf d 52 15 [a0, a1, a2, a3, a4, a5, a6] [.int s0] h = Rf d 52 16 [a0, a1, a2, .int s0, a4, a5, a6] [] h := Rf_go ((stp_of c52_15).trans rfl)
theorem c52_16 : cd 52 16 = some (16, .aload_n 0, 1, []) := by decide +kernel
theorem x52_16 {d : Nat} {a1 a2 a3 a4 a5 a6 : Value} {x : Nat} {h : AHp} : Rf d 52 16 [.ref x, a1, a2, a3, a4, a5, a6] [] h = Rf d 52 17 [.ref x, a1, a2, a3, a4, a5, a6] [.ref x] h := Rf_go ((stp_of c52_16).trans rfl)
theorem c52_17 : cd 52 17 = some (17, .iload_n 1, 1, []) := by decide +kernel
theorem x52_17 {d : Nat} {a0 a2 a3 a4 a5 a6 : Value} {s0 : Nat} {x : Int32} {h : AHp} : Rf d 52 17 [a0, .int x, a2, a3, a4, a5, a6] [.ref s0] h = Rf d 52 18 [a0, .int x, a2, a3, a4, a5, a6] [.int x, .ref s0] h := Rf_go ((stp_of c52_17).trans rfl)
theorem c52_18 : cd 52 18 = some (18, .invokevirtual 117, 3, [(6, 47)]) := by decide +kernel
theorem xc52_18 {d : Nat} {a0 a1 a2 a3 a4 a5 a6 : Value} {s0 : Int32} {s1 : Nat} {h : AHp} {h1 : AHp} {v : Int32} (hr : cls (h.1 s1) = 6) (hq : Rf d 47 0 [.ref s1, .int s0, noV] [] h = some (some (.int v), h1)) : Rf (d + 1) 52 18 [a0, a1, a2, a3, a4, a5, a6] [.int s0, .ref s1] h = Rf (d + 1) 52 21 [a0, a1, a2, a3, a4, a5, a6] [.int v] h1 := clV (c := 47) (as := [.int s0]) c52_18 rfl (by simp [isV]) (by rw [hr]; rfl) hq
theorem c52_21 : cd 52 21 = some (21, .istore 4, 2, []) := by decide +kernel
theorem x52_21 {d : Nat} {a0 a1 a2 a3 a4 a5 a6 : Value} {s0 : Int32} {h : AHp} : Rf d 52 21 [a0, a1, a2, a3, a4, a5, a6] [.int s0] h = Rf d 52 23 [a0, a1, a2, a3, .int s0, a5, a6] [] h := Rf_go ((stp_of c52_21).trans rfl)
theorem c52_23 : cd 52 23 = some (23, .aload_n 0, 1, []) := by decide +kernel
theorem x52_23 {d : Nat} {a1 a2 a3 a4 a5 a6 : Value} {x : Nat} {h : AHp} : Rf d 52 23 [.ref x, a1, a2, a3, a4, a5, a6] [] h = Rf d 52 24 [.ref x, a1, a2, a3, a4, a5, a6] [.ref x] h := Rf_go ((stp_of c52_23).trans rfl)
theorem c52_24 : cd 52 24 = some (24, .getfield 18, 3, [(6, 3)]) := by decide +kernel
theorem x52_24 {d : Nat} {a0 a1 a2 a3 a4 a5 a6 : Value} {s0 : Nat} {h : AHp} : Rf d 52 24 [a0, a1, a2, a3, a4, a5, a6] [.ref s0] h = if cls (h.1 s0) = 6 ∧ oKr (h.1 s0) 3 = true then Rf d 52 27 [a0, a1, a2, a3, a4, a5, a6] [.ref (oR (h.1 s0) 3)] h else Rx d 52 24 [a0, a1, a2, a3, a4, a5, a6] [.ref s0] h := getR c52_24
theorem c52_27 : cd 52 27 = some (27, .iload_n 1, 1, []) := by decide +kernel
theorem x52_27 {d : Nat} {a0 a2 a3 a4 a5 a6 : Value} {s0 : Nat} {x : Int32} {h : AHp} : Rf d 52 27 [a0, .int x, a2, a3, a4, a5, a6] [.ref s0] h = Rf d 52 28 [a0, .int x, a2, a3, a4, a5, a6] [.int x, .ref s0] h := Rf_go ((stp_of c52_27).trans rfl)
theorem c52_28 : cd 52 28 = some (28, .iaload, 1, []) := by decide +kernel
theorem x52_28 {d : Nat} {a0 a1 a2 a3 a4 a5 a6 : Value} {s0 : Int32} {s1 : Nat} {h : AHp} : Rf d 52 28 [a0, a1, a2, a3, a4, a5, a6] [.int s0, .ref s1] h = if (aT (h.1 s1) = 0 ∨ aT (h.1 s1) = 10) ∧ inB s0 (aN (h.1 s1)) = true then Rf d 52 29 [a0, a1, a2, a3, a4, a5, a6] [.int (aF (h.1 s1) s0.toNatClampNeg)] h else Rx d 52 28 [a0, a1, a2, a3, a4, a5, a6] [.int s0, .ref s1] h := ldI c52_28
theorem c52_29 : cd 52 29 = some (29, .istore 5, 2, []) := by decide +kernel
theorem x52_29 {d : Nat} {a0 a1 a2 a3 a4 a5 a6 : Value} {s0 : Int32} {h : AHp} : Rf d 52 29 [a0, a1, a2, a3, a4, a5, a6] [.int s0] h = Rf d 52 31 [a0, a1, a2, a3, a4, .int s0, a6] [] h := Rf_go ((stp_of c52_29).trans rfl)
theorem c52_31 : cd 52 31 = some (31, .iconst 1, 1, []) := by decide +kernel
theorem x52_31 {d : Nat} {a0 a1 a2 a3 a4 a5 a6 : Value} {h : AHp} : Rf d 52 31 [a0, a1, a2, a3, a4, a5, a6] [] h = Rf d 52 32 [a0, a1, a2, a3, a4, a5, a6] [.int 1] h := Rf_go ((stp_of c52_31).trans rfl)
theorem c52_32 : cd 52 32 = some (32, .istore 6, 2, []) := by decide +kernel
theorem x52_32 {d : Nat} {a0 a1 a2 a3 a4 a5 a6 : Value} {s0 : Int32} {h : AHp} : Rf d 52 32 [a0, a1, a2, a3, a4, a5, a6] [.int s0] h = Rf d 52 34 [a0, a1, a2, a3, a4, a5, .int s0] [] h := Rf_go ((stp_of c52_32).trans rfl)
theorem c52_34 : cd 52 34 = some (34, .iload_n 3, 1, []) := by decide +kernel
theorem x52_34 {d : Nat} {a0 a1 a2 a4 a5 a6 : Value} {x : Int32} {h : AHp} : Rf d 52 34 [a0, a1, a2, .int x, a4, a5, a6] [] h = Rf d 52 35 [a0, a1, a2, .int x, a4, a5, a6] [.int x] h := Rf_go ((stp_of c52_34).trans rfl)
theorem c52_35 : cd 52 35 = some (35, .iconst (-1), 1, []) := by decide +kernel
theorem x52_35 {d : Nat} {a0 a1 a2 a3 a4 a5 a6 : Value} {s0 : Int32} {h : AHp} : Rf d 52 35 [a0, a1, a2, a3, a4, a5, a6] [.int s0] h = Rf d 52 36 [a0, a1, a2, a3, a4, a5, a6] [.int (-1), .int s0] h := Rf_go ((stp_of c52_35).trans rfl)
theorem c52_36 : cd 52 36 = some (36, .if_icmp .eq 17, 3, [(53, 0)]) := by decide +kernel
theorem x52_36 {d : Nat} {a0 a1 a2 a3 a4 a5 a6 : Value} {s0 : Int32} {s1 : Int32} {h : AHp} : Rf d 52 36 [a0, a1, a2, a3, a4, a5, a6] [.int s0, .int s1] h = if s1 = s0 then Rf d 52 53 [a0, a1, a2, a3, a4, a5, a6] [] h else Rf d 52 39 [a0, a1, a2, a3, a4, a5, a6] [] h := Rf_brd ((stp_of c52_36).trans rfl)
theorem c52_53 : cd 52 53 = some (53, .iload 4, 2, []) := by decide +kernel
theorem x52_53 {d : Nat} {a0 a1 a2 a3 a5 a6 : Value} {x : Int32} {h : AHp} : Rf d 52 53 [a0, a1, a2, a3, .int x, a5, a6] [] h = Rf d 52 55 [a0, a1, a2, a3, .int x, a5, a6] [.int x] h := Rf_go ((stp_of c52_53).trans rfl)
theorem c52_55 : cd 52 55 = some (55, .iconst (-1), 1, []) := by decide +kernel
theorem x52_55 {d : Nat} {a0 a1 a2 a3 a4 a5 a6 : Value} {s0 : Int32} {h : AHp} : Rf d 52 55 [a0, a1, a2, a3, a4, a5, a6] [.int s0] h = Rf d 52 56 [a0, a1, a2, a3, a4, a5, a6] [.int (-1), .int s0] h := Rf_go ((stp_of c52_55).trans rfl)
theorem c52_56 : cd 52 56 = some (56, .if_icmp .eq 18, 3, [(74, 0)]) := by decide +kernel
theorem x52_56 {d : Nat} {a0 a1 a2 a3 a4 a5 a6 : Value} {s0 : Int32} {s1 : Int32} {h : AHp} : Rf d 52 56 [a0, a1, a2, a3, a4, a5, a6] [.int s0, .int s1] h = if s1 = s0 then Rf d 52 74 [a0, a1, a2, a3, a4, a5, a6] [] h else Rf d 52 59 [a0, a1, a2, a3, a4, a5, a6] [] h := Rf_brd ((stp_of c52_56).trans rfl)
theorem c52_74 : cd 52 74 = some (74, .aload_n 0, 1, []) := by decide +kernel
theorem x52_74 {d : Nat} {a1 a2 a3 a4 a5 a6 : Value} {x : Nat} {h : AHp} : Rf d 52 74 [.ref x, a1, a2, a3, a4, a5, a6] [] h = Rf d 52 75 [.ref x, a1, a2, a3, a4, a5, a6] [.ref x] h := Rf_go ((stp_of c52_74).trans rfl)
theorem c52_75 : cd 52 75 = some (75, .iload_n 2, 1, []) := by decide +kernel
theorem x52_75 {d : Nat} {a0 a1 a3 a4 a5 a6 : Value} {s0 : Nat} {x : Int32} {h : AHp} : Rf d 52 75 [a0, a1, .int x, a3, a4, a5, a6] [.ref s0] h = Rf d 52 76 [a0, a1, .int x, a3, a4, a5, a6] [.int x, .ref s0] h := Rf_go ((stp_of c52_75).trans rfl)
theorem c52_76 : cd 52 76 = some (76, .invokevirtual 106, 3, [(6, 42)]) := by decide +kernel
theorem xc52_76 {d : Nat} {a0 a1 a2 a3 a4 a5 a6 : Value} {s0 : Int32} {s1 : Nat} {h : AHp} {h1 : AHp} {v : Int32} (hr : cls (h.1 s1) = 6) (hq : Rf d 42 0 [.ref s1, .int s0] [] h = some (some (.int v), h1)) : Rf (d + 1) 52 76 [a0, a1, a2, a3, a4, a5, a6] [.int s0, .ref s1] h = Rf (d + 1) 52 79 [a0, a1, a2, a3, a4, a5, a6] [.int v] h1 := clV (c := 42) (as := [.int s0]) c52_76 rfl (by simp [isV]) (by rw [hr]; rfl) hq
theorem c52_79 : cd 52 79 = some (79, .ifCond .eq 33, 3, [(112, 0)]) := by decide +kernel
theorem x52_79 {d : Nat} {a0 a1 a2 a3 a4 a5 a6 : Value} {s0 : Int32} {h : AHp} : Rf d 52 79 [a0, a1, a2, a3, a4, a5, a6] [.int s0] h = if s0 = 0 then Rf d 52 112 [a0, a1, a2, a3, a4, a5, a6] [] h else Rf d 52 82 [a0, a1, a2, a3, a4, a5, a6] [] h := Rf_brd ((stp_of c52_79).trans rfl)
theorem c52_112 : cd 52 112 = some (112, .iload 5, 2, []) := by decide +kernel
theorem x52_112 {d : Nat} {a0 a1 a2 a3 a4 a6 : Value} {x : Int32} {h : AHp} : Rf d 52 112 [a0, a1, a2, a3, a4, .int x, a6] [] h = Rf d 52 114 [a0, a1, a2, a3, a4, .int x, a6] [.int x] h := Rf_go ((stp_of c52_112).trans rfl)
theorem c52_114 : cd 52 114 = some (114, .iload 6, 2, []) := by decide +kernel
theorem x52_114 {d : Nat} {a0 a1 a2 a3 a4 a5 : Value} {s0 : Int32} {x : Int32} {h : AHp} : Rf d 52 114 [a0, a1, a2, a3, a4, a5, .int x] [.int s0] h = Rf d 52 116 [a0, a1, a2, a3, a4, a5, .int x] [.int x, .int s0] h := Rf_go ((stp_of c52_114).trans rfl)
theorem c52_116 : cd 52 116 = some (116, .idiv, 1, []) := by decide +kernel
theorem x52_116 {d : Nat} {a0 a1 a2 a3 a4 a5 a6 : Value} {s0 : Int32} {s1 : Int32} {h : AHp} : Rf d 52 116 [a0, a1, a2, a3, a4, a5, a6] [.int s0, .int s1] h = if ¬ s0 = 0 then Rf d 52 117 [a0, a1, a2, a3, a4, a5, a6] [.int (s1 / s0)] h else Rx d 52 116 [a0, a1, a2, a3, a4, a5, a6] [.int s0, .int s1] h := divE c52_116 (fun _ _ _ => rfl)
theorem c52_117 : cd 52 117 = some (117, .ireturn, 1, []) := by decide +kernel
theorem x52_117 {d : Nat} {a0 a1 a2 a3 a4 a5 a6 : Value} {s0 : Int32} {h : AHp} : Rf d 52 117 [a0, a1, a2, a3, a4, a5, a6] [.int s0] h = some (some (.int s0), h) := Rf_end (by rw [stp_of c52_117]; simp only [stpI]; rw [if_pos (show retI (mH 52).2.2.1 s0 = true from retI_int)])
theorem c52_82 : cd 52 82 = some (82, .iload_n 2, 1, []) := by decide +kernel
theorem x52_82 {d : Nat} {a0 a1 a3 a4 a5 a6 : Value} {x : Int32} {h : AHp} : Rf d 52 82 [a0, a1, .int x, a3, a4, a5, a6] [] h = Rf d 52 83 [a0, a1, .int x, a3, a4, a5, a6] [.int x] h := Rf_go ((stp_of c52_82).trans rfl)
theorem c52_83 : cd 52 83 = some (83, .iload_n 1, 1, []) := by decide +kernel
theorem x52_83 {d : Nat} {a0 a2 a3 a4 a5 a6 : Value} {s0 : Int32} {x : Int32} {h : AHp} : Rf d 52 83 [a0, .int x, a2, a3, a4, a5, a6] [.int s0] h = Rf d 52 84 [a0, .int x, a2, a3, a4, a5, a6] [.int x, .int s0] h := Rf_go ((stp_of c52_83).trans rfl)
theorem c52_84 : cd 52 84 = some (84, .if_icmp .eq 28, 3, [(112, 0)]) := by decide +kernel
theorem x52_84 {d : Nat} {a0 a1 a2 a3 a4 a5 a6 : Value} {s0 : Int32} {s1 : Int32} {h : AHp} : Rf d 52 84 [a0, a1, a2, a3, a4, a5, a6] [.int s0, .int s1] h = if s1 = s0 then Rf d 52 112 [a0, a1, a2, a3, a4, a5, a6] [] h else Rf d 52 87 [a0, a1, a2, a3, a4, a5, a6] [] h := Rf_brd ((stp_of c52_84).trans rfl)
theorem c52_87 : cd 52 87 = some (87, .iload_n 2, 1, []) := by decide +kernel
theorem x52_87 {d : Nat} {a0 a1 a3 a4 a5 a6 : Value} {x : Int32} {h : AHp} : Rf d 52 87 [a0, a1, .int x, a3, a4, a5, a6] [] h = Rf d 52 88 [a0, a1, .int x, a3, a4, a5, a6] [.int x] h := Rf_go ((stp_of c52_87).trans rfl)
theorem c52_88 : cd 52 88 = some (88, .iload_n 3, 1, []) := by decide +kernel
theorem x52_88 {d : Nat} {a0 a1 a2 a4 a5 a6 : Value} {s0 : Int32} {x : Int32} {h : AHp} : Rf d 52 88 [a0, a1, a2, .int x, a4, a5, a6] [.int s0] h = Rf d 52 89 [a0, a1, a2, .int x, a4, a5, a6] [.int x, .int s0] h := Rf_go ((stp_of c52_88).trans rfl)
theorem c52_89 : cd 52 89 = some (89, .if_icmp .eq 23, 3, [(112, 0)]) := by decide +kernel
theorem x52_89 {d : Nat} {a0 a1 a2 a3 a4 a5 a6 : Value} {s0 : Int32} {s1 : Int32} {h : AHp} : Rf d 52 89 [a0, a1, a2, a3, a4, a5, a6] [.int s0, .int s1] h = if s1 = s0 then Rf d 52 112 [a0, a1, a2, a3, a4, a5, a6] [] h else Rf d 52 92 [a0, a1, a2, a3, a4, a5, a6] [] h := Rf_brd ((stp_of c52_89).trans rfl)
theorem c52_92 : cd 52 92 = some (92, .iload_n 2, 1, []) := by decide +kernel
theorem x52_92 {d : Nat} {a0 a1 a3 a4 a5 a6 : Value} {x : Int32} {h : AHp} : Rf d 52 92 [a0, a1, .int x, a3, a4, a5, a6] [] h = Rf d 52 93 [a0, a1, .int x, a3, a4, a5, a6] [.int x] h := Rf_go ((stp_of c52_92).trans rfl)
theorem c52_93 : cd 52 93 = some (93, .iload 4, 2, []) := by decide +kernel
theorem x52_93 {d : Nat} {a0 a1 a2 a3 a5 a6 : Value} {s0 : Int32} {x : Int32} {h : AHp} : Rf d 52 93 [a0, a1, a2, a3, .int x, a5, a6] [.int s0] h = Rf d 52 95 [a0, a1, a2, a3, .int x, a5, a6] [.int x, .int s0] h := Rf_go ((stp_of c52_93).trans rfl)
theorem c52_95 : cd 52 95 = some (95, .if_icmp .eq 17, 3, [(112, 0)]) := by decide +kernel
theorem x52_95 {d : Nat} {a0 a1 a2 a3 a4 a5 a6 : Value} {s0 : Int32} {s1 : Int32} {h : AHp} : Rf d 52 95 [a0, a1, a2, a3, a4, a5, a6] [.int s0, .int s1] h = if s1 = s0 then Rf d 52 112 [a0, a1, a2, a3, a4, a5, a6] [] h else Rf d 52 98 [a0, a1, a2, a3, a4, a5, a6] [] h := Rf_brd ((stp_of c52_95).trans rfl)
theorem c52_98 : cd 52 98 = some (98, .iload 5, 2, []) := by decide +kernel
theorem x52_98 {d : Nat} {a0 a1 a2 a3 a4 a6 : Value} {x : Int32} {h : AHp} : Rf d 52 98 [a0, a1, a2, a3, a4, .int x, a6] [] h = Rf d 52 100 [a0, a1, a2, a3, a4, .int x, a6] [.int x] h := Rf_go ((stp_of c52_98).trans rfl)
theorem c52_100 : cd 52 100 = some (100, .aload_n 0, 1, []) := by decide +kernel
theorem x52_100 {d : Nat} {a1 a2 a3 a4 a5 a6 : Value} {s0 : Int32} {x : Nat} {h : AHp} : Rf d 52 100 [.ref x, a1, a2, a3, a4, a5, a6] [.int s0] h = Rf d 52 101 [.ref x, a1, a2, a3, a4, a5, a6] [.ref x, .int s0] h := Rf_go ((stp_of c52_100).trans rfl)
theorem c52_101 : cd 52 101 = some (101, .getfield 18, 3, [(6, 3)]) := by decide +kernel
theorem x52_101 {d : Nat} {a0 a1 a2 a3 a4 a5 a6 : Value} {s0 : Nat} {s1 : Int32} {h : AHp} : Rf d 52 101 [a0, a1, a2, a3, a4, a5, a6] [.ref s0, .int s1] h = if cls (h.1 s0) = 6 ∧ oKr (h.1 s0) 3 = true then Rf d 52 104 [a0, a1, a2, a3, a4, a5, a6] [.ref (oR (h.1 s0) 3), .int s1] h else Rx d 52 101 [a0, a1, a2, a3, a4, a5, a6] [.ref s0, .int s1] h := getR c52_101
theorem c52_104 : cd 52 104 = some (104, .iload_n 2, 1, []) := by decide +kernel
theorem x52_104 {d : Nat} {a0 a1 a3 a4 a5 a6 : Value} {s0 : Nat} {s1 : Int32} {x : Int32} {h : AHp} : Rf d 52 104 [a0, a1, .int x, a3, a4, a5, a6] [.ref s0, .int s1] h = Rf d 52 105 [a0, a1, .int x, a3, a4, a5, a6] [.int x, .ref s0, .int s1] h := Rf_go ((stp_of c52_104).trans rfl)
theorem c52_105 : cd 52 105 = some (105, .iaload, 1, []) := by decide +kernel
theorem x52_105 {d : Nat} {a0 a1 a2 a3 a4 a5 a6 : Value} {s0 : Int32} {s1 : Nat} {s2 : Int32} {h : AHp} : Rf d 52 105 [a0, a1, a2, a3, a4, a5, a6] [.int s0, .ref s1, .int s2] h = if (aT (h.1 s1) = 0 ∨ aT (h.1 s1) = 10) ∧ inB s0 (aN (h.1 s1)) = true then Rf d 52 106 [a0, a1, a2, a3, a4, a5, a6] [.int (aF (h.1 s1) s0.toNatClampNeg), .int s2] h else Rx d 52 105 [a0, a1, a2, a3, a4, a5, a6] [.int s0, .ref s1, .int s2] h := ldI c52_105
theorem c52_106 : cd 52 106 = some (106, .iadd, 1, []) := by decide +kernel
theorem x52_106 {d : Nat} {a0 a1 a2 a3 a4 a5 a6 : Value} {s0 : Int32} {s1 : Int32} {h : AHp} : Rf d 52 106 [a0, a1, a2, a3, a4, a5, a6] [.int s0, .int s1] h = Rf d 52 107 [a0, a1, a2, a3, a4, a5, a6] [.int (s1 + s0)] h := Rf_go ((stp_of c52_106).trans rfl)
theorem c52_107 : cd 52 107 = some (107, .istore 5, 2, []) := by decide +kernel
theorem x52_107 {d : Nat} {a0 a1 a2 a3 a4 a5 a6 : Value} {s0 : Int32} {h : AHp} : Rf d 52 107 [a0, a1, a2, a3, a4, a5, a6] [.int s0] h = Rf d 52 109 [a0, a1, a2, a3, a4, .int s0, a6] [] h := Rf_go ((stp_of c52_107).trans rfl)
theorem c52_109 : cd 52 109 = some (109, .iinc 6 1, 3, []) := by decide +kernel
theorem x52_109 {d : Nat} {a0 a1 a2 a3 a4 a5 : Value} {x : Int32} {h : AHp} : Rf d 52 109 [a0, a1, a2, a3, a4, a5, .int x] [] h = Rf d 52 112 [a0, a1, a2, a3, a4, a5, .int (x + 1)] [] h := Rf_go ((stp_of c52_109).trans rfl)
theorem c52_59 : cd 52 59 = some (59, .iload 5, 2, []) := by decide +kernel
theorem x52_59 {d : Nat} {a0 a1 a2 a3 a4 a6 : Value} {x : Int32} {h : AHp} : Rf d 52 59 [a0, a1, a2, a3, a4, .int x, a6] [] h = Rf d 52 61 [a0, a1, a2, a3, a4, .int x, a6] [.int x] h := Rf_go ((stp_of c52_59).trans rfl)
theorem c52_61 : cd 52 61 = some (61, .aload_n 0, 1, []) := by decide +kernel
theorem x52_61 {d : Nat} {a1 a2 a3 a4 a5 a6 : Value} {s0 : Int32} {x : Nat} {h : AHp} : Rf d 52 61 [.ref x, a1, a2, a3, a4, a5, a6] [.int s0] h = Rf d 52 62 [.ref x, a1, a2, a3, a4, a5, a6] [.ref x, .int s0] h := Rf_go ((stp_of c52_61).trans rfl)
theorem c52_62 : cd 52 62 = some (62, .getfield 18, 3, [(6, 3)]) := by decide +kernel
theorem x52_62 {d : Nat} {a0 a1 a2 a3 a4 a5 a6 : Value} {s0 : Nat} {s1 : Int32} {h : AHp} : Rf d 52 62 [a0, a1, a2, a3, a4, a5, a6] [.ref s0, .int s1] h = if cls (h.1 s0) = 6 ∧ oKr (h.1 s0) 3 = true then Rf d 52 65 [a0, a1, a2, a3, a4, a5, a6] [.ref (oR (h.1 s0) 3), .int s1] h else Rx d 52 62 [a0, a1, a2, a3, a4, a5, a6] [.ref s0, .int s1] h := getR c52_62
theorem c52_65 : cd 52 65 = some (65, .iload 4, 2, []) := by decide +kernel
theorem x52_65 {d : Nat} {a0 a1 a2 a3 a5 a6 : Value} {s0 : Nat} {s1 : Int32} {x : Int32} {h : AHp} : Rf d 52 65 [a0, a1, a2, a3, .int x, a5, a6] [.ref s0, .int s1] h = Rf d 52 67 [a0, a1, a2, a3, .int x, a5, a6] [.int x, .ref s0, .int s1] h := Rf_go ((stp_of c52_65).trans rfl)
theorem c52_67 : cd 52 67 = some (67, .iaload, 1, []) := by decide +kernel
theorem x52_67 {d : Nat} {a0 a1 a2 a3 a4 a5 a6 : Value} {s0 : Int32} {s1 : Nat} {s2 : Int32} {h : AHp} : Rf d 52 67 [a0, a1, a2, a3, a4, a5, a6] [.int s0, .ref s1, .int s2] h = if (aT (h.1 s1) = 0 ∨ aT (h.1 s1) = 10) ∧ inB s0 (aN (h.1 s1)) = true then Rf d 52 68 [a0, a1, a2, a3, a4, a5, a6] [.int (aF (h.1 s1) s0.toNatClampNeg), .int s2] h else Rx d 52 67 [a0, a1, a2, a3, a4, a5, a6] [.int s0, .ref s1, .int s2] h := ldI c52_67
theorem c52_68 : cd 52 68 = some (68, .iadd, 1, []) := by decide +kernel
theorem x52_68 {d : Nat} {a0 a1 a2 a3 a4 a5 a6 : Value} {s0 : Int32} {s1 : Int32} {h : AHp} : Rf d 52 68 [a0, a1, a2, a3, a4, a5, a6] [.int s0, .int s1] h = Rf d 52 69 [a0, a1, a2, a3, a4, a5, a6] [.int (s1 + s0)] h := Rf_go ((stp_of c52_68).trans rfl)
theorem c52_69 : cd 52 69 = some (69, .istore 5, 2, []) := by decide +kernel
theorem x52_69 {d : Nat} {a0 a1 a2 a3 a4 a5 a6 : Value} {s0 : Int32} {h : AHp} : Rf d 52 69 [a0, a1, a2, a3, a4, a5, a6] [.int s0] h = Rf d 52 71 [a0, a1, a2, a3, a4, .int s0, a6] [] h := Rf_go ((stp_of c52_69).trans rfl)
theorem c52_71 : cd 52 71 = some (71, .iinc 6 1, 3, []) := by decide +kernel
theorem x52_71 {d : Nat} {a0 a1 a2 a3 a4 a5 : Value} {x : Int32} {h : AHp} : Rf d 52 71 [a0, a1, a2, a3, a4, a5, .int x] [] h = Rf d 52 74 [a0, a1, a2, a3, a4, a5, .int (x + 1)] [] h := Rf_go ((stp_of c52_71).trans rfl)
theorem c52_39 : cd 52 39 = some (39, .iload 5, 2, []) := by decide +kernel
theorem x52_39 {d : Nat} {a0 a1 a2 a3 a4 a6 : Value} {x : Int32} {h : AHp} : Rf d 52 39 [a0, a1, a2, a3, a4, .int x, a6] [] h = Rf d 52 41 [a0, a1, a2, a3, a4, .int x, a6] [.int x] h := Rf_go ((stp_of c52_39).trans rfl)
theorem c52_41 : cd 52 41 = some (41, .aload_n 0, 1, []) := by decide +kernel
theorem x52_41 {d : Nat} {a1 a2 a3 a4 a5 a6 : Value} {s0 : Int32} {x : Nat} {h : AHp} : Rf d 52 41 [.ref x, a1, a2, a3, a4, a5, a6] [.int s0] h = Rf d 52 42 [.ref x, a1, a2, a3, a4, a5, a6] [.ref x, .int s0] h := Rf_go ((stp_of c52_41).trans rfl)
theorem c52_42 : cd 52 42 = some (42, .getfield 18, 3, [(6, 3)]) := by decide +kernel
theorem x52_42 {d : Nat} {a0 a1 a2 a3 a4 a5 a6 : Value} {s0 : Nat} {s1 : Int32} {h : AHp} : Rf d 52 42 [a0, a1, a2, a3, a4, a5, a6] [.ref s0, .int s1] h = if cls (h.1 s0) = 6 ∧ oKr (h.1 s0) 3 = true then Rf d 52 45 [a0, a1, a2, a3, a4, a5, a6] [.ref (oR (h.1 s0) 3), .int s1] h else Rx d 52 42 [a0, a1, a2, a3, a4, a5, a6] [.ref s0, .int s1] h := getR c52_42
theorem c52_45 : cd 52 45 = some (45, .iload_n 3, 1, []) := by decide +kernel
theorem x52_45 {d : Nat} {a0 a1 a2 a4 a5 a6 : Value} {s0 : Nat} {s1 : Int32} {x : Int32} {h : AHp} : Rf d 52 45 [a0, a1, a2, .int x, a4, a5, a6] [.ref s0, .int s1] h = Rf d 52 46 [a0, a1, a2, .int x, a4, a5, a6] [.int x, .ref s0, .int s1] h := Rf_go ((stp_of c52_45).trans rfl)
theorem c52_46 : cd 52 46 = some (46, .iaload, 1, []) := by decide +kernel
theorem x52_46 {d : Nat} {a0 a1 a2 a3 a4 a5 a6 : Value} {s0 : Int32} {s1 : Nat} {s2 : Int32} {h : AHp} : Rf d 52 46 [a0, a1, a2, a3, a4, a5, a6] [.int s0, .ref s1, .int s2] h = if (aT (h.1 s1) = 0 ∨ aT (h.1 s1) = 10) ∧ inB s0 (aN (h.1 s1)) = true then Rf d 52 47 [a0, a1, a2, a3, a4, a5, a6] [.int (aF (h.1 s1) s0.toNatClampNeg), .int s2] h else Rx d 52 46 [a0, a1, a2, a3, a4, a5, a6] [.int s0, .ref s1, .int s2] h := ldI c52_46
theorem c52_47 : cd 52 47 = some (47, .iadd, 1, []) := by decide +kernel
theorem x52_47 {d : Nat} {a0 a1 a2 a3 a4 a5 a6 : Value} {s0 : Int32} {s1 : Int32} {h : AHp} : Rf d 52 47 [a0, a1, a2, a3, a4, a5, a6] [.int s0, .int s1] h = Rf d 52 48 [a0, a1, a2, a3, a4, a5, a6] [.int (s1 + s0)] h := Rf_go ((stp_of c52_47).trans rfl)
theorem c52_48 : cd 52 48 = some (48, .istore 5, 2, []) := by decide +kernel
theorem x52_48 {d : Nat} {a0 a1 a2 a3 a4 a5 a6 : Value} {s0 : Int32} {h : AHp} : Rf d 52 48 [a0, a1, a2, a3, a4, a5, a6] [.int s0] h = Rf d 52 50 [a0, a1, a2, a3, a4, .int s0, a6] [] h := Rf_go ((stp_of c52_48).trans rfl)
theorem c52_50 : cd 52 50 = some (50, .iinc 6 1, 3, []) := by decide +kernel
theorem x52_50 {d : Nat} {a0 a1 a2 a3 a4 a5 : Value} {x : Int32} {h : AHp} : Rf d 52 50 [a0, a1, a2, a3, a4, a5, .int x] [] h = Rf d 52 53 [a0, a1, a2, a3, a4, a5, .int (x + 1)] [] h := Rf_go ((stp_of c52_50).trans rfl)
theorem c52_8 : cd 52 8 = some (8, .iconst 0, 1, []) := by decide +kernel
theorem x52_8 {d : Nat} {a0 a1 a2 a3 a4 a5 a6 : Value} {h : AHp} : Rf d 52 8 [a0, a1, a2, a3, a4, a5, a6] [] h = Rf d 52 9 [a0, a1, a2, a3, a4, a5, a6] [.int 0] h := Rf_go ((stp_of c52_8).trans rfl)
theorem c52_9 : cd 52 9 = some (9, .ireturn, 1, []) := by decide +kernel
theorem x52_9 {d : Nat} {a0 a1 a2 a3 a4 a5 a6 : Value} {s0 : Int32} {h : AHp} : Rf d 52 9 [a0, a1, a2, a3, a4, a5, a6] [.int s0] h = some (some (.int s0), h) := Rf_end (by rw [stp_of c52_9]; simp only [stpI]; rw [if_pos (show retI (mH 52).2.2.1 s0 = true from retI_int)])
-- 53: X6_middleOfAll
theorem c53_0 : cd 53 0 = some (0, .aload_n 0, 1, []) := by decide +kernel
theorem x53_0 {d : Nat} {a1 a2 a3 : Value} {x : Nat} {h : AHp} : Rf d 53 0 [.ref x, a1, a2, a3] [] h = Rf d 53 1 [.ref x, a1, a2, a3] [.ref x] h := Rf_go ((stp_of c53_0).trans rfl)
theorem c53_1 : cd 53 1 = some (1, .getfield 72, 3, [(6, 0)]) := by decide +kernel
theorem x53_1 {d : Nat} {a0 a1 a2 a3 : Value} {s0 : Nat} {h : AHp} : Rf d 53 1 [a0, a1, a2, a3] [.ref s0] h = if cls (h.1 s0) = 6 ∧ oKi (h.1 s0) 0 = true then Rf d 53 4 [a0, a1, a2, a3] [.int (oN (h.1 s0) 0)] h else Rx d 53 1 [a0, a1, a2, a3] [.ref s0] h := getI c53_1
theorem c53_4 : cd 53 4 = some (4, .ifCond .ne 5, 3, [(9, 0)]) := by decide +kernel
theorem x53_4 {d : Nat} {a0 a1 a2 a3 : Value} {s0 : Int32} {h : AHp} : Rf d 53 4 [a0, a1, a2, a3] [.int s0] h = if s0 = 0 then Rf d 53 7 [a0, a1, a2, a3] [] h else Rf d 53 9 [a0, a1, a2, a3] [] h := Rf_brn ((stp_of c53_4).trans rfl)
theorem c53_9 : cd 53 9 = some (9, .sipush 999, 3, []) := by decide +kernel
theorem x53_9 {d : Nat} {a0 a1 a2 a3 : Value} {h : AHp} : Rf d 53 9 [a0, a1, a2, a3] [] h = Rf d 53 12 [a0, a1, a2, a3] [.int 999] h := Rf_go ((stp_of c53_9).trans rfl)
theorem c53_12 : cd 53 12 = some (12, .istore_n 1, 1, []) := by decide +kernel
theorem x53_12 {d : Nat} {a0 a1 a2 a3 : Value} {s0 : Int32} {h : AHp} : Rf d 53 12 [a0, a1, a2, a3] [.int s0] h = Rf d 53 13 [a0, .int s0, a2, a3] [] h := Rf_go ((stp_of c53_12).trans rfl)
theorem c53_13 : cd 53 13 = some (13, .iconst 0, 1, []) := by decide +kernel
theorem x53_13 {d : Nat} {a0 a1 a2 a3 : Value} {h : AHp} : Rf d 53 13 [a0, a1, a2, a3] [] h = Rf d 53 14 [a0, a1, a2, a3] [.int 0] h := Rf_go ((stp_of c53_13).trans rfl)
theorem c53_14 : cd 53 14 = some (14, .istore_n 2, 1, []) := by decide +kernel
theorem x53_14 {d : Nat} {a0 a1 a2 a3 : Value} {s0 : Int32} {h : AHp} : Rf d 53 14 [a0, a1, a2, a3] [.int s0] h = Rf d 53 15 [a0, a1, .int s0, a3] [] h := Rf_go ((stp_of c53_14).trans rfl)
theorem c53_15 : cd 53 15 = some (15, .iconst 0, 1, []) := by decide +kernel
theorem x53_15 {d : Nat} {a0 a1 a2 a3 : Value} {h : AHp} : Rf d 53 15 [a0, a1, a2, a3] [] h = Rf d 53 16 [a0, a1, a2, a3] [.int 0] h := Rf_go ((stp_of c53_15).trans rfl)
theorem c53_16 : cd 53 16 = some (16, .istore_n 3, 1, []) := by decide +kernel
theorem x53_16 {d : Nat} {a0 a1 a2 a3 : Value} {s0 : Int32} {h : AHp} : Rf d 53 16 [a0, a1, a2, a3] [.int s0] h = Rf d 53 17 [a0, a1, a2, .int s0] [] h := Rf_go ((stp_of c53_16).trans rfl)
theorem c53_17 : cd 53 17 = some (17, .iload_n 3, 1, []) := by decide +kernel
theorem x53_17 {d : Nat} {a0 a1 a2 : Value} {x : Int32} {h : AHp} : Rf d 53 17 [a0, a1, a2, .int x] [] h = Rf d 53 18 [a0, a1, a2, .int x] [.int x] h := Rf_go ((stp_of c53_17).trans rfl)
theorem c53_18 : cd 53 18 = some (18, .aload_n 0, 1, []) := by decide +kernel
theorem x53_18 {d : Nat} {a1 a2 a3 : Value} {s0 : Int32} {x : Nat} {h : AHp} : Rf d 53 18 [.ref x, a1, a2, a3] [.int s0] h = Rf d 53 19 [.ref x, a1, a2, a3] [.ref x, .int s0] h := Rf_go ((stp_of c53_18).trans rfl)
theorem c53_19 : cd 53 19 = some (19, .getfield 72, 3, [(6, 0)]) := by decide +kernel
theorem x53_19 {d : Nat} {a0 a1 a2 a3 : Value} {s0 : Nat} {s1 : Int32} {h : AHp} : Rf d 53 19 [a0, a1, a2, a3] [.ref s0, .int s1] h = if cls (h.1 s0) = 6 ∧ oKi (h.1 s0) 0 = true then Rf d 53 22 [a0, a1, a2, a3] [.int (oN (h.1 s0) 0), .int s1] h else Rx d 53 19 [a0, a1, a2, a3] [.ref s0, .int s1] h := getI c53_19
theorem c53_22 : cd 53 22 = some (22, .if_icmp .ge 31, 3, [(53, 0)]) := by decide +kernel
theorem x53_22 {d : Nat} {a0 a1 a2 a3 : Value} {s0 : Int32} {s1 : Int32} {h : AHp} : Rf d 53 22 [a0, a1, a2, a3] [.int s0, .int s1] h = if s1 < s0 then Rf d 53 25 [a0, a1, a2, a3] [] h else Rf d 53 53 [a0, a1, a2, a3] [] h := Rf_brn ((stp_of c53_22).trans rfl)
theorem c53_53 : cd 53 53 = some (53, .iload_n 1, 1, []) := by decide +kernel
theorem x53_53 {d : Nat} {a0 a2 a3 : Value} {x : Int32} {h : AHp} : Rf d 53 53 [a0, .int x, a2, a3] [] h = Rf d 53 54 [a0, .int x, a2, a3] [.int x] h := Rf_go ((stp_of c53_53).trans rfl)
theorem c53_54 : cd 53 54 = some (54, .iload_n 2, 1, []) := by decide +kernel
theorem x53_54 {d : Nat} {a0 a1 a3 : Value} {s0 : Int32} {x : Int32} {h : AHp} : Rf d 53 54 [a0, a1, .int x, a3] [.int s0] h = Rf d 53 55 [a0, a1, .int x, a3] [.int x, .int s0] h := Rf_go ((stp_of c53_54).trans rfl)
theorem c53_55 : cd 53 55 = some (55, .iadd, 1, []) := by decide +kernel
theorem x53_55 {d : Nat} {a0 a1 a2 a3 : Value} {s0 : Int32} {s1 : Int32} {h : AHp} : Rf d 53 55 [a0, a1, a2, a3] [.int s0, .int s1] h = Rf d 53 56 [a0, a1, a2, a3] [.int (s1 + s0)] h := Rf_go ((stp_of c53_55).trans rfl)
theorem c53_56 : cd 53 56 = some (56, .iconst 2, 1, []) := by decide +kernel
theorem x53_56 {d : Nat} {a0 a1 a2 a3 : Value} {s0 : Int32} {h : AHp} : Rf d 53 56 [a0, a1, a2, a3] [.int s0] h = Rf d 53 57 [a0, a1, a2, a3] [.int 2, .int s0] h := Rf_go ((stp_of c53_56).trans rfl)
theorem c53_57 : cd 53 57 = some (57, .idiv, 1, []) := by decide +kernel
theorem x53_57 {d : Nat} {a0 a1 a2 a3 : Value} {s0 : Int32} {s1 : Int32} {h : AHp} : Rf d 53 57 [a0, a1, a2, a3] [.int s0, .int s1] h = if ¬ s0 = 0 then Rf d 53 58 [a0, a1, a2, a3] [.int (s1 / s0)] h else Rx d 53 57 [a0, a1, a2, a3] [.int s0, .int s1] h := divE c53_57 (fun _ _ _ => rfl)
theorem c53_58 : cd 53 58 = some (58, .ireturn, 1, []) := by decide +kernel
theorem x53_58 {d : Nat} {a0 a1 a2 a3 : Value} {s0 : Int32} {h : AHp} : Rf d 53 58 [a0, a1, a2, a3] [.int s0] h = some (some (.int s0), h) := Rf_end (by rw [stp_of c53_58]; simp only [stpI]; rw [if_pos (show retI (mH 53).2.2.1 s0 = true from retI_int)])
theorem c53_25 : cd 53 25 = some (25, .iload_n 1, 1, []) := by decide +kernel
theorem x53_25 {d : Nat} {a0 a2 a3 : Value} {x : Int32} {h : AHp} : Rf d 53 25 [a0, .int x, a2, a3] [] h = Rf d 53 26 [a0, .int x, a2, a3] [.int x] h := Rf_go ((stp_of c53_25).trans rfl)
theorem c53_26 : cd 53 26 = some (26, .aload_n 0, 1, []) := by decide +kernel
theorem x53_26 {d : Nat} {a1 a2 a3 : Value} {s0 : Int32} {x : Nat} {h : AHp} : Rf d 53 26 [.ref x, a1, a2, a3] [.int s0] h = Rf d 53 27 [.ref x, a1, a2, a3] [.ref x, .int s0] h := Rf_go ((stp_of c53_26).trans rfl)
theorem c53_27 : cd 53 27 = some (27, .getfield 18, 3, [(6, 3)]) := by decide +kernel
theorem x53_27 {d : Nat} {a0 a1 a2 a3 : Value} {s0 : Nat} {s1 : Int32} {h : AHp} : Rf d 53 27 [a0, a1, a2, a3] [.ref s0, .int s1] h = if cls (h.1 s0) = 6 ∧ oKr (h.1 s0) 3 = true then Rf d 53 30 [a0, a1, a2, a3] [.ref (oR (h.1 s0) 3), .int s1] h else Rx d 53 27 [a0, a1, a2, a3] [.ref s0, .int s1] h := getR c53_27
theorem c53_30 : cd 53 30 = some (30, .iload_n 3, 1, []) := by decide +kernel
theorem x53_30 {d : Nat} {a0 a1 a2 : Value} {s0 : Nat} {s1 : Int32} {x : Int32} {h : AHp} : Rf d 53 30 [a0, a1, a2, .int x] [.ref s0, .int s1] h = Rf d 53 31 [a0, a1, a2, .int x] [.int x, .ref s0, .int s1] h := Rf_go ((stp_of c53_30).trans rfl)
theorem c53_31 : cd 53 31 = some (31, .iaload, 1, []) := by decide +kernel
theorem x53_31 {d : Nat} {a0 a1 a2 a3 : Value} {s0 : Int32} {s1 : Nat} {s2 : Int32} {h : AHp} : Rf d 53 31 [a0, a1, a2, a3] [.int s0, .ref s1, .int s2] h = if (aT (h.1 s1) = 0 ∨ aT (h.1 s1) = 10) ∧ inB s0 (aN (h.1 s1)) = true then Rf d 53 32 [a0, a1, a2, a3] [.int (aF (h.1 s1) s0.toNatClampNeg), .int s2] h else Rx d 53 31 [a0, a1, a2, a3] [.int s0, .ref s1, .int s2] h := ldI c53_31
theorem c53_32 : cd 53 32 = some (32, .invokestatic 120, 3, [(0, 202)]) := by decide +kernel
theorem xc53_32 {d : Nat} {a0 a1 a2 a3 : Value} {s0 : Int32} {s1 : Int32} {h : AHp} {h1 : AHp} {v : Int32} (hq : Rf d 202 0 [.int s1, .int s0] [] h = some (some (.int v), h1)) : Rf (d + 1) 53 32 [a0, a1, a2, a3] [.int s0, .int s1] h = Rf (d + 1) 53 35 [a0, a1, a2, a3] [.int v] h1 := clS (as := [.int s1, .int s0]) c53_32 rfl rfl (by simp [isV]) hq
theorem c53_35 : cd 53 35 = some (35, .istore_n 1, 1, []) := by decide +kernel
theorem x53_35 {d : Nat} {a0 a1 a2 a3 : Value} {s0 : Int32} {h : AHp} : Rf d 53 35 [a0, a1, a2, a3] [.int s0] h = Rf d 53 36 [a0, .int s0, a2, a3] [] h := Rf_go ((stp_of c53_35).trans rfl)
theorem c53_36 : cd 53 36 = some (36, .iload_n 2, 1, []) := by decide +kernel
theorem x53_36 {d : Nat} {a0 a1 a3 : Value} {x : Int32} {h : AHp} : Rf d 53 36 [a0, a1, .int x, a3] [] h = Rf d 53 37 [a0, a1, .int x, a3] [.int x] h := Rf_go ((stp_of c53_36).trans rfl)
theorem c53_37 : cd 53 37 = some (37, .aload_n 0, 1, []) := by decide +kernel
theorem x53_37 {d : Nat} {a1 a2 a3 : Value} {s0 : Int32} {x : Nat} {h : AHp} : Rf d 53 37 [.ref x, a1, a2, a3] [.int s0] h = Rf d 53 38 [.ref x, a1, a2, a3] [.ref x, .int s0] h := Rf_go ((stp_of c53_37).trans rfl)
theorem c53_38 : cd 53 38 = some (38, .getfield 18, 3, [(6, 3)]) := by decide +kernel
theorem x53_38 {d : Nat} {a0 a1 a2 a3 : Value} {s0 : Nat} {s1 : Int32} {h : AHp} : Rf d 53 38 [a0, a1, a2, a3] [.ref s0, .int s1] h = if cls (h.1 s0) = 6 ∧ oKr (h.1 s0) 3 = true then Rf d 53 41 [a0, a1, a2, a3] [.ref (oR (h.1 s0) 3), .int s1] h else Rx d 53 38 [a0, a1, a2, a3] [.ref s0, .int s1] h := getR c53_38
theorem c53_41 : cd 53 41 = some (41, .iload_n 3, 1, []) := by decide +kernel
theorem x53_41 {d : Nat} {a0 a1 a2 : Value} {s0 : Nat} {s1 : Int32} {x : Int32} {h : AHp} : Rf d 53 41 [a0, a1, a2, .int x] [.ref s0, .int s1] h = Rf d 53 42 [a0, a1, a2, .int x] [.int x, .ref s0, .int s1] h := Rf_go ((stp_of c53_41).trans rfl)
theorem c53_42 : cd 53 42 = some (42, .iaload, 1, []) := by decide +kernel
theorem x53_42 {d : Nat} {a0 a1 a2 a3 : Value} {s0 : Int32} {s1 : Nat} {s2 : Int32} {h : AHp} : Rf d 53 42 [a0, a1, a2, a3] [.int s0, .ref s1, .int s2] h = if (aT (h.1 s1) = 0 ∨ aT (h.1 s1) = 10) ∧ inB s0 (aN (h.1 s1)) = true then Rf d 53 43 [a0, a1, a2, a3] [.int (aF (h.1 s1) s0.toNatClampNeg), .int s2] h else Rx d 53 42 [a0, a1, a2, a3] [.int s0, .ref s1, .int s2] h := ldI c53_42
theorem c53_43 : cd 53 43 = some (43, .invokestatic 126, 3, [(0, 201)]) := by decide +kernel
theorem xc53_43 {d : Nat} {a0 a1 a2 a3 : Value} {s0 : Int32} {s1 : Int32} {h : AHp} {h1 : AHp} {v : Int32} (hq : Rf d 201 0 [.int s1, .int s0] [] h = some (some (.int v), h1)) : Rf (d + 1) 53 43 [a0, a1, a2, a3] [.int s0, .int s1] h = Rf (d + 1) 53 46 [a0, a1, a2, a3] [.int v] h1 := clS (as := [.int s1, .int s0]) c53_43 rfl rfl (by simp [isV]) hq
theorem c53_46 : cd 53 46 = some (46, .istore_n 2, 1, []) := by decide +kernel
theorem x53_46 {d : Nat} {a0 a1 a2 a3 : Value} {s0 : Int32} {h : AHp} : Rf d 53 46 [a0, a1, a2, a3] [.int s0] h = Rf d 53 47 [a0, a1, .int s0, a3] [] h := Rf_go ((stp_of c53_46).trans rfl)
theorem c53_47 : cd 53 47 = some (47, .iinc 3 1, 3, []) := by decide +kernel
theorem x53_47 {d : Nat} {a0 a1 a2 : Value} {x : Int32} {h : AHp} : Rf d 53 47 [a0, a1, a2, .int x] [] h = Rf d 53 50 [a0, a1, a2, .int (x + 1)] [] h := Rf_go ((stp_of c53_47).trans rfl)
theorem c53_50 : cd 53 50 = some (50, .goto (-33), 3, [(17, 0)]) := by decide +kernel
theorem x53_50 {d : Nat} {a0 a1 a2 a3 : Value} {h : AHp} : Rf d 53 50 [a0, a1, a2, a3] [] h = Rf d 53 17 [a0, a1, a2, a3] [] h := Rf_go ((stp_of c53_50).trans rfl)
theorem c53_7 : cd 53 7 = some (7, .iconst 0, 1, []) := by decide +kernel
theorem x53_7 {d : Nat} {a0 a1 a2 a3 : Value} {h : AHp} : Rf d 53 7 [a0, a1, a2, a3] [] h = Rf d 53 8 [a0, a1, a2, a3] [.int 0] h := Rf_go ((stp_of c53_7).trans rfl)
theorem c53_8 : cd 53 8 = some (8, .ireturn, 1, []) := by decide +kernel
theorem x53_8 {d : Nat} {a0 a1 a2 a3 : Value} {s0 : Int32} {h : AHp} : Rf d 53 8 [a0, a1, a2, a3] [.int s0] h = some (some (.int s0), h) := Rf_end (by rw [stp_of c53_8]; simp only [stpI]; rw [if_pos (show retI (mH 53).2.2.1 s0 = true from retI_int)])
-- 54: X6_beliefOf
theorem c54_0 : cd 54 0 = some (0, .aload_n 0, 1, []) := by decide +kernel
theorem x54_0 {d : Nat} {a1 : Value} {x : Nat} {h : AHp} : Rf d 54 0 [.ref x, a1] [] h = Rf d 54 1 [.ref x, a1] [.ref x] h := Rf_go ((stp_of c54_0).trans rfl)
theorem c54_1 : cd 54 1 = some (1, .getfield 80, 3, [(6, 8)]) := by decide +kernel
theorem x54_1 {d : Nat} {a0 a1 : Value} {s0 : Nat} {h : AHp} : Rf d 54 1 [a0, a1] [.ref s0] h = if cls (h.1 s0) = 6 ∧ oKi (h.1 s0) 8 = true then Rf d 54 4 [a0, a1] [.int (oN (h.1 s0) 8)] h else Rx d 54 1 [a0, a1] [.ref s0] h := getI c54_1
theorem c54_4 : cd 54 4 = some (4, .iconst 2, 1, []) := by decide +kernel
theorem x54_4 {d : Nat} {a0 a1 : Value} {s0 : Int32} {h : AHp} : Rf d 54 4 [a0, a1] [.int s0] h = Rf d 54 5 [a0, a1] [.int 2, .int s0] h := Rf_go ((stp_of c54_4).trans rfl)
theorem c54_5 : cd 54 5 = some (5, .if_icmp .eq 11, 3, [(16, 0)]) := by decide +kernel
theorem x54_5 {d : Nat} {a0 a1 : Value} {s0 : Int32} {s1 : Int32} {h : AHp} : Rf d 54 5 [a0, a1] [.int s0, .int s1] h = if s1 = s0 then Rf d 54 16 [a0, a1] [] h else Rf d 54 8 [a0, a1] [] h := Rf_brd ((stp_of c54_5).trans rfl)
theorem c54_16 : cd 54 16 = some (16, .aload_n 0, 1, []) := by decide +kernel
theorem x54_16 {d : Nat} {a1 : Value} {x : Nat} {h : AHp} : Rf d 54 16 [.ref x, a1] [] h = Rf d 54 17 [.ref x, a1] [.ref x] h := Rf_go ((stp_of c54_16).trans rfl)
theorem c54_17 : cd 54 17 = some (17, .invokevirtual 129, 3, [(6, 51)]) := by decide +kernel
theorem xc54_17 {d : Nat} {a0 a1 : Value} {s0 : Nat} {h : AHp} {h1 : AHp} {v : Int32} (hr : cls (h.1 s0) = 6) (hq : Rf d 51 0 [.ref s0] [] h = some (some (.int v), h1)) : Rf (d + 1) 54 17 [a0, a1] [.ref s0] h = Rf (d + 1) 54 20 [a0, a1] [.int v] h1 := clV (c := 51) (as := []) c54_17 rfl (by simp [isV]) (by rw [hr]; rfl) hq
theorem c54_20 : cd 54 20 = some (20, .ireturn, 1, []) := by decide +kernel
theorem x54_20 {d : Nat} {a0 a1 : Value} {s0 : Int32} {h : AHp} : Rf d 54 20 [a0, a1] [.int s0] h = some (some (.int s0), h) := Rf_end (by rw [stp_of c54_20]; simp only [stpI]; rw [if_pos (show retI (mH 54).2.2.1 s0 = true from retI_int)])
theorem c54_8 : cd 54 8 = some (8, .aload_n 0, 1, []) := by decide +kernel
theorem x54_8 {d : Nat} {a1 : Value} {x : Nat} {h : AHp} : Rf d 54 8 [.ref x, a1] [] h = Rf d 54 9 [.ref x, a1] [.ref x] h := Rf_go ((stp_of c54_8).trans rfl)
theorem c54_9 : cd 54 9 = some (9, .getfield 80, 3, [(6, 8)]) := by decide +kernel
theorem x54_9 {d : Nat} {a0 a1 : Value} {s0 : Nat} {h : AHp} : Rf d 54 9 [a0, a1] [.ref s0] h = if cls (h.1 s0) = 6 ∧ oKi (h.1 s0) 8 = true then Rf d 54 12 [a0, a1] [.int (oN (h.1 s0) 8)] h else Rx d 54 9 [a0, a1] [.ref s0] h := getI c54_9
theorem c54_12 : cd 54 12 = some (12, .iconst 3, 1, []) := by decide +kernel
theorem x54_12 {d : Nat} {a0 a1 : Value} {s0 : Int32} {h : AHp} : Rf d 54 12 [a0, a1] [.int s0] h = Rf d 54 13 [a0, a1] [.int 3, .int s0] h := Rf_go ((stp_of c54_12).trans rfl)
theorem c54_13 : cd 54 13 = some (13, .if_icmp .ne 8, 3, [(21, 0)]) := by decide +kernel
theorem x54_13 {d : Nat} {a0 a1 : Value} {s0 : Int32} {s1 : Int32} {h : AHp} : Rf d 54 13 [a0, a1] [.int s0, .int s1] h = if s1 = s0 then Rf d 54 16 [a0, a1] [] h else Rf d 54 21 [a0, a1] [] h := Rf_brn ((stp_of c54_13).trans rfl)
theorem c54_21 : cd 54 21 = some (21, .aload_n 0, 1, []) := by decide +kernel
theorem x54_21 {d : Nat} {a1 : Value} {x : Nat} {h : AHp} : Rf d 54 21 [.ref x, a1] [] h = Rf d 54 22 [.ref x, a1] [.ref x] h := Rf_go ((stp_of c54_21).trans rfl)
theorem c54_22 : cd 54 22 = some (22, .getfield 80, 3, [(6, 8)]) := by decide +kernel
theorem x54_22 {d : Nat} {a0 a1 : Value} {s0 : Nat} {h : AHp} : Rf d 54 22 [a0, a1] [.ref s0] h = if cls (h.1 s0) = 6 ∧ oKi (h.1 s0) 8 = true then Rf d 54 25 [a0, a1] [.int (oN (h.1 s0) 8)] h else Rx d 54 22 [a0, a1] [.ref s0] h := getI c54_22
theorem c54_25 : cd 54 25 = some (25, .iconst 1, 1, []) := by decide +kernel
theorem x54_25 {d : Nat} {a0 a1 : Value} {s0 : Int32} {h : AHp} : Rf d 54 25 [a0, a1] [.int s0] h = Rf d 54 26 [a0, a1] [.int 1, .int s0] h := Rf_go ((stp_of c54_25).trans rfl)
theorem c54_26 : cd 54 26 = some (26, .if_icmp .ne 20, 3, [(46, 0)]) := by decide +kernel
theorem x54_26 {d : Nat} {a0 a1 : Value} {s0 : Int32} {s1 : Int32} {h : AHp} : Rf d 54 26 [a0, a1] [.int s0, .int s1] h = if s1 = s0 then Rf d 54 29 [a0, a1] [] h else Rf d 54 46 [a0, a1] [] h := Rf_brn ((stp_of c54_26).trans rfl)
theorem c54_46 : cd 54 46 = some (46, .aload_n 0, 1, []) := by decide +kernel
theorem x54_46 {d : Nat} {a1 : Value} {x : Nat} {h : AHp} : Rf d 54 46 [.ref x, a1] [] h = Rf d 54 47 [.ref x, a1] [.ref x] h := Rf_go ((stp_of c54_46).trans rfl)
theorem c54_47 : cd 54 47 = some (47, .getfield 32, 3, [(6, 7)]) := by decide +kernel
theorem x54_47 {d : Nat} {a0 a1 : Value} {s0 : Nat} {h : AHp} : Rf d 54 47 [a0, a1] [.ref s0] h = if cls (h.1 s0) = 6 ∧ oKr (h.1 s0) 7 = true then Rf d 54 50 [a0, a1] [.ref (oR (h.1 s0) 7)] h else Rx d 54 47 [a0, a1] [.ref s0] h := getR c54_47
theorem c54_50 : cd 54 50 = some (50, .iload_n 1, 1, []) := by decide +kernel
theorem x54_50 {d : Nat} {a0 : Value} {s0 : Nat} {x : Int32} {h : AHp} : Rf d 54 50 [a0, .int x] [.ref s0] h = Rf d 54 51 [a0, .int x] [.int x, .ref s0] h := Rf_go ((stp_of c54_50).trans rfl)
theorem c54_51 : cd 54 51 = some (51, .aaload, 1, []) := by decide +kernel
theorem x54_51 {d : Nat} {a0 a1 : Value} {s0 : Int32} {s1 : Nat} {h : AHp} : Rf d 54 51 [a0, a1] [.int s0, .ref s1] h = if aTq (h.1 s1) = 3 ∧ inB s0 (aN (h.1 s1)) = true ∧ (aG (h.1 s1) s0.toNatClampNeg).isSome = true then Rf d 54 52 [a0, a1] [.ref ((aG (h.1 s1) s0.toNatClampNeg).getD 0)] h else Rx d 54 51 [a0, a1] [.int s0, .ref s1] h := ldQ c54_51
theorem c54_52 : cd 54 52 = some (52, .aload_n 0, 1, []) := by decide +kernel
theorem x54_52 {d : Nat} {a1 : Value} {s0 : Nat} {x : Nat} {h : AHp} : Rf d 54 52 [.ref x, a1] [.ref s0] h = Rf d 54 53 [.ref x, a1] [.ref x, .ref s0] h := Rf_go ((stp_of c54_52).trans rfl)
theorem c54_53 : cd 54 53 = some (53, .invokevirtual 137, 3, [(0, 2), (1, 6), (2, 10), (4, 31), (5, 37), (8, 86), (9, 90), (201, 4), (202, 4)]) := by decide +kernel
theorem xc54_53_0 {d : Nat} {a0 a1 : Value} {s0 : Nat} {s1 : Nat} {h : AHp} {h1 : AHp} {v : Int32} (hr : cls (h.1 s1) = 0) (hq : Rf d 2 0 [.ref s1, .ref s0] [] h = some (some (.int v), h1)) : Rf (d + 1) 54 53 [a0, a1] [.ref s0, .ref s1] h = Rf (d + 1) 54 56 [a0, a1] [.int v] h1 := clV (c := 2) (as := [.ref s0]) c54_53 rfl (by simp [isV]) (by rw [hr]; rfl) hq
theorem xc54_53_1 {d : Nat} {a0 a1 : Value} {s0 : Nat} {s1 : Nat} {h : AHp} {h1 : AHp} {v : Int32} (hr : cls (h.1 s1) = 1) (hq : Rf d 6 0 [.ref s1, .ref s0] [] h = some (some (.int v), h1)) : Rf (d + 1) 54 53 [a0, a1] [.ref s0, .ref s1] h = Rf (d + 1) 54 56 [a0, a1] [.int v] h1 := clV (c := 6) (as := [.ref s0]) c54_53 rfl (by simp [isV]) (by rw [hr]; rfl) hq
theorem xc54_53_2 {d : Nat} {a0 a1 : Value} {s0 : Nat} {s1 : Nat} {h : AHp} {h1 : AHp} {v : Int32} (hr : cls (h.1 s1) = 2) (hq : Rf d 10 0 [.ref s1, .ref s0] [] h = some (some (.int v), h1)) : Rf (d + 1) 54 53 [a0, a1] [.ref s0, .ref s1] h = Rf (d + 1) 54 56 [a0, a1] [.int v] h1 := clV (c := 10) (as := [.ref s0]) c54_53 rfl (by simp [isV]) (by rw [hr]; rfl) hq
theorem xc54_53_4 {d : Nat} {a0 a1 : Value} {s0 : Nat} {s1 : Nat} {h : AHp} {h1 : AHp} {v : Int32} (hr : cls (h.1 s1) = 4) (hq : Rf d 31 0 [.ref s1, .ref s0] [] h = some (some (.int v), h1)) : Rf (d + 1) 54 53 [a0, a1] [.ref s0, .ref s1] h = Rf (d + 1) 54 56 [a0, a1] [.int v] h1 := clV (c := 31) (as := [.ref s0]) c54_53 rfl (by simp [isV]) (by rw [hr]; rfl) hq
theorem xc54_53_5 {d : Nat} {a0 a1 : Value} {s0 : Nat} {s1 : Nat} {h : AHp} {h1 : AHp} {v : Int32} (hr : cls (h.1 s1) = 5) (hq : Rf d 37 0 [.ref s1, .ref s0] [] h = some (some (.int v), h1)) : Rf (d + 1) 54 53 [a0, a1] [.ref s0, .ref s1] h = Rf (d + 1) 54 56 [a0, a1] [.int v] h1 := clV (c := 37) (as := [.ref s0]) c54_53 rfl (by simp [isV]) (by rw [hr]; rfl) hq
theorem xc54_53_8 {d : Nat} {a0 a1 : Value} {s0 : Nat} {s1 : Nat} {h : AHp} {h1 : AHp} {v : Int32} (hr : cls (h.1 s1) = 8) (hq : Rf d 86 0 [.ref s1, .ref s0] [] h = some (some (.int v), h1)) : Rf (d + 1) 54 53 [a0, a1] [.ref s0, .ref s1] h = Rf (d + 1) 54 56 [a0, a1] [.int v] h1 := clV (c := 86) (as := [.ref s0]) c54_53 rfl (by simp [isV]) (by rw [hr]; rfl) hq
theorem xc54_53_9 {d : Nat} {a0 a1 : Value} {s0 : Nat} {s1 : Nat} {h : AHp} {h1 : AHp} {v : Int32} (hr : cls (h.1 s1) = 9) (hq : Rf d 90 0 [.ref s1, .ref s0] [] h = some (some (.int v), h1)) : Rf (d + 1) 54 53 [a0, a1] [.ref s0, .ref s1] h = Rf (d + 1) 54 56 [a0, a1] [.int v] h1 := clV (c := 90) (as := [.ref s0]) c54_53 rfl (by simp [isV]) (by rw [hr]; rfl) hq
theorem c54_56 : cd 54 56 = some (56, .ireturn, 1, []) := by decide +kernel
theorem x54_56 {d : Nat} {a0 a1 : Value} {s0 : Int32} {h : AHp} : Rf d 54 56 [a0, a1] [.int s0] h = some (some (.int s0), h) := Rf_end (by rw [stp_of c54_56]; simp only [stpI]; rw [if_pos (show retI (mH 54).2.2.1 s0 = true from retI_int)])
theorem c54_29 : cd 54 29 = some (29, .aload_n 0, 1, []) := by decide +kernel
theorem x54_29 {d : Nat} {a1 : Value} {x : Nat} {h : AHp} : Rf d 54 29 [.ref x, a1] [] h = Rf d 54 30 [.ref x, a1] [.ref x] h := Rf_go ((stp_of c54_29).trans rfl)
theorem c54_30 : cd 54 30 = some (30, .getfield 32, 3, [(6, 7)]) := by decide +kernel
theorem x54_30 {d : Nat} {a0 a1 : Value} {s0 : Nat} {h : AHp} : Rf d 54 30 [a0, a1] [.ref s0] h = if cls (h.1 s0) = 6 ∧ oKr (h.1 s0) 7 = true then Rf d 54 33 [a0, a1] [.ref (oR (h.1 s0) 7)] h else Rx d 54 30 [a0, a1] [.ref s0] h := getR c54_30
theorem c54_33 : cd 54 33 = some (33, .iload_n 1, 1, []) := by decide +kernel
theorem x54_33 {d : Nat} {a0 : Value} {s0 : Nat} {x : Int32} {h : AHp} : Rf d 54 33 [a0, .int x] [.ref s0] h = Rf d 54 34 [a0, .int x] [.int x, .ref s0] h := Rf_go ((stp_of c54_33).trans rfl)
theorem c54_34 : cd 54 34 = some (34, .aaload, 1, []) := by decide +kernel
theorem x54_34 {d : Nat} {a0 a1 : Value} {s0 : Int32} {s1 : Nat} {h : AHp} : Rf d 54 34 [a0, a1] [.int s0, .ref s1] h = if aTq (h.1 s1) = 3 ∧ inB s0 (aN (h.1 s1)) = true ∧ (aG (h.1 s1) s0.toNatClampNeg).isSome = true then Rf d 54 35 [a0, a1] [.ref ((aG (h.1 s1) s0.toNatClampNeg).getD 0)] h else Rx d 54 34 [a0, a1] [.int s0, .ref s1] h := ldQ c54_34
theorem c54_35 : cd 54 35 = some (35, .instanceof 132, 3, [(0, 0), (1, 0), (2, 0), (4, 0), (5, 1), (8, 1), (9, 0), (200, 5)]) := by decide +kernel
theorem x54_35 {d : Nat} {a0 a1 : Value} {s0 : Nat} {h : AHp} : Rf d 54 35 [a0, a1] [.ref s0] h = if (fIx [(0, 0), (1, 0), (2, 0), (4, 0), (5, 1), (8, 1), (9, 0), (200, 5)] (cls (h.1 s0))).isSome = true then Rf d 54 38 [a0, a1] [.int (nI ((fIx [(0, 0), (1, 0), (2, 0), (4, 0), (5, 1), (8, 1), (9, 0), (200, 5)] (cls (h.1 s0))).getD 0))] h else Rx d 54 35 [a0, a1] [.ref s0] h := insI (b := 0) c54_35
theorem c54_38 : cd 54 38 = some (38, .ifCond .ne 8, 3, [(46, 0)]) := by decide +kernel
theorem x54_38 {d : Nat} {a0 a1 : Value} {s0 : Int32} {h : AHp} : Rf d 54 38 [a0, a1] [.int s0] h = if s0 = 0 then Rf d 54 41 [a0, a1] [] h else Rf d 54 46 [a0, a1] [] h := Rf_brn ((stp_of c54_38).trans rfl)
theorem c54_41 : cd 54 41 = some (41, .aload_n 0, 1, []) := by decide +kernel
theorem x54_41 {d : Nat} {a1 : Value} {x : Nat} {h : AHp} : Rf d 54 41 [.ref x, a1] [] h = Rf d 54 42 [.ref x, a1] [.ref x] h := Rf_go ((stp_of c54_41).trans rfl)
theorem c54_42 : cd 54 42 = some (42, .invokevirtual 134, 3, [(6, 53)]) := by decide +kernel
theorem xc54_42 {d : Nat} {a0 a1 : Value} {s0 : Nat} {h : AHp} {h1 : AHp} {v : Int32} (hr : cls (h.1 s0) = 6) (hq : Rf d 53 0 [.ref s0, noV, noV, noV] [] h = some (some (.int v), h1)) : Rf (d + 1) 54 42 [a0, a1] [.ref s0] h = Rf (d + 1) 54 45 [a0, a1] [.int v] h1 := clV (c := 53) (as := []) c54_42 rfl (by simp [isV]) (by rw [hr]; rfl) hq
theorem c54_45 : cd 54 45 = some (45, .ireturn, 1, []) := by decide +kernel
theorem x54_45 {d : Nat} {a0 a1 : Value} {s0 : Int32} {h : AHp} : Rf d 54 45 [a0, a1] [.int s0] h = some (some (.int s0), h) := Rf_end (by rw [stp_of c54_45]; simp only [stpI]; rw [if_pos (show retI (mH 54).2.2.1 s0 = true from retI_int)])
-- 55: X6_gladBy
theorem c55_0 : cd 55 0 = some (0, .aload_n 0, 1, []) := by decide +kernel
theorem x55_0 {d : Nat} {a1 a2 a3 : Value} {x : Nat} {h : AHp} : Rf d 55 0 [.ref x, a1, a2, a3] [] h = Rf d 55 1 [.ref x, a1, a2, a3] [.ref x] h := Rf_go ((stp_of c55_0).trans rfl)
theorem c55_1 : cd 55 1 = some (1, .getfield 18, 3, [(6, 3)]) := by decide +kernel
theorem x55_1 {d : Nat} {a0 a1 a2 a3 : Value} {s0 : Nat} {h : AHp} : Rf d 55 1 [a0, a1, a2, a3] [.ref s0] h = if cls (h.1 s0) = 6 ∧ oKr (h.1 s0) 3 = true then Rf d 55 4 [a0, a1, a2, a3] [.ref (oR (h.1 s0) 3)] h else Rx d 55 1 [a0, a1, a2, a3] [.ref s0] h := getR c55_1
theorem c55_4 : cd 55 4 = some (4, .iload_n 1, 1, []) := by decide +kernel
theorem x55_4 {d : Nat} {a0 a2 a3 : Value} {s0 : Nat} {x : Int32} {h : AHp} : Rf d 55 4 [a0, .int x, a2, a3] [.ref s0] h = Rf d 55 5 [a0, .int x, a2, a3] [.int x, .ref s0] h := Rf_go ((stp_of c55_4).trans rfl)
theorem c55_5 : cd 55 5 = some (5, .iaload, 1, []) := by decide +kernel
theorem x55_5 {d : Nat} {a0 a1 a2 a3 : Value} {s0 : Int32} {s1 : Nat} {h : AHp} : Rf d 55 5 [a0, a1, a2, a3] [.int s0, .ref s1] h = if (aT (h.1 s1) = 0 ∨ aT (h.1 s1) = 10) ∧ inB s0 (aN (h.1 s1)) = true then Rf d 55 6 [a0, a1, a2, a3] [.int (aF (h.1 s1) s0.toNatClampNeg)] h else Rx d 55 5 [a0, a1, a2, a3] [.int s0, .ref s1] h := ldI c55_5
theorem c55_6 : cd 55 6 = some (6, .iload_n 2, 1, []) := by decide +kernel
theorem x55_6 {d : Nat} {a0 a1 a3 : Value} {s0 : Int32} {x : Int32} {h : AHp} : Rf d 55 6 [a0, a1, .int x, a3] [.int s0] h = Rf d 55 7 [a0, a1, .int x, a3] [.int x, .int s0] h := Rf_go ((stp_of c55_6).trans rfl)
theorem c55_7 : cd 55 7 = some (7, .isub, 1, []) := by decide +kernel
theorem x55_7 {d : Nat} {a0 a1 a2 a3 : Value} {s0 : Int32} {s1 : Int32} {h : AHp} : Rf d 55 7 [a0, a1, a2, a3] [.int s0, .int s1] h = Rf d 55 8 [a0, a1, a2, a3] [.int (s1 - s0)] h := Rf_go ((stp_of c55_7).trans rfl)
theorem c55_8 : cd 55 8 = some (8, .istore_n 3, 1, []) := by decide +kernel
theorem x55_8 {d : Nat} {a0 a1 a2 a3 : Value} {s0 : Int32} {h : AHp} : Rf d 55 8 [a0, a1, a2, a3] [.int s0] h = Rf d 55 9 [a0, a1, a2, .int s0] [] h := Rf_go ((stp_of c55_8).trans rfl)
theorem c55_9 : cd 55 9 = some (9, .aload_n 0, 1, []) := by decide +kernel
theorem x55_9 {d : Nat} {a1 a2 a3 : Value} {x : Nat} {h : AHp} : Rf d 55 9 [.ref x, a1, a2, a3] [] h = Rf d 55 10 [.ref x, a1, a2, a3] [.ref x] h := Rf_go ((stp_of c55_9).trans rfl)
theorem c55_10 : cd 55 10 = some (10, .getfield 80, 3, [(6, 8)]) := by decide +kernel
theorem x55_10 {d : Nat} {a0 a1 a2 a3 : Value} {s0 : Nat} {h : AHp} : Rf d 55 10 [a0, a1, a2, a3] [.ref s0] h = if cls (h.1 s0) = 6 ∧ oKi (h.1 s0) 8 = true then Rf d 55 13 [a0, a1, a2, a3] [.int (oN (h.1 s0) 8)] h else Rx d 55 10 [a0, a1, a2, a3] [.ref s0] h := getI c55_10
theorem c55_13 : cd 55 13 = some (13, .iconst 3, 1, []) := by decide +kernel
theorem x55_13 {d : Nat} {a0 a1 a2 a3 : Value} {s0 : Int32} {h : AHp} : Rf d 55 13 [a0, a1, a2, a3] [.int s0] h = Rf d 55 14 [a0, a1, a2, a3] [.int 3, .int s0] h := Rf_go ((stp_of c55_13).trans rfl)
theorem c55_14 : cd 55 14 = some (14, .if_icmp .ne 13, 3, [(27, 0)]) := by decide +kernel
theorem x55_14 {d : Nat} {a0 a1 a2 a3 : Value} {s0 : Int32} {s1 : Int32} {h : AHp} : Rf d 55 14 [a0, a1, a2, a3] [.int s0, .int s1] h = if s1 = s0 then Rf d 55 17 [a0, a1, a2, a3] [] h else Rf d 55 27 [a0, a1, a2, a3] [] h := Rf_brn ((stp_of c55_14).trans rfl)
theorem c55_27 : cd 55 27 = some (27, .iload_n 3, 1, []) := by decide +kernel
theorem x55_27 {d : Nat} {a0 a1 a2 : Value} {x : Int32} {h : AHp} : Rf d 55 27 [a0, a1, a2, .int x] [] h = Rf d 55 28 [a0, a1, a2, .int x] [.int x] h := Rf_go ((stp_of c55_27).trans rfl)
theorem c55_28 : cd 55 28 = some (28, .ireturn, 1, []) := by decide +kernel
theorem x55_28 {d : Nat} {a0 a1 a2 a3 : Value} {s0 : Int32} {h : AHp} : Rf d 55 28 [a0, a1, a2, a3] [.int s0] h = some (some (.int s0), h) := Rf_end (by rw [stp_of c55_28]; simp only [stpI]; rw [if_pos (show retI (mH 55).2.2.1 s0 = true from retI_int)])
theorem c55_17 : cd 55 17 = some (17, .iload_n 3, 1, []) := by decide +kernel
theorem x55_17 {d : Nat} {a0 a1 a2 : Value} {x : Int32} {h : AHp} : Rf d 55 17 [a0, a1, a2, .int x] [] h = Rf d 55 18 [a0, a1, a2, .int x] [.int x] h := Rf_go ((stp_of c55_17).trans rfl)
theorem c55_18 : cd 55 18 = some (18, .ifCond .ge 9, 3, [(27, 0)]) := by decide +kernel
theorem x55_18 {d : Nat} {a0 a1 a2 a3 : Value} {s0 : Int32} {h : AHp} : Rf d 55 18 [a0, a1, a2, a3] [.int s0] h = if s0 < 0 then Rf d 55 21 [a0, a1, a2, a3] [] h else Rf d 55 27 [a0, a1, a2, a3] [] h := Rf_brn ((stp_of c55_18).trans rfl)
theorem c55_21 : cd 55 21 = some (21, .iconst 2, 1, []) := by decide +kernel
theorem x55_21 {d : Nat} {a0 a1 a2 a3 : Value} {h : AHp} : Rf d 55 21 [a0, a1, a2, a3] [] h = Rf d 55 22 [a0, a1, a2, a3] [.int 2] h := Rf_go ((stp_of c55_21).trans rfl)
theorem c55_22 : cd 55 22 = some (22, .iload_n 3, 1, []) := by decide +kernel
theorem x55_22 {d : Nat} {a0 a1 a2 : Value} {s0 : Int32} {x : Int32} {h : AHp} : Rf d 55 22 [a0, a1, a2, .int x] [.int s0] h = Rf d 55 23 [a0, a1, a2, .int x] [.int x, .int s0] h := Rf_go ((stp_of c55_22).trans rfl)
theorem c55_23 : cd 55 23 = some (23, .imul, 1, []) := by decide +kernel
theorem x55_23 {d : Nat} {a0 a1 a2 a3 : Value} {s0 : Int32} {s1 : Int32} {h : AHp} : Rf d 55 23 [a0, a1, a2, a3] [.int s0, .int s1] h = Rf d 55 24 [a0, a1, a2, a3] [.int (s1 * s0)] h := Rf_go ((stp_of c55_23).trans rfl)
theorem c55_24 : cd 55 24 = some (24, .goto 4, 3, [(28, 0)]) := by decide +kernel
theorem x55_24 {d : Nat} {a0 a1 a2 a3 : Value} {s0 : Int32} {h : AHp} : Rf d 55 24 [a0, a1, a2, a3] [.int s0] h = Rf d 55 28 [a0, a1, a2, a3] [.int s0] h := Rf_go ((stp_of c55_24).trans rfl)
-- 56: X6_offerTo
theorem c56_0 : cd 56 0 = some (0, .aload_n 0, 1, []) := by decide +kernel
theorem x56_0 {d : Nat} {a1 a2 : Value} {x : Nat} {h : AHp} : Rf d 56 0 [.ref x, a1, a2] [] h = Rf d 56 1 [.ref x, a1, a2] [.ref x] h := Rf_go ((stp_of c56_0).trans rfl)
theorem c56_1 : cd 56 1 = some (1, .iload_n 1, 1, []) := by decide +kernel
theorem x56_1 {d : Nat} {a0 a2 : Value} {s0 : Nat} {x : Int32} {h : AHp} : Rf d 56 1 [a0, .int x, a2] [.ref s0] h = Rf d 56 2 [a0, .int x, a2] [.int x, .ref s0] h := Rf_go ((stp_of c56_1).trans rfl)
theorem c56_2 : cd 56 2 = some (2, .invokevirtual 141, 3, [(6, 58)]) := by decide +kernel
theorem xc56_2 {d : Nat} {a0 a1 a2 : Value} {s0 : Int32} {s1 : Nat} {h : AHp} {h1 : AHp} (hr : cls (h.1 s1) = 6) (hq : Rf d 58 0 [.ref s1, .int s0] [] h = some (none, h1)) : Rf (d + 1) 56 2 [a0, a1, a2] [.int s0, .ref s1] h = Rf (d + 1) 56 5 [a0, a1, a2] [] h1 := clV (c := 58) (as := [.int s0]) c56_2 rfl (by simp [isV]) (by rw [hr]; rfl) hq
theorem c56_5 : cd 56 5 = some (5, .aload_n 0, 1, []) := by decide +kernel
theorem x56_5 {d : Nat} {a1 a2 : Value} {x : Nat} {h : AHp} : Rf d 56 5 [.ref x, a1, a2] [] h = Rf d 56 6 [.ref x, a1, a2] [.ref x] h := Rf_go ((stp_of c56_5).trans rfl)
theorem c56_6 : cd 56 6 = some (6, .getfield 21, 3, [(6, 4)]) := by decide +kernel
theorem x56_6 {d : Nat} {a0 a1 a2 : Value} {s0 : Nat} {h : AHp} : Rf d 56 6 [a0, a1, a2] [.ref s0] h = if cls (h.1 s0) = 6 ∧ oKr (h.1 s0) 4 = true then Rf d 56 9 [a0, a1, a2] [.ref (oR (h.1 s0) 4)] h else Rx d 56 6 [a0, a1, a2] [.ref s0] h := getR c56_6
theorem c56_9 : cd 56 9 = some (9, .iload_n 1, 1, []) := by decide +kernel
theorem x56_9 {d : Nat} {a0 a2 : Value} {s0 : Nat} {x : Int32} {h : AHp} : Rf d 56 9 [a0, .int x, a2] [.ref s0] h = Rf d 56 10 [a0, .int x, a2] [.int x, .ref s0] h := Rf_go ((stp_of c56_9).trans rfl)
theorem c56_10 : cd 56 10 = some (10, .iaload, 1, []) := by decide +kernel
theorem x56_10 {d : Nat} {a0 a1 a2 : Value} {s0 : Int32} {s1 : Nat} {h : AHp} : Rf d 56 10 [a0, a1, a2] [.int s0, .ref s1] h = if (aT (h.1 s1) = 0 ∨ aT (h.1 s1) = 10) ∧ inB s0 (aN (h.1 s1)) = true then Rf d 56 11 [a0, a1, a2] [.int (aF (h.1 s1) s0.toNatClampNeg)] h else Rx d 56 10 [a0, a1, a2] [.int s0, .ref s1] h := ldI c56_10
theorem c56_11 : cd 56 11 = some (11, .aload_n 0, 1, []) := by decide +kernel
theorem x56_11 {d : Nat} {a1 a2 : Value} {s0 : Int32} {x : Nat} {h : AHp} : Rf d 56 11 [.ref x, a1, a2] [.int s0] h = Rf d 56 12 [.ref x, a1, a2] [.ref x, .int s0] h := Rf_go ((stp_of c56_11).trans rfl)
theorem c56_12 : cd 56 12 = some (12, .getfield 68, 3, [(6, 11)]) := by decide +kernel
theorem x56_12 {d : Nat} {a0 a1 a2 : Value} {s0 : Nat} {s1 : Int32} {h : AHp} : Rf d 56 12 [a0, a1, a2] [.ref s0, .int s1] h = if cls (h.1 s0) = 6 ∧ oKr (h.1 s0) 11 = true then Rf d 56 15 [a0, a1, a2] [.ref (oR (h.1 s0) 11), .int s1] h else Rx d 56 12 [a0, a1, a2] [.ref s0, .int s1] h := getR c56_12
theorem c56_15 : cd 56 15 = some (15, .iconst 0, 1, []) := by decide +kernel
theorem x56_15 {d : Nat} {a0 a1 a2 : Value} {s0 : Nat} {s1 : Int32} {h : AHp} : Rf d 56 15 [a0, a1, a2] [.ref s0, .int s1] h = Rf d 56 16 [a0, a1, a2] [.int 0, .ref s0, .int s1] h := Rf_go ((stp_of c56_15).trans rfl)
theorem c56_16 : cd 56 16 = some (16, .aload_n 0, 1, []) := by decide +kernel
theorem x56_16 {d : Nat} {a1 a2 : Value} {s0 : Int32} {s1 : Nat} {s2 : Int32} {x : Nat} {h : AHp} : Rf d 56 16 [.ref x, a1, a2] [.int s0, .ref s1, .int s2] h = Rf d 56 17 [.ref x, a1, a2] [.ref x, .int s0, .ref s1, .int s2] h := Rf_go ((stp_of c56_16).trans rfl)
theorem c56_17 : cd 56 17 = some (17, .getfield 44, 3, [(6, 12)]) := by decide +kernel
theorem x56_17 {d : Nat} {a0 a1 a2 : Value} {s0 : Nat} {s1 : Int32} {s2 : Nat} {s3 : Int32} {h : AHp} : Rf d 56 17 [a0, a1, a2] [.ref s0, .int s1, .ref s2, .int s3] h = if cls (h.1 s0) = 6 ∧ oKr (h.1 s0) 12 = true then Rf d 56 20 [a0, a1, a2] [.ref (oR (h.1 s0) 12), .int s1, .ref s2, .int s3] h else Rx d 56 17 [a0, a1, a2] [.ref s0, .int s1, .ref s2, .int s3] h := getR c56_17
theorem c56_20 : cd 56 20 = some (20, .invokevirtual 145, 3, [(3, 25)]) := by decide +kernel
theorem xc56_20 {d : Nat} {a0 a1 a2 : Value} {s0 : Nat} {s1 : Int32} {s2 : Nat} {s3 : Int32} {h : AHp} {h1 : AHp} {v : Int32} (hr : cls (h.1 s2) = 3) (hq : Rf d 25 0 [.ref s2, .int s1, .ref s0, noV, noV] [] h = some (some (.int v), h1)) : Rf (d + 1) 56 20 [a0, a1, a2] [.ref s0, .int s1, .ref s2, .int s3] h = Rf (d + 1) 56 23 [a0, a1, a2] [.int v, .int s3] h1 := clV (c := 25) (as := [.int s1, .ref s0]) c56_20 rfl (by simp [isV]) (by rw [hr]; rfl) hq
theorem c56_23 : cd 56 23 = some (23, .iadd, 1, []) := by decide +kernel
theorem x56_23 {d : Nat} {a0 a1 a2 : Value} {s0 : Int32} {s1 : Int32} {h : AHp} : Rf d 56 23 [a0, a1, a2] [.int s0, .int s1] h = Rf d 56 24 [a0, a1, a2] [.int (s1 + s0)] h := Rf_go ((stp_of c56_23).trans rfl)
theorem c56_24 : cd 56 24 = some (24, .aload_n 0, 1, []) := by decide +kernel
theorem x56_24 {d : Nat} {a1 a2 : Value} {s0 : Int32} {x : Nat} {h : AHp} : Rf d 56 24 [.ref x, a1, a2] [.int s0] h = Rf d 56 25 [.ref x, a1, a2] [.ref x, .int s0] h := Rf_go ((stp_of c56_24).trans rfl)
theorem c56_25 : cd 56 25 = some (25, .getfield 68, 3, [(6, 11)]) := by decide +kernel
theorem x56_25 {d : Nat} {a0 a1 a2 : Value} {s0 : Nat} {s1 : Int32} {h : AHp} : Rf d 56 25 [a0, a1, a2] [.ref s0, .int s1] h = if cls (h.1 s0) = 6 ∧ oKr (h.1 s0) 11 = true then Rf d 56 28 [a0, a1, a2] [.ref (oR (h.1 s0) 11), .int s1] h else Rx d 56 25 [a0, a1, a2] [.ref s0, .int s1] h := getR c56_25
theorem c56_28 : cd 56 28 = some (28, .iconst 1, 1, []) := by decide +kernel
theorem x56_28 {d : Nat} {a0 a1 a2 : Value} {s0 : Nat} {s1 : Int32} {h : AHp} : Rf d 56 28 [a0, a1, a2] [.ref s0, .int s1] h = Rf d 56 29 [a0, a1, a2] [.int 1, .ref s0, .int s1] h := Rf_go ((stp_of c56_28).trans rfl)
theorem c56_29 : cd 56 29 = some (29, .aload_n 0, 1, []) := by decide +kernel
theorem x56_29 {d : Nat} {a1 a2 : Value} {s0 : Int32} {s1 : Nat} {s2 : Int32} {x : Nat} {h : AHp} : Rf d 56 29 [.ref x, a1, a2] [.int s0, .ref s1, .int s2] h = Rf d 56 30 [.ref x, a1, a2] [.ref x, .int s0, .ref s1, .int s2] h := Rf_go ((stp_of c56_29).trans rfl)
theorem c56_30 : cd 56 30 = some (30, .getfield 44, 3, [(6, 12)]) := by decide +kernel
theorem x56_30 {d : Nat} {a0 a1 a2 : Value} {s0 : Nat} {s1 : Int32} {s2 : Nat} {s3 : Int32} {h : AHp} : Rf d 56 30 [a0, a1, a2] [.ref s0, .int s1, .ref s2, .int s3] h = if cls (h.1 s0) = 6 ∧ oKr (h.1 s0) 12 = true then Rf d 56 33 [a0, a1, a2] [.ref (oR (h.1 s0) 12), .int s1, .ref s2, .int s3] h else Rx d 56 30 [a0, a1, a2] [.ref s0, .int s1, .ref s2, .int s3] h := getR c56_30
theorem c56_33 : cd 56 33 = some (33, .invokevirtual 145, 3, [(3, 25)]) := by decide +kernel
theorem xc56_33 {d : Nat} {a0 a1 a2 : Value} {s0 : Nat} {s1 : Int32} {s2 : Nat} {s3 : Int32} {h : AHp} {h1 : AHp} {v : Int32} (hr : cls (h.1 s2) = 3) (hq : Rf d 25 0 [.ref s2, .int s1, .ref s0, noV, noV] [] h = some (some (.int v), h1)) : Rf (d + 1) 56 33 [a0, a1, a2] [.ref s0, .int s1, .ref s2, .int s3] h = Rf (d + 1) 56 36 [a0, a1, a2] [.int v, .int s3] h1 := clV (c := 25) (as := [.int s1, .ref s0]) c56_33 rfl (by simp [isV]) (by rw [hr]; rfl) hq
theorem c56_36 : cd 56 36 = some (36, .isub, 1, []) := by decide +kernel
theorem x56_36 {d : Nat} {a0 a1 a2 : Value} {s0 : Int32} {s1 : Int32} {h : AHp} : Rf d 56 36 [a0, a1, a2] [.int s0, .int s1] h = Rf d 56 37 [a0, a1, a2] [.int (s1 - s0)] h := Rf_go ((stp_of c56_36).trans rfl)
theorem c56_37 : cd 56 37 = some (37, .istore_n 2, 1, []) := by decide +kernel
theorem x56_37 {d : Nat} {a0 a1 a2 : Value} {s0 : Int32} {h : AHp} : Rf d 56 37 [a0, a1, a2] [.int s0] h = Rf d 56 38 [a0, a1, .int s0] [] h := Rf_go ((stp_of c56_37).trans rfl)
theorem c56_38 : cd 56 38 = some (38, .iconst 0, 1, []) := by decide +kernel
theorem x56_38 {d : Nat} {a0 a1 a2 : Value} {h : AHp} : Rf d 56 38 [a0, a1, a2] [] h = Rf d 56 39 [a0, a1, a2] [.int 0] h := Rf_go ((stp_of c56_38).trans rfl)
theorem c56_39 : cd 56 39 = some (39, .sipush 999, 3, []) := by decide +kernel
theorem x56_39 {d : Nat} {a0 a1 a2 : Value} {s0 : Int32} {h : AHp} : Rf d 56 39 [a0, a1, a2] [.int s0] h = Rf d 56 42 [a0, a1, a2] [.int 999, .int s0] h := Rf_go ((stp_of c56_39).trans rfl)
theorem c56_42 : cd 56 42 = some (42, .iload_n 2, 1, []) := by decide +kernel
theorem x56_42 {d : Nat} {a0 a1 : Value} {s0 : Int32} {s1 : Int32} {x : Int32} {h : AHp} : Rf d 56 42 [a0, a1, .int x] [.int s0, .int s1] h = Rf d 56 43 [a0, a1, .int x] [.int x, .int s0, .int s1] h := Rf_go ((stp_of c56_42).trans rfl)
theorem c56_43 : cd 56 43 = some (43, .invokestatic 120, 3, [(0, 202)]) := by decide +kernel
theorem xc56_43 {d : Nat} {a0 a1 a2 : Value} {s0 : Int32} {s1 : Int32} {s2 : Int32} {h : AHp} {h1 : AHp} {v : Int32} (hq : Rf d 202 0 [.int s1, .int s0] [] h = some (some (.int v), h1)) : Rf (d + 1) 56 43 [a0, a1, a2] [.int s0, .int s1, .int s2] h = Rf (d + 1) 56 46 [a0, a1, a2] [.int v, .int s2] h1 := clS (as := [.int s1, .int s0]) c56_43 rfl rfl (by simp [isV]) hq
theorem c56_46 : cd 56 46 = some (46, .invokestatic 126, 3, [(0, 201)]) := by decide +kernel
theorem xc56_46 {d : Nat} {a0 a1 a2 : Value} {s0 : Int32} {s1 : Int32} {h : AHp} {h1 : AHp} {v : Int32} (hq : Rf d 201 0 [.int s1, .int s0] [] h = some (some (.int v), h1)) : Rf (d + 1) 56 46 [a0, a1, a2] [.int s0, .int s1] h = Rf (d + 1) 56 49 [a0, a1, a2] [.int v] h1 := clS (as := [.int s1, .int s0]) c56_46 rfl rfl (by simp [isV]) hq
theorem c56_49 : cd 56 49 = some (49, .ireturn, 1, []) := by decide +kernel
theorem x56_49 {d : Nat} {a0 a1 a2 : Value} {s0 : Int32} {h : AHp} : Rf d 56 49 [a0, a1, a2] [.int s0] h = some (some (.int s0), h) := Rf_end (by rw [stp_of c56_49]; simp only [stpI]; rw [if_pos (show retI (mH 56).2.2.1 s0 = true from retI_int)])
-- 57: X6_wishOf
theorem c57_0 : cd 57 0 = some (0, .aload_n 0, 1, []) := by decide +kernel
theorem x57_0 {d : Nat} {a1 : Value} {x : Nat} {h : AHp} : Rf d 57 0 [.ref x, a1] [] h = Rf d 57 1 [.ref x, a1] [.ref x] h := Rf_go ((stp_of c57_0).trans rfl)
theorem c57_1 : cd 57 1 = some (1, .iload_n 1, 1, []) := by decide +kernel
theorem x57_1 {d : Nat} {a0 : Value} {s0 : Nat} {x : Int32} {h : AHp} : Rf d 57 1 [a0, .int x] [.ref s0] h = Rf d 57 2 [a0, .int x] [.int x, .ref s0] h := Rf_go ((stp_of c57_1).trans rfl)
theorem c57_2 : cd 57 2 = some (2, .invokevirtual 141, 3, [(6, 58)]) := by decide +kernel
theorem xc57_2 {d : Nat} {a0 a1 : Value} {s0 : Int32} {s1 : Nat} {h : AHp} {h1 : AHp} (hr : cls (h.1 s1) = 6) (hq : Rf d 58 0 [.ref s1, .int s0] [] h = some (none, h1)) : Rf (d + 1) 57 2 [a0, a1] [.int s0, .ref s1] h = Rf (d + 1) 57 5 [a0, a1] [] h1 := clV (c := 58) (as := [.int s0]) c57_2 rfl (by simp [isV]) (by rw [hr]; rfl) hq
theorem c57_5 : cd 57 5 = some (5, .aload_n 0, 1, []) := by decide +kernel
theorem x57_5 {d : Nat} {a1 : Value} {x : Nat} {h : AHp} : Rf d 57 5 [.ref x, a1] [] h = Rf d 57 6 [.ref x, a1] [.ref x] h := Rf_go ((stp_of c57_5).trans rfl)
theorem c57_6 : cd 57 6 = some (6, .getfield 68, 3, [(6, 11)]) := by decide +kernel
theorem x57_6 {d : Nat} {a0 a1 : Value} {s0 : Nat} {h : AHp} : Rf d 57 6 [a0, a1] [.ref s0] h = if cls (h.1 s0) = 6 ∧ oKr (h.1 s0) 11 = true then Rf d 57 9 [a0, a1] [.ref (oR (h.1 s0) 11)] h else Rx d 57 6 [a0, a1] [.ref s0] h := getR c57_6
theorem c57_9 : cd 57 9 = some (9, .iconst 2, 1, []) := by decide +kernel
theorem x57_9 {d : Nat} {a0 a1 : Value} {s0 : Nat} {h : AHp} : Rf d 57 9 [a0, a1] [.ref s0] h = Rf d 57 10 [a0, a1] [.int 2, .ref s0] h := Rf_go ((stp_of c57_9).trans rfl)
theorem c57_10 : cd 57 10 = some (10, .aload_n 0, 1, []) := by decide +kernel
theorem x57_10 {d : Nat} {a1 : Value} {s0 : Int32} {s1 : Nat} {x : Nat} {h : AHp} : Rf d 57 10 [.ref x, a1] [.int s0, .ref s1] h = Rf d 57 11 [.ref x, a1] [.ref x, .int s0, .ref s1] h := Rf_go ((stp_of c57_10).trans rfl)
theorem c57_11 : cd 57 11 = some (11, .getfield 44, 3, [(6, 12)]) := by decide +kernel
theorem x57_11 {d : Nat} {a0 a1 : Value} {s0 : Nat} {s1 : Int32} {s2 : Nat} {h : AHp} : Rf d 57 11 [a0, a1] [.ref s0, .int s1, .ref s2] h = if cls (h.1 s0) = 6 ∧ oKr (h.1 s0) 12 = true then Rf d 57 14 [a0, a1] [.ref (oR (h.1 s0) 12), .int s1, .ref s2] h else Rx d 57 11 [a0, a1] [.ref s0, .int s1, .ref s2] h := getR c57_11
theorem c57_14 : cd 57 14 = some (14, .invokevirtual 145, 3, [(3, 25)]) := by decide +kernel
theorem xc57_14 {d : Nat} {a0 a1 : Value} {s0 : Nat} {s1 : Int32} {s2 : Nat} {h : AHp} {h1 : AHp} {v : Int32} (hr : cls (h.1 s2) = 3) (hq : Rf d 25 0 [.ref s2, .int s1, .ref s0, noV, noV] [] h = some (some (.int v), h1)) : Rf (d + 1) 57 14 [a0, a1] [.ref s0, .int s1, .ref s2] h = Rf (d + 1) 57 17 [a0, a1] [.int v] h1 := clV (c := 25) (as := [.int s1, .ref s0]) c57_14 rfl (by simp [isV]) (by rw [hr]; rfl) hq
theorem c57_17 : cd 57 17 = some (17, .ireturn, 1, []) := by decide +kernel
theorem x57_17 {d : Nat} {a0 a1 : Value} {s0 : Int32} {h : AHp} : Rf d 57 17 [a0, a1] [.int s0] h = some (some (.int s0), h) := Rf_end (by rw [stp_of c57_17]; simp only [stpI]; rw [if_pos (show retI (mH 57).2.2.1 s0 = true from retI_int)])
-- 58: X6_takeFacts
theorem c58_0 : cd 58 0 = some (0, .aload_n 0, 1, []) := by decide +kernel
theorem x58_0 {d : Nat} {a1 : Value} {x : Nat} {h : AHp} : Rf d 58 0 [.ref x, a1] [] h = Rf d 58 1 [.ref x, a1] [.ref x] h := Rf_go ((stp_of c58_0).trans rfl)
theorem c58_1 : cd 58 1 = some (1, .getfield 44, 3, [(6, 12)]) := by decide +kernel
theorem x58_1 {d : Nat} {a0 a1 : Value} {s0 : Nat} {h : AHp} : Rf d 58 1 [a0, a1] [.ref s0] h = if cls (h.1 s0) = 6 ∧ oKr (h.1 s0) 12 = true then Rf d 58 4 [a0, a1] [.ref (oR (h.1 s0) 12)] h else Rx d 58 1 [a0, a1] [.ref s0] h := getR c58_1
theorem c58_4 : cd 58 4 = some (4, .iconst 0, 1, []) := by decide +kernel
theorem x58_4 {d : Nat} {a0 a1 : Value} {s0 : Nat} {h : AHp} : Rf d 58 4 [a0, a1] [.ref s0] h = Rf d 58 5 [a0, a1] [.int 0, .ref s0] h := Rf_go ((stp_of c58_4).trans rfl)
theorem c58_5 : cd 58 5 = some (5, .iload_n 1, 1, []) := by decide +kernel
theorem x58_5 {d : Nat} {a0 : Value} {s0 : Int32} {s1 : Nat} {x : Int32} {h : AHp} : Rf d 58 5 [a0, .int x] [.int s0, .ref s1] h = Rf d 58 6 [a0, .int x] [.int x, .int s0, .ref s1] h := Rf_go ((stp_of c58_5).trans rfl)
theorem c58_6 : cd 58 6 = some (6, .iastore, 1, []) := by decide +kernel
theorem x58_6 {d : Nat} {a0 a1 : Value} {s0 : Int32} {s1 : Int32} {s2 : Nat} {h : AHp} : Rf d 58 6 [a0, a1] [.int s0, .int s1, .ref s2] h = if aT (h.1 s2) = 0 ∧ inB s1 (aN (h.1 s2)) = true then Rf d 58 7 [a0, a1] [] (hset h s2 (.inl (0, aN (h.1 s2), .inl (upd (aF (h.1 s2)) s1.toNatClampNeg s0)))) else Rx d 58 6 [a0, a1] [.int s0, .int s1, .ref s2] h := stI c58_6
theorem c58_7 : cd 58 7 = some (7, .aload_n 0, 1, []) := by decide +kernel
theorem x58_7 {d : Nat} {a1 : Value} {x : Nat} {h : AHp} : Rf d 58 7 [.ref x, a1] [] h = Rf d 58 8 [.ref x, a1] [.ref x] h := Rf_go ((stp_of c58_7).trans rfl)
theorem c58_8 : cd 58 8 = some (8, .getfield 44, 3, [(6, 12)]) := by decide +kernel
theorem x58_8 {d : Nat} {a0 a1 : Value} {s0 : Nat} {h : AHp} : Rf d 58 8 [a0, a1] [.ref s0] h = if cls (h.1 s0) = 6 ∧ oKr (h.1 s0) 12 = true then Rf d 58 11 [a0, a1] [.ref (oR (h.1 s0) 12)] h else Rx d 58 8 [a0, a1] [.ref s0] h := getR c58_8
theorem c58_11 : cd 58 11 = some (11, .iconst 1, 1, []) := by decide +kernel
theorem x58_11 {d : Nat} {a0 a1 : Value} {s0 : Nat} {h : AHp} : Rf d 58 11 [a0, a1] [.ref s0] h = Rf d 58 12 [a0, a1] [.int 1, .ref s0] h := Rf_go ((stp_of c58_11).trans rfl)
theorem c58_12 : cd 58 12 = some (12, .aload_n 0, 1, []) := by decide +kernel
theorem x58_12 {d : Nat} {a1 : Value} {s0 : Int32} {s1 : Nat} {x : Nat} {h : AHp} : Rf d 58 12 [.ref x, a1] [.int s0, .ref s1] h = Rf d 58 13 [.ref x, a1] [.ref x, .int s0, .ref s1] h := Rf_go ((stp_of c58_12).trans rfl)
theorem c58_13 : cd 58 13 = some (13, .getfield 32, 3, [(6, 7)]) := by decide +kernel
theorem x58_13 {d : Nat} {a0 a1 : Value} {s0 : Nat} {s1 : Int32} {s2 : Nat} {h : AHp} : Rf d 58 13 [a0, a1] [.ref s0, .int s1, .ref s2] h = if cls (h.1 s0) = 6 ∧ oKr (h.1 s0) 7 = true then Rf d 58 16 [a0, a1] [.ref (oR (h.1 s0) 7), .int s1, .ref s2] h else Rx d 58 13 [a0, a1] [.ref s0, .int s1, .ref s2] h := getR c58_13
theorem c58_16 : cd 58 16 = some (16, .iload_n 1, 1, []) := by decide +kernel
theorem x58_16 {d : Nat} {a0 : Value} {s0 : Nat} {s1 : Int32} {s2 : Nat} {x : Int32} {h : AHp} : Rf d 58 16 [a0, .int x] [.ref s0, .int s1, .ref s2] h = Rf d 58 17 [a0, .int x] [.int x, .ref s0, .int s1, .ref s2] h := Rf_go ((stp_of c58_16).trans rfl)
theorem c58_17 : cd 58 17 = some (17, .aaload, 1, []) := by decide +kernel
theorem x58_17 {d : Nat} {a0 a1 : Value} {s0 : Int32} {s1 : Nat} {s2 : Int32} {s3 : Nat} {h : AHp} : Rf d 58 17 [a0, a1] [.int s0, .ref s1, .int s2, .ref s3] h = if aTq (h.1 s1) = 3 ∧ inB s0 (aN (h.1 s1)) = true ∧ (aG (h.1 s1) s0.toNatClampNeg).isSome = true then Rf d 58 18 [a0, a1] [.ref ((aG (h.1 s1) s0.toNatClampNeg).getD 0), .int s2, .ref s3] h else Rx d 58 17 [a0, a1] [.int s0, .ref s1, .int s2, .ref s3] h := ldQ c58_17
theorem c58_18 : cd 58 18 = some (18, .invokevirtual 99, 3, [(0, 1), (1, 5), (2, 9), (4, 30), (5, 36), (8, 85), (9, 89), (201, 4), (202, 4)]) := by decide +kernel
theorem xc58_18_0 {d : Nat} {a0 a1 : Value} {s0 : Nat} {s1 : Int32} {s2 : Nat} {h : AHp} {h1 : AHp} {v : Int32} (hr : cls (h.1 s0) = 0) (hq : Rf d 1 0 [.ref s0] [] h = some (some (.int v), h1)) : Rf (d + 1) 58 18 [a0, a1] [.ref s0, .int s1, .ref s2] h = Rf (d + 1) 58 21 [a0, a1] [.int v, .int s1, .ref s2] h1 := clV (c := 1) (as := []) c58_18 rfl (by simp [isV]) (by rw [hr]; rfl) hq
theorem xc58_18_1 {d : Nat} {a0 a1 : Value} {s0 : Nat} {s1 : Int32} {s2 : Nat} {h : AHp} {h1 : AHp} {v : Int32} (hr : cls (h.1 s0) = 1) (hq : Rf d 5 0 [.ref s0] [] h = some (some (.int v), h1)) : Rf (d + 1) 58 18 [a0, a1] [.ref s0, .int s1, .ref s2] h = Rf (d + 1) 58 21 [a0, a1] [.int v, .int s1, .ref s2] h1 := clV (c := 5) (as := []) c58_18 rfl (by simp [isV]) (by rw [hr]; rfl) hq
theorem xc58_18_2 {d : Nat} {a0 a1 : Value} {s0 : Nat} {s1 : Int32} {s2 : Nat} {h : AHp} {h1 : AHp} {v : Int32} (hr : cls (h.1 s0) = 2) (hq : Rf d 9 0 [.ref s0] [] h = some (some (.int v), h1)) : Rf (d + 1) 58 18 [a0, a1] [.ref s0, .int s1, .ref s2] h = Rf (d + 1) 58 21 [a0, a1] [.int v, .int s1, .ref s2] h1 := clV (c := 9) (as := []) c58_18 rfl (by simp [isV]) (by rw [hr]; rfl) hq
theorem xc58_18_4 {d : Nat} {a0 a1 : Value} {s0 : Nat} {s1 : Int32} {s2 : Nat} {h : AHp} {h1 : AHp} {v : Int32} (hr : cls (h.1 s0) = 4) (hq : Rf d 30 0 [.ref s0] [] h = some (some (.int v), h1)) : Rf (d + 1) 58 18 [a0, a1] [.ref s0, .int s1, .ref s2] h = Rf (d + 1) 58 21 [a0, a1] [.int v, .int s1, .ref s2] h1 := clV (c := 30) (as := []) c58_18 rfl (by simp [isV]) (by rw [hr]; rfl) hq
theorem xc58_18_5 {d : Nat} {a0 a1 : Value} {s0 : Nat} {s1 : Int32} {s2 : Nat} {h : AHp} {h1 : AHp} {v : Int32} (hr : cls (h.1 s0) = 5) (hq : Rf d 36 0 [.ref s0] [] h = some (some (.int v), h1)) : Rf (d + 1) 58 18 [a0, a1] [.ref s0, .int s1, .ref s2] h = Rf (d + 1) 58 21 [a0, a1] [.int v, .int s1, .ref s2] h1 := clV (c := 36) (as := []) c58_18 rfl (by simp [isV]) (by rw [hr]; rfl) hq
theorem xc58_18_8 {d : Nat} {a0 a1 : Value} {s0 : Nat} {s1 : Int32} {s2 : Nat} {h : AHp} {h1 : AHp} {v : Int32} (hr : cls (h.1 s0) = 8) (hq : Rf d 85 0 [.ref s0] [] h = some (some (.int v), h1)) : Rf (d + 1) 58 18 [a0, a1] [.ref s0, .int s1, .ref s2] h = Rf (d + 1) 58 21 [a0, a1] [.int v, .int s1, .ref s2] h1 := clV (c := 85) (as := []) c58_18 rfl (by simp [isV]) (by rw [hr]; rfl) hq
theorem xc58_18_9 {d : Nat} {a0 a1 : Value} {s0 : Nat} {s1 : Int32} {s2 : Nat} {h : AHp} {h1 : AHp} {v : Int32} (hr : cls (h.1 s0) = 9) (hq : Rf d 89 0 [.ref s0] [] h = some (some (.int v), h1)) : Rf (d + 1) 58 18 [a0, a1] [.ref s0, .int s1, .ref s2] h = Rf (d + 1) 58 21 [a0, a1] [.int v, .int s1, .ref s2] h1 := clV (c := 89) (as := []) c58_18 rfl (by simp [isV]) (by rw [hr]; rfl) hq
theorem c58_21 : cd 58 21 = some (21, .iastore, 1, []) := by decide +kernel
theorem x58_21 {d : Nat} {a0 a1 : Value} {s0 : Int32} {s1 : Int32} {s2 : Nat} {h : AHp} : Rf d 58 21 [a0, a1] [.int s0, .int s1, .ref s2] h = if aT (h.1 s2) = 0 ∧ inB s1 (aN (h.1 s2)) = true then Rf d 58 22 [a0, a1] [] (hset h s2 (.inl (0, aN (h.1 s2), .inl (upd (aF (h.1 s2)) s1.toNatClampNeg s0)))) else Rx d 58 21 [a0, a1] [.int s0, .int s1, .ref s2] h := stI c58_21
theorem c58_22 : cd 58 22 = some (22, .aload_n 0, 1, []) := by decide +kernel
theorem x58_22 {d : Nat} {a1 : Value} {x : Nat} {h : AHp} : Rf d 58 22 [.ref x, a1] [] h = Rf d 58 23 [.ref x, a1] [.ref x] h := Rf_go ((stp_of c58_22).trans rfl)
theorem c58_23 : cd 58 23 = some (23, .getfield 44, 3, [(6, 12)]) := by decide +kernel
theorem x58_23 {d : Nat} {a0 a1 : Value} {s0 : Nat} {h : AHp} : Rf d 58 23 [a0, a1] [.ref s0] h = if cls (h.1 s0) = 6 ∧ oKr (h.1 s0) 12 = true then Rf d 58 26 [a0, a1] [.ref (oR (h.1 s0) 12)] h else Rx d 58 23 [a0, a1] [.ref s0] h := getR c58_23
theorem c58_26 : cd 58 26 = some (26, .iconst 2, 1, []) := by decide +kernel
theorem x58_26 {d : Nat} {a0 a1 : Value} {s0 : Nat} {h : AHp} : Rf d 58 26 [a0, a1] [.ref s0] h = Rf d 58 27 [a0, a1] [.int 2, .ref s0] h := Rf_go ((stp_of c58_26).trans rfl)
theorem c58_27 : cd 58 27 = some (27, .aload_n 0, 1, []) := by decide +kernel
theorem x58_27 {d : Nat} {a1 : Value} {s0 : Int32} {s1 : Nat} {x : Nat} {h : AHp} : Rf d 58 27 [.ref x, a1] [.int s0, .ref s1] h = Rf d 58 28 [.ref x, a1] [.ref x, .int s0, .ref s1] h := Rf_go ((stp_of c58_27).trans rfl)
theorem c58_28 : cd 58 28 = some (28, .getfield 24, 3, [(6, 5)]) := by decide +kernel
theorem x58_28 {d : Nat} {a0 a1 : Value} {s0 : Nat} {s1 : Int32} {s2 : Nat} {h : AHp} : Rf d 58 28 [a0, a1] [.ref s0, .int s1, .ref s2] h = if cls (h.1 s0) = 6 ∧ oKr (h.1 s0) 5 = true then Rf d 58 31 [a0, a1] [.ref (oR (h.1 s0) 5), .int s1, .ref s2] h else Rx d 58 28 [a0, a1] [.ref s0, .int s1, .ref s2] h := getR c58_28
theorem c58_31 : cd 58 31 = some (31, .iload_n 1, 1, []) := by decide +kernel
theorem x58_31 {d : Nat} {a0 : Value} {s0 : Nat} {s1 : Int32} {s2 : Nat} {x : Int32} {h : AHp} : Rf d 58 31 [a0, .int x] [.ref s0, .int s1, .ref s2] h = Rf d 58 32 [a0, .int x] [.int x, .ref s0, .int s1, .ref s2] h := Rf_go ((stp_of c58_31).trans rfl)
theorem c58_32 : cd 58 32 = some (32, .iaload, 1, []) := by decide +kernel
theorem x58_32 {d : Nat} {a0 a1 : Value} {s0 : Int32} {s1 : Nat} {s2 : Int32} {s3 : Nat} {h : AHp} : Rf d 58 32 [a0, a1] [.int s0, .ref s1, .int s2, .ref s3] h = if (aT (h.1 s1) = 0 ∨ aT (h.1 s1) = 10) ∧ inB s0 (aN (h.1 s1)) = true then Rf d 58 33 [a0, a1] [.int (aF (h.1 s1) s0.toNatClampNeg), .int s2, .ref s3] h else Rx d 58 32 [a0, a1] [.int s0, .ref s1, .int s2, .ref s3] h := ldI c58_32
theorem c58_33 : cd 58 33 = some (33, .iastore, 1, []) := by decide +kernel
theorem x58_33 {d : Nat} {a0 a1 : Value} {s0 : Int32} {s1 : Int32} {s2 : Nat} {h : AHp} : Rf d 58 33 [a0, a1] [.int s0, .int s1, .ref s2] h = if aT (h.1 s2) = 0 ∧ inB s1 (aN (h.1 s2)) = true then Rf d 58 34 [a0, a1] [] (hset h s2 (.inl (0, aN (h.1 s2), .inl (upd (aF (h.1 s2)) s1.toNatClampNeg s0)))) else Rx d 58 33 [a0, a1] [.int s0, .int s1, .ref s2] h := stI c58_33
theorem c58_34 : cd 58 34 = some (34, .aload_n 0, 1, []) := by decide +kernel
theorem x58_34 {d : Nat} {a1 : Value} {x : Nat} {h : AHp} : Rf d 58 34 [.ref x, a1] [] h = Rf d 58 35 [.ref x, a1] [.ref x] h := Rf_go ((stp_of c58_34).trans rfl)
theorem c58_35 : cd 58 35 = some (35, .getfield 44, 3, [(6, 12)]) := by decide +kernel
theorem x58_35 {d : Nat} {a0 a1 : Value} {s0 : Nat} {h : AHp} : Rf d 58 35 [a0, a1] [.ref s0] h = if cls (h.1 s0) = 6 ∧ oKr (h.1 s0) 12 = true then Rf d 58 38 [a0, a1] [.ref (oR (h.1 s0) 12)] h else Rx d 58 35 [a0, a1] [.ref s0] h := getR c58_35
theorem c58_38 : cd 58 38 = some (38, .iconst 3, 1, []) := by decide +kernel
theorem x58_38 {d : Nat} {a0 a1 : Value} {s0 : Nat} {h : AHp} : Rf d 58 38 [a0, a1] [.ref s0] h = Rf d 58 39 [a0, a1] [.int 3, .ref s0] h := Rf_go ((stp_of c58_38).trans rfl)
theorem c58_39 : cd 58 39 = some (39, .aload_n 0, 1, []) := by decide +kernel
theorem x58_39 {d : Nat} {a1 : Value} {s0 : Int32} {s1 : Nat} {x : Nat} {h : AHp} : Rf d 58 39 [.ref x, a1] [.int s0, .ref s1] h = Rf d 58 40 [.ref x, a1] [.ref x, .int s0, .ref s1] h := Rf_go ((stp_of c58_39).trans rfl)
theorem c58_40 : cd 58 40 = some (40, .getfield 18, 3, [(6, 3)]) := by decide +kernel
theorem x58_40 {d : Nat} {a0 a1 : Value} {s0 : Nat} {s1 : Int32} {s2 : Nat} {h : AHp} : Rf d 58 40 [a0, a1] [.ref s0, .int s1, .ref s2] h = if cls (h.1 s0) = 6 ∧ oKr (h.1 s0) 3 = true then Rf d 58 43 [a0, a1] [.ref (oR (h.1 s0) 3), .int s1, .ref s2] h else Rx d 58 40 [a0, a1] [.ref s0, .int s1, .ref s2] h := getR c58_40
theorem c58_43 : cd 58 43 = some (43, .iload_n 1, 1, []) := by decide +kernel
theorem x58_43 {d : Nat} {a0 : Value} {s0 : Nat} {s1 : Int32} {s2 : Nat} {x : Int32} {h : AHp} : Rf d 58 43 [a0, .int x] [.ref s0, .int s1, .ref s2] h = Rf d 58 44 [a0, .int x] [.int x, .ref s0, .int s1, .ref s2] h := Rf_go ((stp_of c58_43).trans rfl)
theorem c58_44 : cd 58 44 = some (44, .iaload, 1, []) := by decide +kernel
theorem x58_44 {d : Nat} {a0 a1 : Value} {s0 : Int32} {s1 : Nat} {s2 : Int32} {s3 : Nat} {h : AHp} : Rf d 58 44 [a0, a1] [.int s0, .ref s1, .int s2, .ref s3] h = if (aT (h.1 s1) = 0 ∨ aT (h.1 s1) = 10) ∧ inB s0 (aN (h.1 s1)) = true then Rf d 58 45 [a0, a1] [.int (aF (h.1 s1) s0.toNatClampNeg), .int s2, .ref s3] h else Rx d 58 44 [a0, a1] [.int s0, .ref s1, .int s2, .ref s3] h := ldI c58_44
theorem c58_45 : cd 58 45 = some (45, .bipush 10, 2, []) := by decide +kernel
theorem x58_45 {d : Nat} {a0 a1 : Value} {s0 : Int32} {s1 : Int32} {s2 : Nat} {h : AHp} : Rf d 58 45 [a0, a1] [.int s0, .int s1, .ref s2] h = Rf d 58 47 [a0, a1] [.int 10, .int s0, .int s1, .ref s2] h := Rf_go ((stp_of c58_45).trans rfl)
theorem c58_47 : cd 58 47 = some (47, .idiv, 1, []) := by decide +kernel
theorem x58_47 {d : Nat} {a0 a1 : Value} {s0 : Int32} {s1 : Int32} {s2 : Int32} {s3 : Nat} {h : AHp} : Rf d 58 47 [a0, a1] [.int s0, .int s1, .int s2, .ref s3] h = if ¬ s0 = 0 then Rf d 58 48 [a0, a1] [.int (s1 / s0), .int s2, .ref s3] h else Rx d 58 47 [a0, a1] [.int s0, .int s1, .int s2, .ref s3] h := divE c58_47 (fun _ _ _ => rfl)
theorem c58_48 : cd 58 48 = some (48, .iastore, 1, []) := by decide +kernel
theorem x58_48 {d : Nat} {a0 a1 : Value} {s0 : Int32} {s1 : Int32} {s2 : Nat} {h : AHp} : Rf d 58 48 [a0, a1] [.int s0, .int s1, .ref s2] h = if aT (h.1 s2) = 0 ∧ inB s1 (aN (h.1 s2)) = true then Rf d 58 49 [a0, a1] [] (hset h s2 (.inl (0, aN (h.1 s2), .inl (upd (aF (h.1 s2)) s1.toNatClampNeg s0)))) else Rx d 58 48 [a0, a1] [.int s0, .int s1, .ref s2] h := stI c58_48
theorem c58_49 : cd 58 49 = some (49, .aload_n 0, 1, []) := by decide +kernel
theorem x58_49 {d : Nat} {a1 : Value} {x : Nat} {h : AHp} : Rf d 58 49 [.ref x, a1] [] h = Rf d 58 50 [.ref x, a1] [.ref x] h := Rf_go ((stp_of c58_49).trans rfl)
theorem c58_50 : cd 58 50 = some (50, .getfield 44, 3, [(6, 12)]) := by decide +kernel
theorem x58_50 {d : Nat} {a0 a1 : Value} {s0 : Nat} {h : AHp} : Rf d 58 50 [a0, a1] [.ref s0] h = if cls (h.1 s0) = 6 ∧ oKr (h.1 s0) 12 = true then Rf d 58 53 [a0, a1] [.ref (oR (h.1 s0) 12)] h else Rx d 58 50 [a0, a1] [.ref s0] h := getR c58_50
theorem c58_53 : cd 58 53 = some (53, .iconst 4, 1, []) := by decide +kernel
theorem x58_53 {d : Nat} {a0 a1 : Value} {s0 : Nat} {h : AHp} : Rf d 58 53 [a0, a1] [.ref s0] h = Rf d 58 54 [a0, a1] [.int 4, .ref s0] h := Rf_go ((stp_of c58_53).trans rfl)
theorem c58_54 : cd 58 54 = some (54, .aload_n 0, 1, []) := by decide +kernel
theorem x58_54 {d : Nat} {a1 : Value} {s0 : Int32} {s1 : Nat} {x : Nat} {h : AHp} : Rf d 58 54 [.ref x, a1] [.int s0, .ref s1] h = Rf d 58 55 [.ref x, a1] [.ref x, .int s0, .ref s1] h := Rf_go ((stp_of c58_54).trans rfl)
theorem c58_55 : cd 58 55 = some (55, .getfield 21, 3, [(6, 4)]) := by decide +kernel
theorem x58_55 {d : Nat} {a0 a1 : Value} {s0 : Nat} {s1 : Int32} {s2 : Nat} {h : AHp} : Rf d 58 55 [a0, a1] [.ref s0, .int s1, .ref s2] h = if cls (h.1 s0) = 6 ∧ oKr (h.1 s0) 4 = true then Rf d 58 58 [a0, a1] [.ref (oR (h.1 s0) 4), .int s1, .ref s2] h else Rx d 58 55 [a0, a1] [.ref s0, .int s1, .ref s2] h := getR c58_55
theorem c58_58 : cd 58 58 = some (58, .iload_n 1, 1, []) := by decide +kernel
theorem x58_58 {d : Nat} {a0 : Value} {s0 : Nat} {s1 : Int32} {s2 : Nat} {x : Int32} {h : AHp} : Rf d 58 58 [a0, .int x] [.ref s0, .int s1, .ref s2] h = Rf d 58 59 [a0, .int x] [.int x, .ref s0, .int s1, .ref s2] h := Rf_go ((stp_of c58_58).trans rfl)
theorem c58_59 : cd 58 59 = some (59, .iaload, 1, []) := by decide +kernel
theorem x58_59 {d : Nat} {a0 a1 : Value} {s0 : Int32} {s1 : Nat} {s2 : Int32} {s3 : Nat} {h : AHp} : Rf d 58 59 [a0, a1] [.int s0, .ref s1, .int s2, .ref s3] h = if (aT (h.1 s1) = 0 ∨ aT (h.1 s1) = 10) ∧ inB s0 (aN (h.1 s1)) = true then Rf d 58 60 [a0, a1] [.int (aF (h.1 s1) s0.toNatClampNeg), .int s2, .ref s3] h else Rx d 58 59 [a0, a1] [.int s0, .ref s1, .int s2, .ref s3] h := ldI c58_59
theorem c58_60 : cd 58 60 = some (60, .bipush 10, 2, []) := by decide +kernel
theorem x58_60 {d : Nat} {a0 a1 : Value} {s0 : Int32} {s1 : Int32} {s2 : Nat} {h : AHp} : Rf d 58 60 [a0, a1] [.int s0, .int s1, .ref s2] h = Rf d 58 62 [a0, a1] [.int 10, .int s0, .int s1, .ref s2] h := Rf_go ((stp_of c58_60).trans rfl)
theorem c58_62 : cd 58 62 = some (62, .idiv, 1, []) := by decide +kernel
theorem x58_62 {d : Nat} {a0 a1 : Value} {s0 : Int32} {s1 : Int32} {s2 : Int32} {s3 : Nat} {h : AHp} : Rf d 58 62 [a0, a1] [.int s0, .int s1, .int s2, .ref s3] h = if ¬ s0 = 0 then Rf d 58 63 [a0, a1] [.int (s1 / s0), .int s2, .ref s3] h else Rx d 58 62 [a0, a1] [.int s0, .int s1, .int s2, .ref s3] h := divE c58_62 (fun _ _ _ => rfl)
theorem c58_63 : cd 58 63 = some (63, .iastore, 1, []) := by decide +kernel
theorem x58_63 {d : Nat} {a0 a1 : Value} {s0 : Int32} {s1 : Int32} {s2 : Nat} {h : AHp} : Rf d 58 63 [a0, a1] [.int s0, .int s1, .ref s2] h = if aT (h.1 s2) = 0 ∧ inB s1 (aN (h.1 s2)) = true then Rf d 58 64 [a0, a1] [] (hset h s2 (.inl (0, aN (h.1 s2), .inl (upd (aF (h.1 s2)) s1.toNatClampNeg s0)))) else Rx d 58 63 [a0, a1] [.int s0, .int s1, .ref s2] h := stI c58_63
theorem c58_64 : cd 58 64 = some (64, .aload_n 0, 1, []) := by decide +kernel
theorem x58_64 {d : Nat} {a1 : Value} {x : Nat} {h : AHp} : Rf d 58 64 [.ref x, a1] [] h = Rf d 58 65 [.ref x, a1] [.ref x] h := Rf_go ((stp_of c58_64).trans rfl)
theorem c58_65 : cd 58 65 = some (65, .getfield 44, 3, [(6, 12)]) := by decide +kernel
theorem x58_65 {d : Nat} {a0 a1 : Value} {s0 : Nat} {h : AHp} : Rf d 58 65 [a0, a1] [.ref s0] h = if cls (h.1 s0) = 6 ∧ oKr (h.1 s0) 12 = true then Rf d 58 68 [a0, a1] [.ref (oR (h.1 s0) 12)] h else Rx d 58 65 [a0, a1] [.ref s0] h := getR c58_65
theorem c58_68 : cd 58 68 = some (68, .iconst 5, 1, []) := by decide +kernel
theorem x58_68 {d : Nat} {a0 a1 : Value} {s0 : Nat} {h : AHp} : Rf d 58 68 [a0, a1] [.ref s0] h = Rf d 58 69 [a0, a1] [.int 5, .ref s0] h := Rf_go ((stp_of c58_68).trans rfl)
theorem c58_69 : cd 58 69 = some (69, .aload_n 0, 1, []) := by decide +kernel
theorem x58_69 {d : Nat} {a1 : Value} {s0 : Int32} {s1 : Nat} {x : Nat} {h : AHp} : Rf d 58 69 [.ref x, a1] [.int s0, .ref s1] h = Rf d 58 70 [.ref x, a1] [.ref x, .int s0, .ref s1] h := Rf_go ((stp_of c58_69).trans rfl)
theorem c58_70 : cd 58 70 = some (70, .getfield 83, 3, [(6, 9)]) := by decide +kernel
theorem x58_70 {d : Nat} {a0 a1 : Value} {s0 : Nat} {s1 : Int32} {s2 : Nat} {h : AHp} : Rf d 58 70 [a0, a1] [.ref s0, .int s1, .ref s2] h = if cls (h.1 s0) = 6 ∧ oKi (h.1 s0) 9 = true then Rf d 58 73 [a0, a1] [.int (oN (h.1 s0) 9), .int s1, .ref s2] h else Rx d 58 70 [a0, a1] [.ref s0, .int s1, .ref s2] h := getI c58_70
theorem c58_73 : cd 58 73 = some (73, .bipush 10, 2, []) := by decide +kernel
theorem x58_73 {d : Nat} {a0 a1 : Value} {s0 : Int32} {s1 : Int32} {s2 : Nat} {h : AHp} : Rf d 58 73 [a0, a1] [.int s0, .int s1, .ref s2] h = Rf d 58 75 [a0, a1] [.int 10, .int s0, .int s1, .ref s2] h := Rf_go ((stp_of c58_73).trans rfl)
theorem c58_75 : cd 58 75 = some (75, .irem, 1, []) := by decide +kernel
theorem x58_75 {d : Nat} {a0 a1 : Value} {s0 : Int32} {s1 : Int32} {s2 : Int32} {s3 : Nat} {h : AHp} : Rf d 58 75 [a0, a1] [.int s0, .int s1, .int s2, .ref s3] h = if ¬ s0 = 0 then Rf d 58 76 [a0, a1] [.int (remI s1 s0), .int s2, .ref s3] h else Rx d 58 75 [a0, a1] [.int s0, .int s1, .int s2, .ref s3] h := divE c58_75 (fun _ _ _ => rfl)
theorem c58_76 : cd 58 76 = some (76, .iastore, 1, []) := by decide +kernel
theorem x58_76 {d : Nat} {a0 a1 : Value} {s0 : Int32} {s1 : Int32} {s2 : Nat} {h : AHp} : Rf d 58 76 [a0, a1] [.int s0, .int s1, .ref s2] h = if aT (h.1 s2) = 0 ∧ inB s1 (aN (h.1 s2)) = true then Rf d 58 77 [a0, a1] [] (hset h s2 (.inl (0, aN (h.1 s2), .inl (upd (aF (h.1 s2)) s1.toNatClampNeg s0)))) else Rx d 58 76 [a0, a1] [.int s0, .int s1, .ref s2] h := stI c58_76
theorem c58_77 : cd 58 77 = some (77, .return_, 1, []) := by decide +kernel
theorem x58_77 {d : Nat} {a0 a1 : Value} {h : AHp} : Rf d 58 77 [a0, a1] [] h = some (none, h) := Rf_end (endV c58_77 (by decide +kernel))
-- 59: X6_doneBy
theorem c59_0 : cd 59 0 = some (0, .aload_n 0, 1, []) := by decide +kernel
theorem x59_0 {d : Nat} {a1 : Value} {x : Nat} {h : AHp} : Rf d 59 0 [.ref x, a1] [] h = Rf d 59 1 [.ref x, a1] [.ref x] h := Rf_go ((stp_of c59_0).trans rfl)
theorem c59_1 : cd 59 1 = some (1, .iload_n 1, 1, []) := by decide +kernel
theorem x59_1 {d : Nat} {a0 : Value} {s0 : Nat} {x : Int32} {h : AHp} : Rf d 59 1 [a0, .int x] [.ref s0] h = Rf d 59 2 [a0, .int x] [.int x, .ref s0] h := Rf_go ((stp_of c59_1).trans rfl)
theorem c59_2 : cd 59 2 = some (2, .aload_n 0, 1, []) := by decide +kernel
theorem x59_2 {d : Nat} {a1 : Value} {s0 : Int32} {s1 : Nat} {x : Nat} {h : AHp} : Rf d 59 2 [.ref x, a1] [.int s0, .ref s1] h = Rf d 59 3 [.ref x, a1] [.ref x, .int s0, .ref s1] h := Rf_go ((stp_of c59_2).trans rfl)
theorem c59_3 : cd 59 3 = some (3, .iload_n 1, 1, []) := by decide +kernel
theorem x59_3 {d : Nat} {a0 : Value} {s0 : Nat} {s1 : Int32} {s2 : Nat} {x : Int32} {h : AHp} : Rf d 59 3 [a0, .int x] [.ref s0, .int s1, .ref s2] h = Rf d 59 4 [a0, .int x] [.int x, .ref s0, .int s1, .ref s2] h := Rf_go ((stp_of c59_3).trans rfl)
theorem c59_4 : cd 59 4 = some (4, .invokevirtual 149, 3, [(6, 54)]) := by decide +kernel
theorem xc59_4 {d : Nat} {a0 a1 : Value} {s0 : Int32} {s1 : Nat} {s2 : Int32} {s3 : Nat} {h : AHp} {h1 : AHp} {v : Int32} (hr : cls (h.1 s1) = 6) (hq : Rf d 54 0 [.ref s1, .int s0] [] h = some (some (.int v), h1)) : Rf (d + 1) 59 4 [a0, a1] [.int s0, .ref s1, .int s2, .ref s3] h = Rf (d + 1) 59 7 [a0, a1] [.int v, .int s2, .ref s3] h1 := clV (c := 54) (as := [.int s0]) c59_4 rfl (by simp [isV]) (by rw [hr]; rfl) hq
theorem c59_7 : cd 59 7 = some (7, .aload_n 0, 1, []) := by decide +kernel
theorem x59_7 {d : Nat} {a1 : Value} {s0 : Int32} {s1 : Int32} {s2 : Nat} {x : Nat} {h : AHp} : Rf d 59 7 [.ref x, a1] [.int s0, .int s1, .ref s2] h = Rf d 59 8 [.ref x, a1] [.ref x, .int s0, .int s1, .ref s2] h := Rf_go ((stp_of c59_7).trans rfl)
theorem c59_8 : cd 59 8 = some (8, .iload_n 1, 1, []) := by decide +kernel
theorem x59_8 {d : Nat} {a0 : Value} {s0 : Nat} {s1 : Int32} {s2 : Int32} {s3 : Nat} {x : Int32} {h : AHp} : Rf d 59 8 [a0, .int x] [.ref s0, .int s1, .int s2, .ref s3] h = Rf d 59 9 [a0, .int x] [.int x, .ref s0, .int s1, .int s2, .ref s3] h := Rf_go ((stp_of c59_8).trans rfl)
theorem c59_9 : cd 59 9 = some (9, .invokevirtual 152, 3, [(6, 56)]) := by decide +kernel
theorem xc59_9 {d : Nat} {a0 a1 : Value} {s0 : Int32} {s1 : Nat} {s2 : Int32} {s3 : Int32} {s4 : Nat} {h : AHp} {h1 : AHp} {v : Int32} (hr : cls (h.1 s1) = 6) (hq : Rf d 56 0 [.ref s1, .int s0, noV] [] h = some (some (.int v), h1)) : Rf (d + 1) 59 9 [a0, a1] [.int s0, .ref s1, .int s2, .int s3, .ref s4] h = Rf (d + 1) 59 12 [a0, a1] [.int v, .int s2, .int s3, .ref s4] h1 := clV (c := 56) (as := [.int s0]) c59_9 rfl (by simp [isV]) (by rw [hr]; rfl) hq
theorem c59_12 : cd 59 12 = some (12, .aload_n 0, 1, []) := by decide +kernel
theorem x59_12 {d : Nat} {a1 : Value} {s0 : Int32} {s1 : Int32} {s2 : Int32} {s3 : Nat} {x : Nat} {h : AHp} : Rf d 59 12 [.ref x, a1] [.int s0, .int s1, .int s2, .ref s3] h = Rf d 59 13 [.ref x, a1] [.ref x, .int s0, .int s1, .int s2, .ref s3] h := Rf_go ((stp_of c59_12).trans rfl)
theorem c59_13 : cd 59 13 = some (13, .iload_n 1, 1, []) := by decide +kernel
theorem x59_13 {d : Nat} {a0 : Value} {s0 : Nat} {s1 : Int32} {s2 : Int32} {s3 : Int32} {s4 : Nat} {x : Int32} {h : AHp} : Rf d 59 13 [a0, .int x] [.ref s0, .int s1, .int s2, .int s3, .ref s4] h = Rf d 59 14 [a0, .int x] [.int x, .ref s0, .int s1, .int s2, .int s3, .ref s4] h := Rf_go ((stp_of c59_13).trans rfl)
theorem c59_14 : cd 59 14 = some (14, .invokevirtual 155, 3, [(6, 57)]) := by decide +kernel
theorem xc59_14 {d : Nat} {a0 a1 : Value} {s0 : Int32} {s1 : Nat} {s2 : Int32} {s3 : Int32} {s4 : Int32} {s5 : Nat} {h : AHp} {h1 : AHp} {v : Int32} (hr : cls (h.1 s1) = 6) (hq : Rf d 57 0 [.ref s1, .int s0] [] h = some (some (.int v), h1)) : Rf (d + 1) 59 14 [a0, a1] [.int s0, .ref s1, .int s2, .int s3, .int s4, .ref s5] h = Rf (d + 1) 59 17 [a0, a1] [.int v, .int s2, .int s3, .int s4, .ref s5] h1 := clV (c := 57) (as := [.int s0]) c59_14 rfl (by simp [isV]) (by rw [hr]; rfl) hq
theorem c59_17 : cd 59 17 = some (17, .invokevirtual 158, 3, [(6, 60)]) := by decide +kernel
theorem xc59_17 {d : Nat} {a0 a1 : Value} {s0 : Int32} {s1 : Int32} {s2 : Int32} {s3 : Int32} {s4 : Nat} {h : AHp} {h1 : AHp} {v : Int32} (hr : cls (h.1 s4) = 6) (hq : Rf d 60 0 [.ref s4, .int s3, .int s2, .int s1, .int s0, noV] [] h = some (some (.int v), h1)) : Rf (d + 1) 59 17 [a0, a1] [.int s0, .int s1, .int s2, .int s3, .ref s4] h = Rf (d + 1) 59 20 [a0, a1] [.int v] h1 := clV (c := 60) (as := [.int s3, .int s2, .int s1, .int s0]) c59_17 rfl (by simp [isV]) (by rw [hr]; rfl) hq
theorem c59_20 : cd 59 20 = some (20, .ireturn, 1, []) := by decide +kernel
theorem x59_20 {d : Nat} {a0 a1 : Value} {s0 : Int32} {h : AHp} : Rf d 59 20 [a0, a1] [.int s0] h = some (some (.int s0), h) := Rf_end (by rw [stp_of c59_20]; simp only [stpI]; rw [if_pos (show retI (mH 59).2.2.1 s0 = true from retI_int)])
-- 60: X6_doneFor
theorem c60_0 : cd 60 0 = some (0, .aload_n 0, 1, []) := by decide +kernel
theorem x60_0 {d : Nat} {a1 a2 a3 a4 a5 : Value} {x : Nat} {h : AHp} : Rf d 60 0 [.ref x, a1, a2, a3, a4, a5] [] h = Rf d 60 1 [.ref x, a1, a2, a3, a4, a5] [.ref x] h := Rf_go ((stp_of c60_0).trans rfl)
theorem c60_1 : cd 60 1 = some (1, .iload_n 1, 1, []) := by decide +kernel
theorem x60_1 {d : Nat} {a0 a2 a3 a4 a5 : Value} {s0 : Nat} {x : Int32} {h : AHp} : Rf d 60 1 [a0, .int x, a2, a3, a4, a5] [.ref s0] h = Rf d 60 2 [a0, .int x, a2, a3, a4, a5] [.int x, .ref s0] h := Rf_go ((stp_of c60_1).trans rfl)
theorem c60_2 : cd 60 2 = some (2, .iload_n 2, 1, []) := by decide +kernel
theorem x60_2 {d : Nat} {a0 a1 a3 a4 a5 : Value} {s0 : Int32} {s1 : Nat} {x : Int32} {h : AHp} : Rf d 60 2 [a0, a1, .int x, a3, a4, a5] [.int s0, .ref s1] h = Rf d 60 3 [a0, a1, .int x, a3, a4, a5] [.int x, .int s0, .ref s1] h := Rf_go ((stp_of c60_2).trans rfl)
theorem c60_3 : cd 60 3 = some (3, .invokevirtual 162, 3, [(6, 55)]) := by decide +kernel
theorem xc60_3 {d : Nat} {a0 a1 a2 a3 a4 a5 : Value} {s0 : Int32} {s1 : Int32} {s2 : Nat} {h : AHp} {h1 : AHp} {v : Int32} (hr : cls (h.1 s2) = 6) (hq : Rf d 55 0 [.ref s2, .int s1, .int s0, noV] [] h = some (some (.int v), h1)) : Rf (d + 1) 60 3 [a0, a1, a2, a3, a4, a5] [.int s0, .int s1, .ref s2] h = Rf (d + 1) 60 6 [a0, a1, a2, a3, a4, a5] [.int v] h1 := clV (c := 55) (as := [.int s1, .int s0]) c60_3 rfl (by simp [isV]) (by rw [hr]; rfl) hq
theorem c60_6 : cd 60 6 = some (6, .istore 5, 2, []) := by decide +kernel
theorem x60_6 {d : Nat} {a0 a1 a2 a3 a4 a5 : Value} {s0 : Int32} {h : AHp} : Rf d 60 6 [a0, a1, a2, a3, a4, a5] [.int s0] h = Rf d 60 8 [a0, a1, a2, a3, a4, .int s0] [] h := Rf_go ((stp_of c60_6).trans rfl)
theorem c60_8 : cd 60 8 = some (8, .iload 5, 2, []) := by decide +kernel
theorem x60_8 {d : Nat} {a0 a1 a2 a3 a4 : Value} {x : Int32} {h : AHp} : Rf d 60 8 [a0, a1, a2, a3, a4, .int x] [] h = Rf d 60 10 [a0, a1, a2, a3, a4, .int x] [.int x] h := Rf_go ((stp_of c60_8).trans rfl)
theorem c60_10 : cd 60 10 = some (10, .aload_n 0, 1, []) := by decide +kernel
theorem x60_10 {d : Nat} {a1 a2 a3 a4 a5 : Value} {s0 : Int32} {x : Nat} {h : AHp} : Rf d 60 10 [.ref x, a1, a2, a3, a4, a5] [.int s0] h = Rf d 60 11 [.ref x, a1, a2, a3, a4, a5] [.ref x, .int s0] h := Rf_go ((stp_of c60_10).trans rfl)
theorem c60_11 : cd 60 11 = some (11, .getfield 68, 3, [(6, 11)]) := by decide +kernel
theorem x60_11 {d : Nat} {a0 a1 a2 a3 a4 a5 : Value} {s0 : Nat} {s1 : Int32} {h : AHp} : Rf d 60 11 [a0, a1, a2, a3, a4, a5] [.ref s0, .int s1] h = if cls (h.1 s0) = 6 ∧ oKr (h.1 s0) 11 = true then Rf d 60 14 [a0, a1, a2, a3, a4, a5] [.ref (oR (h.1 s0) 11), .int s1] h else Rx d 60 11 [a0, a1, a2, a3, a4, a5] [.ref s0, .int s1] h := getR c60_11
theorem c60_14 : cd 60 14 = some (14, .getfield 165, 3, [(3, 0)]) := by decide +kernel
theorem x60_14 {d : Nat} {a0 a1 a2 a3 a4 a5 : Value} {s0 : Nat} {s1 : Int32} {h : AHp} : Rf d 60 14 [a0, a1, a2, a3, a4, a5] [.ref s0, .int s1] h = if cls (h.1 s0) = 3 ∧ oKi (h.1 s0) 0 = true then Rf d 60 17 [a0, a1, a2, a3, a4, a5] [.int (oN (h.1 s0) 0), .int s1] h else Rx d 60 14 [a0, a1, a2, a3, a4, a5] [.ref s0, .int s1] h := getI c60_14
theorem c60_17 : cd 60 17 = some (17, .iadd, 1, []) := by decide +kernel
theorem x60_17 {d : Nat} {a0 a1 a2 a3 a4 a5 : Value} {s0 : Int32} {s1 : Int32} {h : AHp} : Rf d 60 17 [a0, a1, a2, a3, a4, a5] [.int s0, .int s1] h = Rf d 60 18 [a0, a1, a2, a3, a4, a5] [.int (s1 + s0)] h := Rf_go ((stp_of c60_17).trans rfl)
theorem c60_18 : cd 60 18 = some (18, .ifCond .ge 15, 3, [(33, 0)]) := by decide +kernel
theorem x60_18 {d : Nat} {a0 a1 a2 a3 a4 a5 : Value} {s0 : Int32} {h : AHp} : Rf d 60 18 [a0, a1, a2, a3, a4, a5] [.int s0] h = if s0 < 0 then Rf d 60 21 [a0, a1, a2, a3, a4, a5] [] h else Rf d 60 33 [a0, a1, a2, a3, a4, a5] [] h := Rf_brn ((stp_of c60_18).trans rfl)
theorem c60_33 : cd 60 33 = some (33, .iload 5, 2, []) := by decide +kernel
theorem x60_33 {d : Nat} {a0 a1 a2 a3 a4 : Value} {x : Int32} {h : AHp} : Rf d 60 33 [a0, a1, a2, a3, a4, .int x] [] h = Rf d 60 35 [a0, a1, a2, a3, a4, .int x] [.int x] h := Rf_go ((stp_of c60_33).trans rfl)
theorem c60_35 : cd 60 35 = some (35, .ifCond .lt 8, 3, [(43, 0)]) := by decide +kernel
theorem x60_35 {d : Nat} {a0 a1 a2 a3 a4 a5 : Value} {s0 : Int32} {h : AHp} : Rf d 60 35 [a0, a1, a2, a3, a4, a5] [.int s0] h = if s0 < 0 then Rf d 60 43 [a0, a1, a2, a3, a4, a5] [] h else Rf d 60 38 [a0, a1, a2, a3, a4, a5] [] h := Rf_brd ((stp_of c60_35).trans rfl)
theorem c60_43 : cd 60 43 = some (43, .iconst 1, 1, []) := by decide +kernel
theorem x60_43 {d : Nat} {a0 a1 a2 a3 a4 a5 : Value} {h : AHp} : Rf d 60 43 [a0, a1, a2, a3, a4, a5] [] h = Rf d 60 44 [a0, a1, a2, a3, a4, a5] [.int 1] h := Rf_go ((stp_of c60_43).trans rfl)
theorem c60_44 : cd 60 44 = some (44, .goto 4, 3, [(48, 0)]) := by decide +kernel
theorem x60_44 {d : Nat} {a0 a1 a2 a3 a4 a5 : Value} {s0 : Int32} {h : AHp} : Rf d 60 44 [a0, a1, a2, a3, a4, a5] [.int s0] h = Rf d 60 48 [a0, a1, a2, a3, a4, a5] [.int s0] h := Rf_go ((stp_of c60_44).trans rfl)
theorem c60_48 : cd 60 48 = some (48, .ireturn, 1, []) := by decide +kernel
theorem x60_48 {d : Nat} {a0 a1 a2 a3 a4 a5 : Value} {s0 : Int32} {h : AHp} : Rf d 60 48 [a0, a1, a2, a3, a4, a5] [.int s0] h = some (some (.int s0), h) := Rf_end (by rw [stp_of c60_48]; simp only [stpI]; rw [if_pos (show retI (mH 60).2.2.1 s0 = true from retI_int)])
theorem c60_38 : cd 60 38 = some (38, .iload 4, 2, []) := by decide +kernel
theorem x60_38 {d : Nat} {a0 a1 a2 a3 a5 : Value} {x : Int32} {h : AHp} : Rf d 60 38 [a0, a1, a2, a3, .int x, a5] [] h = Rf d 60 40 [a0, a1, a2, a3, .int x, a5] [.int x] h := Rf_go ((stp_of c60_38).trans rfl)
theorem c60_40 : cd 60 40 = some (40, .ifCond .le 7, 3, [(47, 0)]) := by decide +kernel
theorem x60_40 {d : Nat} {a0 a1 a2 a3 a4 a5 : Value} {s0 : Int32} {h : AHp} : Rf d 60 40 [a0, a1, a2, a3, a4, a5] [.int s0] h = if 0 < s0 then Rf d 60 43 [a0, a1, a2, a3, a4, a5] [] h else Rf d 60 47 [a0, a1, a2, a3, a4, a5] [] h := Rf_brn ((stp_of c60_40).trans rfl)
theorem c60_47 : cd 60 47 = some (47, .iconst 0, 1, []) := by decide +kernel
theorem x60_47 {d : Nat} {a0 a1 a2 a3 a4 a5 : Value} {h : AHp} : Rf d 60 47 [a0, a1, a2, a3, a4, a5] [] h = Rf d 60 48 [a0, a1, a2, a3, a4, a5] [.int 0] h := Rf_go ((stp_of c60_47).trans rfl)
theorem c60_21 : cd 60 21 = some (21, .iload_n 3, 1, []) := by decide +kernel
theorem x60_21 {d : Nat} {a0 a1 a2 a4 a5 : Value} {x : Int32} {h : AHp} : Rf d 60 21 [a0, a1, a2, .int x, a4, a5] [] h = Rf d 60 22 [a0, a1, a2, .int x, a4, a5] [.int x] h := Rf_go ((stp_of c60_21).trans rfl)
theorem c60_22 : cd 60 22 = some (22, .aload_n 0, 1, []) := by decide +kernel
theorem x60_22 {d : Nat} {a1 a2 a3 a4 a5 : Value} {s0 : Int32} {x : Nat} {h : AHp} : Rf d 60 22 [.ref x, a1, a2, a3, a4, a5] [.int s0] h = Rf d 60 23 [.ref x, a1, a2, a3, a4, a5] [.ref x, .int s0] h := Rf_go ((stp_of c60_22).trans rfl)
theorem c60_23 : cd 60 23 = some (23, .getfield 18, 3, [(6, 3)]) := by decide +kernel
theorem x60_23 {d : Nat} {a0 a1 a2 a3 a4 a5 : Value} {s0 : Nat} {s1 : Int32} {h : AHp} : Rf d 60 23 [a0, a1, a2, a3, a4, a5] [.ref s0, .int s1] h = if cls (h.1 s0) = 6 ∧ oKr (h.1 s0) 3 = true then Rf d 60 26 [a0, a1, a2, a3, a4, a5] [.ref (oR (h.1 s0) 3), .int s1] h else Rx d 60 23 [a0, a1, a2, a3, a4, a5] [.ref s0, .int s1] h := getR c60_23
theorem c60_26 : cd 60 26 = some (26, .iload_n 1, 1, []) := by decide +kernel
theorem x60_26 {d : Nat} {a0 a2 a3 a4 a5 : Value} {s0 : Nat} {s1 : Int32} {x : Int32} {h : AHp} : Rf d 60 26 [a0, .int x, a2, a3, a4, a5] [.ref s0, .int s1] h = Rf d 60 27 [a0, .int x, a2, a3, a4, a5] [.int x, .ref s0, .int s1] h := Rf_go ((stp_of c60_26).trans rfl)
theorem c60_27 : cd 60 27 = some (27, .iaload, 1, []) := by decide +kernel
theorem x60_27 {d : Nat} {a0 a1 a2 a3 a4 a5 : Value} {s0 : Int32} {s1 : Nat} {s2 : Int32} {h : AHp} : Rf d 60 27 [a0, a1, a2, a3, a4, a5] [.int s0, .ref s1, .int s2] h = if (aT (h.1 s1) = 0 ∨ aT (h.1 s1) = 10) ∧ inB s0 (aN (h.1 s1)) = true then Rf d 60 28 [a0, a1, a2, a3, a4, a5] [.int (aF (h.1 s1) s0.toNatClampNeg), .int s2] h else Rx d 60 27 [a0, a1, a2, a3, a4, a5] [.int s0, .ref s1, .int s2] h := ldI c60_27
theorem c60_28 : cd 60 28 = some (28, .if_icmp .le 5, 3, [(33, 0)]) := by decide +kernel
theorem x60_28 {d : Nat} {a0 a1 a2 a3 a4 a5 : Value} {s0 : Int32} {s1 : Int32} {h : AHp} : Rf d 60 28 [a0, a1, a2, a3, a4, a5] [.int s0, .int s1] h = if s0 < s1 then Rf d 60 31 [a0, a1, a2, a3, a4, a5] [] h else Rf d 60 33 [a0, a1, a2, a3, a4, a5] [] h := Rf_brn ((stp_of c60_28).trans rfl)
theorem c60_31 : cd 60 31 = some (31, .iconst 2, 1, []) := by decide +kernel
theorem x60_31 {d : Nat} {a0 a1 a2 a3 a4 a5 : Value} {h : AHp} : Rf d 60 31 [a0, a1, a2, a3, a4, a5] [] h = Rf d 60 32 [a0, a1, a2, a3, a4, a5] [.int 2] h := Rf_go ((stp_of c60_31).trans rfl)
theorem c60_32 : cd 60 32 = some (32, .ireturn, 1, []) := by decide +kernel
theorem x60_32 {d : Nat} {a0 a1 a2 a3 a4 a5 : Value} {s0 : Int32} {h : AHp} : Rf d 60 32 [a0, a1, a2, a3, a4, a5] [.int s0] h = some (some (.int s0), h) := Rf_end (by rw [stp_of c60_32]; simp only [stpI]; rw [if_pos (show retI (mH 60).2.2.1 s0 = true from retI_int)])
-- 61: X6_goYear
theorem c61_0 : cd 61 0 = some (0, .iconst 0, 1, []) := by decide +kernel
theorem x61_0 {d : Nat} {a0 a1 a2 a3 a4 : Value} {h : AHp} : Rf d 61 0 [a0, a1, a2, a3, a4] [] h = Rf d 61 1 [a0, a1, a2, a3, a4] [.int 0] h := Rf_go ((stp_of c61_0).trans rfl)
theorem c61_1 : cd 61 1 = some (1, .istore_n 1, 1, []) := by decide +kernel
theorem x61_1 {d : Nat} {a0 a1 a2 a3 a4 : Value} {s0 : Int32} {h : AHp} : Rf d 61 1 [a0, a1, a2, a3, a4] [.int s0] h = Rf d 61 2 [a0, .int s0, a2, a3, a4] [] h := Rf_go ((stp_of c61_1).trans rfl)
theorem c61_2 : cd 61 2 = some (2, .iload_n 1, 1, []) := by decide +kernel
theorem x61_2 {d : Nat} {a0 a2 a3 a4 : Value} {x : Int32} {h : AHp} : Rf d 61 2 [a0, .int x, a2, a3, a4] [] h = Rf d 61 3 [a0, .int x, a2, a3, a4] [.int x] h := Rf_go ((stp_of c61_2).trans rfl)
theorem c61_3 : cd 61 3 = some (3, .aload_n 0, 1, []) := by decide +kernel
theorem x61_3 {d : Nat} {a1 a2 a3 a4 : Value} {s0 : Int32} {x : Nat} {h : AHp} : Rf d 61 3 [.ref x, a1, a2, a3, a4] [.int s0] h = Rf d 61 4 [.ref x, a1, a2, a3, a4] [.ref x, .int s0] h := Rf_go ((stp_of c61_3).trans rfl)
theorem c61_4 : cd 61 4 = some (4, .getfield 72, 3, [(6, 0)]) := by decide +kernel
theorem x61_4 {d : Nat} {a0 a1 a2 a3 a4 : Value} {s0 : Nat} {s1 : Int32} {h : AHp} : Rf d 61 4 [a0, a1, a2, a3, a4] [.ref s0, .int s1] h = if cls (h.1 s0) = 6 ∧ oKi (h.1 s0) 0 = true then Rf d 61 7 [a0, a1, a2, a3, a4] [.int (oN (h.1 s0) 0), .int s1] h else Rx d 61 4 [a0, a1, a2, a3, a4] [.ref s0, .int s1] h := getI c61_4
theorem c61_7 : cd 61 7 = some (7, .if_icmp .ge 67, 3, [(74, 0)]) := by decide +kernel
theorem x61_7 {d : Nat} {a0 a1 a2 a3 a4 : Value} {s0 : Int32} {s1 : Int32} {h : AHp} : Rf d 61 7 [a0, a1, a2, a3, a4] [.int s0, .int s1] h = if s1 < s0 then Rf d 61 10 [a0, a1, a2, a3, a4] [] h else Rf d 61 74 [a0, a1, a2, a3, a4] [] h := Rf_brn ((stp_of c61_7).trans rfl)
theorem c61_74 : cd 61 74 = some (74, .iconst 0, 1, []) := by decide +kernel
theorem x61_74 {d : Nat} {a0 a1 a2 a3 a4 : Value} {h : AHp} : Rf d 61 74 [a0, a1, a2, a3, a4] [] h = Rf d 61 75 [a0, a1, a2, a3, a4] [.int 0] h := Rf_go ((stp_of c61_74).trans rfl)
theorem c61_75 : cd 61 75 = some (75, .istore_n 1, 1, []) := by decide +kernel
theorem x61_75 {d : Nat} {a0 a1 a2 a3 a4 : Value} {s0 : Int32} {h : AHp} : Rf d 61 75 [a0, a1, a2, a3, a4] [.int s0] h = Rf d 61 76 [a0, .int s0, a2, a3, a4] [] h := Rf_go ((stp_of c61_75).trans rfl)
theorem c61_76 : cd 61 76 = some (76, .iconst 0, 1, []) := by decide +kernel
theorem x61_76 {d : Nat} {a0 a1 a2 a3 a4 : Value} {h : AHp} : Rf d 61 76 [a0, a1, a2, a3, a4] [] h = Rf d 61 77 [a0, a1, a2, a3, a4] [.int 0] h := Rf_go ((stp_of c61_76).trans rfl)
theorem c61_77 : cd 61 77 = some (77, .istore_n 2, 1, []) := by decide +kernel
theorem x61_77 {d : Nat} {a0 a1 a2 a3 a4 : Value} {s0 : Int32} {h : AHp} : Rf d 61 77 [a0, a1, a2, a3, a4] [.int s0] h = Rf d 61 78 [a0, a1, .int s0, a3, a4] [] h := Rf_go ((stp_of c61_77).trans rfl)
theorem c61_78 : cd 61 78 = some (78, .iload_n 2, 1, []) := by decide +kernel
theorem x61_78 {d : Nat} {a0 a1 a3 a4 : Value} {x : Int32} {h : AHp} : Rf d 61 78 [a0, a1, .int x, a3, a4] [] h = Rf d 61 79 [a0, a1, .int x, a3, a4] [.int x] h := Rf_go ((stp_of c61_78).trans rfl)
theorem c61_79 : cd 61 79 = some (79, .aload_n 0, 1, []) := by decide +kernel
theorem x61_79 {d : Nat} {a1 a2 a3 a4 : Value} {s0 : Int32} {x : Nat} {h : AHp} : Rf d 61 79 [.ref x, a1, a2, a3, a4] [.int s0] h = Rf d 61 80 [.ref x, a1, a2, a3, a4] [.ref x, .int s0] h := Rf_go ((stp_of c61_79).trans rfl)
theorem c61_80 : cd 61 80 = some (80, .getfield 72, 3, [(6, 0)]) := by decide +kernel
theorem x61_80 {d : Nat} {a0 a1 a2 a3 a4 : Value} {s0 : Nat} {s1 : Int32} {h : AHp} : Rf d 61 80 [a0, a1, a2, a3, a4] [.ref s0, .int s1] h = if cls (h.1 s0) = 6 ∧ oKi (h.1 s0) 0 = true then Rf d 61 83 [a0, a1, a2, a3, a4] [.int (oN (h.1 s0) 0), .int s1] h else Rx d 61 80 [a0, a1, a2, a3, a4] [.ref s0, .int s1] h := getI c61_80
theorem c61_83 : cd 61 83 = some (83, .if_icmp .ge 41, 3, [(124, 0)]) := by decide +kernel
theorem x61_83 {d : Nat} {a0 a1 a2 a3 a4 : Value} {s0 : Int32} {s1 : Int32} {h : AHp} : Rf d 61 83 [a0, a1, a2, a3, a4] [.int s0, .int s1] h = if s1 < s0 then Rf d 61 86 [a0, a1, a2, a3, a4] [] h else Rf d 61 124 [a0, a1, a2, a3, a4] [] h := Rf_brn ((stp_of c61_83).trans rfl)
theorem c61_124 : cd 61 124 = some (124, .aload_n 0, 1, []) := by decide +kernel
theorem x61_124 {d : Nat} {a1 a2 a3 a4 : Value} {x : Nat} {h : AHp} : Rf d 61 124 [.ref x, a1, a2, a3, a4] [] h = Rf d 61 125 [.ref x, a1, a2, a3, a4] [.ref x] h := Rf_go ((stp_of c61_124).trans rfl)
theorem c61_125 : cd 61 125 = some (125, .dup, 1, []) := by decide +kernel
theorem x61_125 {d : Nat} {a0 a1 a2 a3 a4 : Value} {s0 : Nat} {h : AHp} : Rf d 61 125 [a0, a1, a2, a3, a4] [.ref s0] h = Rf d 61 126 [a0, a1, a2, a3, a4] [.ref s0, .ref s0] h := Rf_go ((stp_of c61_125).trans rfl)
theorem c61_126 : cd 61 126 = some (126, .getfield 83, 3, [(6, 9)]) := by decide +kernel
theorem x61_126 {d : Nat} {a0 a1 a2 a3 a4 : Value} {s0 : Nat} {s1 : Nat} {h : AHp} : Rf d 61 126 [a0, a1, a2, a3, a4] [.ref s0, .ref s1] h = if cls (h.1 s0) = 6 ∧ oKi (h.1 s0) 9 = true then Rf d 61 129 [a0, a1, a2, a3, a4] [.int (oN (h.1 s0) 9), .ref s1] h else Rx d 61 126 [a0, a1, a2, a3, a4] [.ref s0, .ref s1] h := getI c61_126
theorem c61_129 : cd 61 129 = some (129, .iconst 1, 1, []) := by decide +kernel
theorem x61_129 {d : Nat} {a0 a1 a2 a3 a4 : Value} {s0 : Int32} {s1 : Nat} {h : AHp} : Rf d 61 129 [a0, a1, a2, a3, a4] [.int s0, .ref s1] h = Rf d 61 130 [a0, a1, a2, a3, a4] [.int 1, .int s0, .ref s1] h := Rf_go ((stp_of c61_129).trans rfl)
theorem c61_130 : cd 61 130 = some (130, .iadd, 1, []) := by decide +kernel
theorem x61_130 {d : Nat} {a0 a1 a2 a3 a4 : Value} {s0 : Int32} {s1 : Int32} {s2 : Nat} {h : AHp} : Rf d 61 130 [a0, a1, a2, a3, a4] [.int s0, .int s1, .ref s2] h = Rf d 61 131 [a0, a1, a2, a3, a4] [.int (s1 + s0), .ref s2] h := Rf_go ((stp_of c61_130).trans rfl)
theorem c61_131 : cd 61 131 = some (131, .putfield 83, 3, [(6, 9)]) := by decide +kernel
theorem x61_131 {d : Nat} {a0 a1 a2 a3 a4 : Value} {s0 : Int32} {s1 : Nat} {h : AHp} : Rf d 61 131 [a0, a1, a2, a3, a4] [.int s0, .ref s1] h = if cls (h.1 s1) = 6 ∧ oL (h.1 s1) = 15 then Rf d 61 134 [a0, a1, a2, a3, a4] [] (hset h s1 (oSet (h.1 s1) 9 (.int s0))) else Rx d 61 131 [a0, a1, a2, a3, a4] [.int s0, .ref s1] h := putV c61_131 rfl (fMay_i (by decide +kernel))
theorem c61_134 : cd 61 134 = some (134, .iload_n 1, 1, []) := by decide +kernel
theorem x61_134 {d : Nat} {a0 a2 a3 a4 : Value} {x : Int32} {h : AHp} : Rf d 61 134 [a0, .int x, a2, a3, a4] [] h = Rf d 61 135 [a0, .int x, a2, a3, a4] [.int x] h := Rf_go ((stp_of c61_134).trans rfl)
theorem c61_135 : cd 61 135 = some (135, .ireturn, 1, []) := by decide +kernel
theorem x61_135 {d : Nat} {a0 a1 a2 a3 a4 : Value} {s0 : Int32} {h : AHp} : Rf d 61 135 [a0, a1, a2, a3, a4] [.int s0] h = some (some (.int s0), h) := Rf_end (by rw [stp_of c61_135]; simp only [stpI]; rw [if_pos (show retI (mH 61).2.2.1 s0 = true from retI_int)])
theorem c61_86 : cd 61 86 = some (86, .aload_n 0, 1, []) := by decide +kernel
theorem x61_86 {d : Nat} {a1 a2 a3 a4 : Value} {x : Nat} {h : AHp} : Rf d 61 86 [.ref x, a1, a2, a3, a4] [] h = Rf d 61 87 [.ref x, a1, a2, a3, a4] [.ref x] h := Rf_go ((stp_of c61_86).trans rfl)
theorem c61_87 : cd 61 87 = some (87, .getfield 18, 3, [(6, 3)]) := by decide +kernel
theorem x61_87 {d : Nat} {a0 a1 a2 a3 a4 : Value} {s0 : Nat} {h : AHp} : Rf d 61 87 [a0, a1, a2, a3, a4] [.ref s0] h = if cls (h.1 s0) = 6 ∧ oKr (h.1 s0) 3 = true then Rf d 61 90 [a0, a1, a2, a3, a4] [.ref (oR (h.1 s0) 3)] h else Rx d 61 87 [a0, a1, a2, a3, a4] [.ref s0] h := getR c61_87
theorem c61_90 : cd 61 90 = some (90, .iload_n 2, 1, []) := by decide +kernel
theorem x61_90 {d : Nat} {a0 a1 a3 a4 : Value} {s0 : Nat} {x : Int32} {h : AHp} : Rf d 61 90 [a0, a1, .int x, a3, a4] [.ref s0] h = Rf d 61 91 [a0, a1, .int x, a3, a4] [.int x, .ref s0] h := Rf_go ((stp_of c61_90).trans rfl)
theorem c61_91 : cd 61 91 = some (91, .aload_n 0, 1, []) := by decide +kernel
theorem x61_91 {d : Nat} {a1 a2 a3 a4 : Value} {s0 : Int32} {s1 : Nat} {x : Nat} {h : AHp} : Rf d 61 91 [.ref x, a1, a2, a3, a4] [.int s0, .ref s1] h = Rf d 61 92 [.ref x, a1, a2, a3, a4] [.ref x, .int s0, .ref s1] h := Rf_go ((stp_of c61_91).trans rfl)
theorem c61_92 : cd 61 92 = some (92, .getfield 47, 3, [(6, 13)]) := by decide +kernel
theorem x61_92 {d : Nat} {a0 a1 a2 a3 a4 : Value} {s0 : Nat} {s1 : Int32} {s2 : Nat} {h : AHp} : Rf d 61 92 [a0, a1, a2, a3, a4] [.ref s0, .int s1, .ref s2] h = if cls (h.1 s0) = 6 ∧ oKr (h.1 s0) 13 = true then Rf d 61 95 [a0, a1, a2, a3, a4] [.ref (oR (h.1 s0) 13), .int s1, .ref s2] h else Rx d 61 92 [a0, a1, a2, a3, a4] [.ref s0, .int s1, .ref s2] h := getR c61_92
theorem c61_95 : cd 61 95 = some (95, .iload_n 2, 1, []) := by decide +kernel
theorem x61_95 {d : Nat} {a0 a1 a3 a4 : Value} {s0 : Nat} {s1 : Int32} {s2 : Nat} {x : Int32} {h : AHp} : Rf d 61 95 [a0, a1, .int x, a3, a4] [.ref s0, .int s1, .ref s2] h = Rf d 61 96 [a0, a1, .int x, a3, a4] [.int x, .ref s0, .int s1, .ref s2] h := Rf_go ((stp_of c61_95).trans rfl)
theorem c61_96 : cd 61 96 = some (96, .iaload, 1, []) := by decide +kernel
theorem x61_96 {d : Nat} {a0 a1 a2 a3 a4 : Value} {s0 : Int32} {s1 : Nat} {s2 : Int32} {s3 : Nat} {h : AHp} : Rf d 61 96 [a0, a1, a2, a3, a4] [.int s0, .ref s1, .int s2, .ref s3] h = if (aT (h.1 s1) = 0 ∨ aT (h.1 s1) = 10) ∧ inB s0 (aN (h.1 s1)) = true then Rf d 61 97 [a0, a1, a2, a3, a4] [.int (aF (h.1 s1) s0.toNatClampNeg), .int s2, .ref s3] h else Rx d 61 96 [a0, a1, a2, a3, a4] [.int s0, .ref s1, .int s2, .ref s3] h := ldI c61_96
theorem c61_97 : cd 61 97 = some (97, .iastore, 1, []) := by decide +kernel
theorem x61_97 {d : Nat} {a0 a1 a2 a3 a4 : Value} {s0 : Int32} {s1 : Int32} {s2 : Nat} {h : AHp} : Rf d 61 97 [a0, a1, a2, a3, a4] [.int s0, .int s1, .ref s2] h = if aT (h.1 s2) = 0 ∧ inB s1 (aN (h.1 s2)) = true then Rf d 61 98 [a0, a1, a2, a3, a4] [] (hset h s2 (.inl (0, aN (h.1 s2), .inl (upd (aF (h.1 s2)) s1.toNatClampNeg s0)))) else Rx d 61 97 [a0, a1, a2, a3, a4] [.int s0, .int s1, .ref s2] h := stI c61_97
theorem c61_98 : cd 61 98 = some (98, .aload_n 0, 1, []) := by decide +kernel
theorem x61_98 {d : Nat} {a1 a2 a3 a4 : Value} {x : Nat} {h : AHp} : Rf d 61 98 [.ref x, a1, a2, a3, a4] [] h = Rf d 61 99 [.ref x, a1, a2, a3, a4] [.ref x] h := Rf_go ((stp_of c61_98).trans rfl)
theorem c61_99 : cd 61 99 = some (99, .getfield 50, 3, [(6, 14)]) := by decide +kernel
theorem x61_99 {d : Nat} {a0 a1 a2 a3 a4 : Value} {s0 : Nat} {h : AHp} : Rf d 61 99 [a0, a1, a2, a3, a4] [.ref s0] h = if cls (h.1 s0) = 6 ∧ oKr (h.1 s0) 14 = true then Rf d 61 102 [a0, a1, a2, a3, a4] [.ref (oR (h.1 s0) 14)] h else Rx d 61 99 [a0, a1, a2, a3, a4] [.ref s0] h := getR c61_99
theorem c61_102 : cd 61 102 = some (102, .iload_n 2, 1, []) := by decide +kernel
theorem x61_102 {d : Nat} {a0 a1 a3 a4 : Value} {s0 : Nat} {x : Int32} {h : AHp} : Rf d 61 102 [a0, a1, .int x, a3, a4] [.ref s0] h = Rf d 61 103 [a0, a1, .int x, a3, a4] [.int x, .ref s0] h := Rf_go ((stp_of c61_102).trans rfl)
theorem c61_103 : cd 61 103 = some (103, .baload, 1, []) := by decide +kernel
theorem x61_103 {d : Nat} {a0 a1 a2 a3 a4 : Value} {s0 : Int32} {s1 : Nat} {h : AHp} : Rf d 61 103 [a0, a1, a2, a3, a4] [.int s0, .ref s1] h = if (aT (h.1 s1) = 1 ∨ aT (h.1 s1) = 2 ∨ aT (h.1 s1) = 11) ∧ inB s0 (aN (h.1 s1)) = true then Rf d 61 104 [a0, a1, a2, a3, a4] [.int (aF (h.1 s1) s0.toNatClampNeg)] h else Rx d 61 103 [a0, a1, a2, a3, a4] [.int s0, .ref s1] h := ldB c61_103
theorem c61_104 : cd 61 104 = some (104, .ifCond .eq 14, 3, [(118, 0)]) := by decide +kernel
theorem x61_104 {d : Nat} {a0 a1 a2 a3 a4 : Value} {s0 : Int32} {h : AHp} : Rf d 61 104 [a0, a1, a2, a3, a4] [.int s0] h = if s0 = 0 then Rf d 61 118 [a0, a1, a2, a3, a4] [] h else Rf d 61 107 [a0, a1, a2, a3, a4] [] h := Rf_brd ((stp_of c61_104).trans rfl)
theorem c61_118 : cd 61 118 = some (118, .iinc 2 1, 3, []) := by decide +kernel
theorem x61_118 {d : Nat} {a0 a1 a3 a4 : Value} {x : Int32} {h : AHp} : Rf d 61 118 [a0, a1, .int x, a3, a4] [] h = Rf d 61 121 [a0, a1, .int (x + 1), a3, a4] [] h := Rf_go ((stp_of c61_118).trans rfl)
theorem c61_121 : cd 61 121 = some (121, .goto (-43), 3, [(78, 0)]) := by decide +kernel
theorem x61_121 {d : Nat} {a0 a1 a2 a3 a4 : Value} {h : AHp} : Rf d 61 121 [a0, a1, a2, a3, a4] [] h = Rf d 61 78 [a0, a1, a2, a3, a4] [] h := Rf_go ((stp_of c61_121).trans rfl)
theorem c61_107 : cd 61 107 = some (107, .aload_n 0, 1, []) := by decide +kernel
theorem x61_107 {d : Nat} {a1 a2 a3 a4 : Value} {x : Nat} {h : AHp} : Rf d 61 107 [.ref x, a1, a2, a3, a4] [] h = Rf d 61 108 [.ref x, a1, a2, a3, a4] [.ref x] h := Rf_go ((stp_of c61_107).trans rfl)
theorem c61_108 : cd 61 108 = some (108, .getfield 27, 3, [(6, 6)]) := by decide +kernel
theorem x61_108 {d : Nat} {a0 a1 a2 a3 a4 : Value} {s0 : Nat} {h : AHp} : Rf d 61 108 [a0, a1, a2, a3, a4] [.ref s0] h = if cls (h.1 s0) = 6 ∧ oKr (h.1 s0) 6 = true then Rf d 61 111 [a0, a1, a2, a3, a4] [.ref (oR (h.1 s0) 6)] h else Rx d 61 108 [a0, a1, a2, a3, a4] [.ref s0] h := getR c61_108
theorem c61_111 : cd 61 111 = some (111, .iload_n 2, 1, []) := by decide +kernel
theorem x61_111 {d : Nat} {a0 a1 a3 a4 : Value} {s0 : Nat} {x : Int32} {h : AHp} : Rf d 61 111 [a0, a1, .int x, a3, a4] [.ref s0] h = Rf d 61 112 [a0, a1, .int x, a3, a4] [.int x, .ref s0] h := Rf_go ((stp_of c61_111).trans rfl)
theorem c61_112 : cd 61 112 = some (112, .bipush (-5), 2, []) := by decide +kernel
theorem x61_112 {d : Nat} {a0 a1 a2 a3 a4 : Value} {s0 : Int32} {s1 : Nat} {h : AHp} : Rf d 61 112 [a0, a1, a2, a3, a4] [.int s0, .ref s1] h = Rf d 61 114 [a0, a1, a2, a3, a4] [.int (-5), .int s0, .ref s1] h := Rf_go ((stp_of c61_112).trans rfl)
theorem c61_114 : cd 61 114 = some (114, .iastore, 1, []) := by decide +kernel
theorem x61_114 {d : Nat} {a0 a1 a2 a3 a4 : Value} {s0 : Int32} {s1 : Int32} {s2 : Nat} {h : AHp} : Rf d 61 114 [a0, a1, a2, a3, a4] [.int s0, .int s1, .ref s2] h = if aT (h.1 s2) = 0 ∧ inB s1 (aN (h.1 s2)) = true then Rf d 61 115 [a0, a1, a2, a3, a4] [] (hset h s2 (.inl (0, aN (h.1 s2), .inl (upd (aF (h.1 s2)) s1.toNatClampNeg s0)))) else Rx d 61 114 [a0, a1, a2, a3, a4] [.int s0, .int s1, .ref s2] h := stI c61_114
theorem c61_115 : cd 61 115 = some (115, .iinc 1 1, 3, []) := by decide +kernel
theorem x61_115 {d : Nat} {a0 a2 a3 a4 : Value} {x : Int32} {h : AHp} : Rf d 61 115 [a0, .int x, a2, a3, a4] [] h = Rf d 61 118 [a0, .int (x + 1), a2, a3, a4] [] h := Rf_go ((stp_of c61_115).trans rfl)
theorem c61_10 : cd 61 10 = some (10, .aload_n 0, 1, []) := by decide +kernel
theorem x61_10 {d : Nat} {a1 a2 a3 a4 : Value} {x : Nat} {h : AHp} : Rf d 61 10 [.ref x, a1, a2, a3, a4] [] h = Rf d 61 11 [.ref x, a1, a2, a3, a4] [.ref x] h := Rf_go ((stp_of c61_10).trans rfl)
theorem c61_11 : cd 61 11 = some (11, .iload_n 1, 1, []) := by decide +kernel
theorem x61_11 {d : Nat} {a0 a2 a3 a4 : Value} {s0 : Nat} {x : Int32} {h : AHp} : Rf d 61 11 [a0, .int x, a2, a3, a4] [.ref s0] h = Rf d 61 12 [a0, .int x, a2, a3, a4] [.int x, .ref s0] h := Rf_go ((stp_of c61_11).trans rfl)
theorem c61_12 : cd 61 12 = some (12, .invokevirtual 152, 3, [(6, 56)]) := by decide +kernel
theorem xc61_12 {d : Nat} {a0 a1 a2 a3 a4 : Value} {s0 : Int32} {s1 : Nat} {h : AHp} {h1 : AHp} {v : Int32} (hr : cls (h.1 s1) = 6) (hq : Rf d 56 0 [.ref s1, .int s0, noV] [] h = some (some (.int v), h1)) : Rf (d + 1) 61 12 [a0, a1, a2, a3, a4] [.int s0, .ref s1] h = Rf (d + 1) 61 15 [a0, a1, a2, a3, a4] [.int v] h1 := clV (c := 56) (as := [.int s0]) c61_12 rfl (by simp [isV]) (by rw [hr]; rfl) hq
theorem c61_15 : cd 61 15 = some (15, .istore_n 2, 1, []) := by decide +kernel
theorem x61_15 {d : Nat} {a0 a1 a2 a3 a4 : Value} {s0 : Int32} {h : AHp} : Rf d 61 15 [a0, a1, a2, a3, a4] [.int s0] h = Rf d 61 16 [a0, a1, .int s0, a3, a4] [] h := Rf_go ((stp_of c61_15).trans rfl)
theorem c61_16 : cd 61 16 = some (16, .aload_n 0, 1, []) := by decide +kernel
theorem x61_16 {d : Nat} {a1 a2 a3 a4 : Value} {x : Nat} {h : AHp} : Rf d 61 16 [.ref x, a1, a2, a3, a4] [] h = Rf d 61 17 [.ref x, a1, a2, a3, a4] [.ref x] h := Rf_go ((stp_of c61_16).trans rfl)
theorem c61_17 : cd 61 17 = some (17, .iload_n 1, 1, []) := by decide +kernel
theorem x61_17 {d : Nat} {a0 a2 a3 a4 : Value} {s0 : Nat} {x : Int32} {h : AHp} : Rf d 61 17 [a0, .int x, a2, a3, a4] [.ref s0] h = Rf d 61 18 [a0, .int x, a2, a3, a4] [.int x, .ref s0] h := Rf_go ((stp_of c61_17).trans rfl)
theorem c61_18 : cd 61 18 = some (18, .invokevirtual 155, 3, [(6, 57)]) := by decide +kernel
theorem xc61_18 {d : Nat} {a0 a1 a2 a3 a4 : Value} {s0 : Int32} {s1 : Nat} {h : AHp} {h1 : AHp} {v : Int32} (hr : cls (h.1 s1) = 6) (hq : Rf d 57 0 [.ref s1, .int s0] [] h = some (some (.int v), h1)) : Rf (d + 1) 61 18 [a0, a1, a2, a3, a4] [.int s0, .ref s1] h = Rf (d + 1) 61 21 [a0, a1, a2, a3, a4] [.int v] h1 := clV (c := 57) (as := [.int s0]) c61_18 rfl (by simp [isV]) (by rw [hr]; rfl) hq
theorem c61_21 : cd 61 21 = some (21, .istore_n 3, 1, []) := by decide +kernel
theorem x61_21 {d : Nat} {a0 a1 a2 a3 a4 : Value} {s0 : Int32} {h : AHp} : Rf d 61 21 [a0, a1, a2, a3, a4] [.int s0] h = Rf d 61 22 [a0, a1, a2, .int s0, a4] [] h := Rf_go ((stp_of c61_21).trans rfl)
theorem c61_22 : cd 61 22 = some (22, .aload_n 0, 1, []) := by decide +kernel
theorem x61_22 {d : Nat} {a1 a2 a3 a4 : Value} {x : Nat} {h : AHp} : Rf d 61 22 [.ref x, a1, a2, a3, a4] [] h = Rf d 61 23 [.ref x, a1, a2, a3, a4] [.ref x] h := Rf_go ((stp_of c61_22).trans rfl)
theorem c61_23 : cd 61 23 = some (23, .iload_n 1, 1, []) := by decide +kernel
theorem x61_23 {d : Nat} {a0 a2 a3 a4 : Value} {s0 : Nat} {x : Int32} {h : AHp} : Rf d 61 23 [a0, .int x, a2, a3, a4] [.ref s0] h = Rf d 61 24 [a0, .int x, a2, a3, a4] [.int x, .ref s0] h := Rf_go ((stp_of c61_23).trans rfl)
theorem c61_24 : cd 61 24 = some (24, .aload_n 0, 1, []) := by decide +kernel
theorem x61_24 {d : Nat} {a1 a2 a3 a4 : Value} {s0 : Int32} {s1 : Nat} {x : Nat} {h : AHp} : Rf d 61 24 [.ref x, a1, a2, a3, a4] [.int s0, .ref s1] h = Rf d 61 25 [.ref x, a1, a2, a3, a4] [.ref x, .int s0, .ref s1] h := Rf_go ((stp_of c61_24).trans rfl)
theorem c61_25 : cd 61 25 = some (25, .iload_n 1, 1, []) := by decide +kernel
theorem x61_25 {d : Nat} {a0 a2 a3 a4 : Value} {s0 : Nat} {s1 : Int32} {s2 : Nat} {x : Int32} {h : AHp} : Rf d 61 25 [a0, .int x, a2, a3, a4] [.ref s0, .int s1, .ref s2] h = Rf d 61 26 [a0, .int x, a2, a3, a4] [.int x, .ref s0, .int s1, .ref s2] h := Rf_go ((stp_of c61_25).trans rfl)
theorem c61_26 : cd 61 26 = some (26, .invokevirtual 149, 3, [(6, 54)]) := by decide +kernel
theorem xc61_26 {d : Nat} {a0 a1 a2 a3 a4 : Value} {s0 : Int32} {s1 : Nat} {s2 : Int32} {s3 : Nat} {h : AHp} {h1 : AHp} {v : Int32} (hr : cls (h.1 s1) = 6) (hq : Rf d 54 0 [.ref s1, .int s0] [] h = some (some (.int v), h1)) : Rf (d + 1) 61 26 [a0, a1, a2, a3, a4] [.int s0, .ref s1, .int s2, .ref s3] h = Rf (d + 1) 61 29 [a0, a1, a2, a3, a4] [.int v, .int s2, .ref s3] h1 := clV (c := 54) (as := [.int s0]) c61_26 rfl (by simp [isV]) (by rw [hr]; rfl) hq
theorem c61_29 : cd 61 29 = some (29, .iload_n 2, 1, []) := by decide +kernel
theorem x61_29 {d : Nat} {a0 a1 a3 a4 : Value} {s0 : Int32} {s1 : Int32} {s2 : Nat} {x : Int32} {h : AHp} : Rf d 61 29 [a0, a1, .int x, a3, a4] [.int s0, .int s1, .ref s2] h = Rf d 61 30 [a0, a1, .int x, a3, a4] [.int x, .int s0, .int s1, .ref s2] h := Rf_go ((stp_of c61_29).trans rfl)
theorem c61_30 : cd 61 30 = some (30, .iload_n 3, 1, []) := by decide +kernel
theorem x61_30 {d : Nat} {a0 a1 a2 a4 : Value} {s0 : Int32} {s1 : Int32} {s2 : Int32} {s3 : Nat} {x : Int32} {h : AHp} : Rf d 61 30 [a0, a1, a2, .int x, a4] [.int s0, .int s1, .int s2, .ref s3] h = Rf d 61 31 [a0, a1, a2, .int x, a4] [.int x, .int s0, .int s1, .int s2, .ref s3] h := Rf_go ((stp_of c61_30).trans rfl)
theorem c61_31 : cd 61 31 = some (31, .invokevirtual 158, 3, [(6, 60)]) := by decide +kernel
theorem xc61_31 {d : Nat} {a0 a1 a2 a3 a4 : Value} {s0 : Int32} {s1 : Int32} {s2 : Int32} {s3 : Int32} {s4 : Nat} {h : AHp} {h1 : AHp} {v : Int32} (hr : cls (h.1 s4) = 6) (hq : Rf d 60 0 [.ref s4, .int s3, .int s2, .int s1, .int s0, noV] [] h = some (some (.int v), h1)) : Rf (d + 1) 61 31 [a0, a1, a2, a3, a4] [.int s0, .int s1, .int s2, .int s3, .ref s4] h = Rf (d + 1) 61 34 [a0, a1, a2, a3, a4] [.int v] h1 := clV (c := 60) (as := [.int s3, .int s2, .int s1, .int s0]) c61_31 rfl (by simp [isV]) (by rw [hr]; rfl) hq
theorem c61_34 : cd 61 34 = some (34, .istore 4, 2, []) := by decide +kernel
theorem x61_34 {d : Nat} {a0 a1 a2 a3 a4 : Value} {s0 : Int32} {h : AHp} : Rf d 61 34 [a0, a1, a2, a3, a4] [.int s0] h = Rf d 61 36 [a0, a1, a2, a3, .int s0] [] h := Rf_go ((stp_of c61_34).trans rfl)
theorem c61_36 : cd 61 36 = some (36, .aload_n 0, 1, []) := by decide +kernel
theorem x61_36 {d : Nat} {a1 a2 a3 a4 : Value} {x : Nat} {h : AHp} : Rf d 61 36 [.ref x, a1, a2, a3, a4] [] h = Rf d 61 37 [.ref x, a1, a2, a3, a4] [.ref x] h := Rf_go ((stp_of c61_36).trans rfl)
theorem c61_37 : cd 61 37 = some (37, .getfield 50, 3, [(6, 14)]) := by decide +kernel
theorem x61_37 {d : Nat} {a0 a1 a2 a3 a4 : Value} {s0 : Nat} {h : AHp} : Rf d 61 37 [a0, a1, a2, a3, a4] [.ref s0] h = if cls (h.1 s0) = 6 ∧ oKr (h.1 s0) 14 = true then Rf d 61 40 [a0, a1, a2, a3, a4] [.ref (oR (h.1 s0) 14)] h else Rx d 61 37 [a0, a1, a2, a3, a4] [.ref s0] h := getR c61_37
theorem c61_40 : cd 61 40 = some (40, .iload_n 1, 1, []) := by decide +kernel
theorem x61_40 {d : Nat} {a0 a2 a3 a4 : Value} {s0 : Nat} {x : Int32} {h : AHp} : Rf d 61 40 [a0, .int x, a2, a3, a4] [.ref s0] h = Rf d 61 41 [a0, .int x, a2, a3, a4] [.int x, .ref s0] h := Rf_go ((stp_of c61_40).trans rfl)
theorem c61_41 : cd 61 41 = some (41, .iload 4, 2, []) := by decide +kernel
theorem x61_41 {d : Nat} {a0 a1 a2 a3 : Value} {s0 : Int32} {s1 : Nat} {x : Int32} {h : AHp} : Rf d 61 41 [a0, a1, a2, a3, .int x] [.int s0, .ref s1] h = Rf d 61 43 [a0, a1, a2, a3, .int x] [.int x, .int s0, .ref s1] h := Rf_go ((stp_of c61_41).trans rfl)
theorem c61_43 : cd 61 43 = some (43, .iconst 2, 1, []) := by decide +kernel
theorem x61_43 {d : Nat} {a0 a1 a2 a3 a4 : Value} {s0 : Int32} {s1 : Int32} {s2 : Nat} {h : AHp} : Rf d 61 43 [a0, a1, a2, a3, a4] [.int s0, .int s1, .ref s2] h = Rf d 61 44 [a0, a1, a2, a3, a4] [.int 2, .int s0, .int s1, .ref s2] h := Rf_go ((stp_of c61_43).trans rfl)
theorem c61_44 : cd 61 44 = some (44, .if_icmp .ne 7, 3, [(51, 0)]) := by decide +kernel
theorem x61_44 {d : Nat} {a0 a1 a2 a3 a4 : Value} {s0 : Int32} {s1 : Int32} {s2 : Int32} {s3 : Nat} {h : AHp} : Rf d 61 44 [a0, a1, a2, a3, a4] [.int s0, .int s1, .int s2, .ref s3] h = if s1 = s0 then Rf d 61 47 [a0, a1, a2, a3, a4] [.int s2, .ref s3] h else Rf d 61 51 [a0, a1, a2, a3, a4] [.int s2, .ref s3] h := Rf_brn ((stp_of c61_44).trans rfl)
theorem c61_51 : cd 61 51 = some (51, .iconst 0, 1, []) := by decide +kernel
theorem x61_51 {d : Nat} {a0 a1 a2 a3 a4 : Value} {s0 : Int32} {s1 : Nat} {h : AHp} : Rf d 61 51 [a0, a1, a2, a3, a4] [.int s0, .ref s1] h = Rf d 61 52 [a0, a1, a2, a3, a4] [.int 0, .int s0, .ref s1] h := Rf_go ((stp_of c61_51).trans rfl)
theorem c61_52 : cd 61 52 = some (52, .bastore, 1, []) := by decide +kernel
theorem x61_52 {d : Nat} {a0 a1 a2 a3 a4 : Value} {s0 : Int32} {s1 : Int32} {s2 : Nat} {h : AHp} : Rf d 61 52 [a0, a1, a2, a3, a4] [.int s0, .int s1, .ref s2] h = if aT (h.1 s2) = 1 ∧ inB s1 (aN (h.1 s2)) = true then Rf d 61 53 [a0, a1, a2, a3, a4] [] (hset h s2 (.inl (1, aN (h.1 s2), .inl (upd (aF (h.1 s2)) s1.toNatClampNeg (vp_nar .byte s0))))) else if aT (h.1 s2) = 2 ∧ inB s1 (aN (h.1 s2)) = true then Rf d 61 53 [a0, a1, a2, a3, a4] [] (hset h s2 (.inl (2, aN (h.1 s2), .inl (upd (aF (h.1 s2)) s1.toNatClampNeg (vp_nar .boolean s0))))) else Rx d 61 52 [a0, a1, a2, a3, a4] [.int s0, .int s1, .ref s2] h := stB c61_52
theorem c61_53 : cd 61 53 = some (53, .aload_n 0, 1, []) := by decide +kernel
theorem x61_53 {d : Nat} {a1 a2 a3 a4 : Value} {x : Nat} {h : AHp} : Rf d 61 53 [.ref x, a1, a2, a3, a4] [] h = Rf d 61 54 [.ref x, a1, a2, a3, a4] [.ref x] h := Rf_go ((stp_of c61_53).trans rfl)
theorem c61_54 : cd 61 54 = some (54, .getfield 47, 3, [(6, 13)]) := by decide +kernel
theorem x61_54 {d : Nat} {a0 a1 a2 a3 a4 : Value} {s0 : Nat} {h : AHp} : Rf d 61 54 [a0, a1, a2, a3, a4] [.ref s0] h = if cls (h.1 s0) = 6 ∧ oKr (h.1 s0) 13 = true then Rf d 61 57 [a0, a1, a2, a3, a4] [.ref (oR (h.1 s0) 13)] h else Rx d 61 54 [a0, a1, a2, a3, a4] [.ref s0] h := getR c61_54
theorem c61_57 : cd 61 57 = some (57, .iload_n 1, 1, []) := by decide +kernel
theorem x61_57 {d : Nat} {a0 a2 a3 a4 : Value} {s0 : Nat} {x : Int32} {h : AHp} : Rf d 61 57 [a0, .int x, a2, a3, a4] [.ref s0] h = Rf d 61 58 [a0, .int x, a2, a3, a4] [.int x, .ref s0] h := Rf_go ((stp_of c61_57).trans rfl)
theorem c61_58 : cd 61 58 = some (58, .aload_n 0, 1, []) := by decide +kernel
theorem x61_58 {d : Nat} {a1 a2 a3 a4 : Value} {s0 : Int32} {s1 : Nat} {x : Nat} {h : AHp} : Rf d 61 58 [.ref x, a1, a2, a3, a4] [.int s0, .ref s1] h = Rf d 61 59 [.ref x, a1, a2, a3, a4] [.ref x, .int s0, .ref s1] h := Rf_go ((stp_of c61_58).trans rfl)
theorem c61_59 : cd 61 59 = some (59, .iload_n 1, 1, []) := by decide +kernel
theorem x61_59 {d : Nat} {a0 a2 a3 a4 : Value} {s0 : Nat} {s1 : Int32} {s2 : Nat} {x : Int32} {h : AHp} : Rf d 61 59 [a0, .int x, a2, a3, a4] [.ref s0, .int s1, .ref s2] h = Rf d 61 60 [a0, .int x, a2, a3, a4] [.int x, .ref s0, .int s1, .ref s2] h := Rf_go ((stp_of c61_59).trans rfl)
theorem c61_60 : cd 61 60 = some (60, .iload 4, 2, []) := by decide +kernel
theorem x61_60 {d : Nat} {a0 a1 a2 a3 : Value} {s0 : Int32} {s1 : Nat} {s2 : Int32} {s3 : Nat} {x : Int32} {h : AHp} : Rf d 61 60 [a0, a1, a2, a3, .int x] [.int s0, .ref s1, .int s2, .ref s3] h = Rf d 61 62 [a0, a1, a2, a3, .int x] [.int x, .int s0, .ref s1, .int s2, .ref s3] h := Rf_go ((stp_of c61_60).trans rfl)
theorem c61_62 : cd 61 62 = some (62, .iload_n 2, 1, []) := by decide +kernel
theorem x61_62 {d : Nat} {a0 a1 a3 a4 : Value} {s0 : Int32} {s1 : Int32} {s2 : Nat} {s3 : Int32} {s4 : Nat} {x : Int32} {h : AHp} : Rf d 61 62 [a0, a1, .int x, a3, a4] [.int s0, .int s1, .ref s2, .int s3, .ref s4] h = Rf d 61 63 [a0, a1, .int x, a3, a4] [.int x, .int s0, .int s1, .ref s2, .int s3, .ref s4] h := Rf_go ((stp_of c61_62).trans rfl)
theorem c61_63 : cd 61 63 = some (63, .iload_n 3, 1, []) := by decide +kernel
theorem x61_63 {d : Nat} {a0 a1 a2 a4 : Value} {s0 : Int32} {s1 : Int32} {s2 : Int32} {s3 : Nat} {s4 : Int32} {s5 : Nat} {x : Int32} {h : AHp} : Rf d 61 63 [a0, a1, a2, .int x, a4] [.int s0, .int s1, .int s2, .ref s3, .int s4, .ref s5] h = Rf d 61 64 [a0, a1, a2, .int x, a4] [.int x, .int s0, .int s1, .int s2, .ref s3, .int s4, .ref s5] h := Rf_go ((stp_of c61_63).trans rfl)
theorem c61_64 : cd 61 64 = some (64, .invokevirtual 168, 3, [(6, 62)]) := by decide +kernel
theorem xc61_64 {d : Nat} {a0 a1 a2 a3 a4 : Value} {s0 : Int32} {s1 : Int32} {s2 : Int32} {s3 : Int32} {s4 : Nat} {s5 : Int32} {s6 : Nat} {h : AHp} {h1 : AHp} {v : Int32} (hr : cls (h.1 s4) = 6) (hq : Rf d 62 0 [.ref s4, .int s3, .int s2, .int s1, .int s0, noV] [] h = some (some (.int v), h1)) : Rf (d + 1) 61 64 [a0, a1, a2, a3, a4] [.int s0, .int s1, .int s2, .int s3, .ref s4, .int s5, .ref s6] h = Rf (d + 1) 61 67 [a0, a1, a2, a3, a4] [.int v, .int s5, .ref s6] h1 := clV (c := 62) (as := [.int s3, .int s2, .int s1, .int s0]) c61_64 rfl (by simp [isV]) (by rw [hr]; rfl) hq
theorem c61_67 : cd 61 67 = some (67, .iastore, 1, []) := by decide +kernel
theorem x61_67 {d : Nat} {a0 a1 a2 a3 a4 : Value} {s0 : Int32} {s1 : Int32} {s2 : Nat} {h : AHp} : Rf d 61 67 [a0, a1, a2, a3, a4] [.int s0, .int s1, .ref s2] h = if aT (h.1 s2) = 0 ∧ inB s1 (aN (h.1 s2)) = true then Rf d 61 68 [a0, a1, a2, a3, a4] [] (hset h s2 (.inl (0, aN (h.1 s2), .inl (upd (aF (h.1 s2)) s1.toNatClampNeg s0)))) else Rx d 61 67 [a0, a1, a2, a3, a4] [.int s0, .int s1, .ref s2] h := stI c61_67
theorem c61_68 : cd 61 68 = some (68, .iinc 1 1, 3, []) := by decide +kernel
theorem x61_68 {d : Nat} {a0 a2 a3 a4 : Value} {x : Int32} {h : AHp} : Rf d 61 68 [a0, .int x, a2, a3, a4] [] h = Rf d 61 71 [a0, .int (x + 1), a2, a3, a4] [] h := Rf_go ((stp_of c61_68).trans rfl)
theorem c61_71 : cd 61 71 = some (71, .goto (-69), 3, [(2, 0)]) := by decide +kernel
theorem x61_71 {d : Nat} {a0 a1 a2 a3 a4 : Value} {h : AHp} : Rf d 61 71 [a0, a1, a2, a3, a4] [] h = Rf d 61 2 [a0, a1, a2, a3, a4] [] h := Rf_go ((stp_of c61_71).trans rfl)
theorem c61_47 : cd 61 47 = some (47, .iconst 1, 1, []) := by decide +kernel
theorem x61_47 {d : Nat} {a0 a1 a2 a3 a4 : Value} {s0 : Int32} {s1 : Nat} {h : AHp} : Rf d 61 47 [a0, a1, a2, a3, a4] [.int s0, .ref s1] h = Rf d 61 48 [a0, a1, a2, a3, a4] [.int 1, .int s0, .ref s1] h := Rf_go ((stp_of c61_47).trans rfl)
theorem c61_48 : cd 61 48 = some (48, .goto 4, 3, [(52, 0)]) := by decide +kernel
theorem x61_48 {d : Nat} {a0 a1 a2 a3 a4 : Value} {s0 : Int32} {s1 : Int32} {s2 : Nat} {h : AHp} : Rf d 61 48 [a0, a1, a2, a3, a4] [.int s0, .int s1, .ref s2] h = Rf d 61 52 [a0, a1, a2, a3, a4] [.int s0, .int s1, .ref s2] h := Rf_go ((stp_of c61_48).trans rfl)
-- 62: X6_payBehind
theorem c62_0 : cd 62 0 = some (0, .iload_n 2, 1, []) := by decide +kernel
theorem x62_0 {d : Nat} {a0 a1 a3 a4 a5 : Value} {x : Int32} {h : AHp} : Rf d 62 0 [a0, a1, .int x, a3, a4, a5] [] h = Rf d 62 1 [a0, a1, .int x, a3, a4, a5] [.int x] h := Rf_go ((stp_of c62_0).trans rfl)
theorem c62_1 : cd 62 1 = some (1, .iconst 2, 1, []) := by decide +kernel
theorem x62_1 {d : Nat} {a0 a1 a2 a3 a4 a5 : Value} {s0 : Int32} {h : AHp} : Rf d 62 1 [a0, a1, a2, a3, a4, a5] [.int s0] h = Rf d 62 2 [a0, a1, a2, a3, a4, a5] [.int 2, .int s0] h := Rf_go ((stp_of c62_1).trans rfl)
theorem c62_2 : cd 62 2 = some (2, .if_icmp .ne 5, 3, [(7, 0)]) := by decide +kernel
theorem x62_2 {d : Nat} {a0 a1 a2 a3 a4 a5 : Value} {s0 : Int32} {s1 : Int32} {h : AHp} : Rf d 62 2 [a0, a1, a2, a3, a4, a5] [.int s0, .int s1] h = if s1 = s0 then Rf d 62 5 [a0, a1, a2, a3, a4, a5] [] h else Rf d 62 7 [a0, a1, a2, a3, a4, a5] [] h := Rf_brn ((stp_of c62_2).trans rfl)
theorem c62_7 : cd 62 7 = some (7, .iload_n 2, 1, []) := by decide +kernel
theorem x62_7 {d : Nat} {a0 a1 a3 a4 a5 : Value} {x : Int32} {h : AHp} : Rf d 62 7 [a0, a1, .int x, a3, a4, a5] [] h = Rf d 62 8 [a0, a1, .int x, a3, a4, a5] [.int x] h := Rf_go ((stp_of c62_7).trans rfl)
theorem c62_8 : cd 62 8 = some (8, .iconst 1, 1, []) := by decide +kernel
theorem x62_8 {d : Nat} {a0 a1 a2 a3 a4 a5 : Value} {s0 : Int32} {h : AHp} : Rf d 62 8 [a0, a1, a2, a3, a4, a5] [.int s0] h = Rf d 62 9 [a0, a1, a2, a3, a4, a5] [.int 1, .int s0] h := Rf_go ((stp_of c62_8).trans rfl)
theorem c62_9 : cd 62 9 = some (9, .if_icmp .eq 10, 3, [(19, 0)]) := by decide +kernel
theorem x62_9 {d : Nat} {a0 a1 a2 a3 a4 a5 : Value} {s0 : Int32} {s1 : Int32} {h : AHp} : Rf d 62 9 [a0, a1, a2, a3, a4, a5] [.int s0, .int s1] h = if s1 = s0 then Rf d 62 19 [a0, a1, a2, a3, a4, a5] [] h else Rf d 62 12 [a0, a1, a2, a3, a4, a5] [] h := Rf_brd ((stp_of c62_9).trans rfl)
theorem c62_19 : cd 62 19 = some (19, .aload_n 0, 1, []) := by decide +kernel
theorem x62_19 {d : Nat} {a1 a2 a3 a4 a5 : Value} {x : Nat} {h : AHp} : Rf d 62 19 [.ref x, a1, a2, a3, a4, a5] [] h = Rf d 62 20 [.ref x, a1, a2, a3, a4, a5] [.ref x] h := Rf_go ((stp_of c62_19).trans rfl)
theorem c62_20 : cd 62 20 = some (20, .getfield 18, 3, [(6, 3)]) := by decide +kernel
theorem x62_20 {d : Nat} {a0 a1 a2 a3 a4 a5 : Value} {s0 : Nat} {h : AHp} : Rf d 62 20 [a0, a1, a2, a3, a4, a5] [.ref s0] h = if cls (h.1 s0) = 6 ∧ oKr (h.1 s0) 3 = true then Rf d 62 23 [a0, a1, a2, a3, a4, a5] [.ref (oR (h.1 s0) 3)] h else Rx d 62 20 [a0, a1, a2, a3, a4, a5] [.ref s0] h := getR c62_20
theorem c62_23 : cd 62 23 = some (23, .iload_n 1, 1, []) := by decide +kernel
theorem x62_23 {d : Nat} {a0 a2 a3 a4 a5 : Value} {s0 : Nat} {x : Int32} {h : AHp} : Rf d 62 23 [a0, .int x, a2, a3, a4, a5] [.ref s0] h = Rf d 62 24 [a0, .int x, a2, a3, a4, a5] [.int x, .ref s0] h := Rf_go ((stp_of c62_23).trans rfl)
theorem c62_24 : cd 62 24 = some (24, .iaload, 1, []) := by decide +kernel
theorem x62_24 {d : Nat} {a0 a1 a2 a3 a4 a5 : Value} {s0 : Int32} {s1 : Nat} {h : AHp} : Rf d 62 24 [a0, a1, a2, a3, a4, a5] [.int s0, .ref s1] h = if (aT (h.1 s1) = 0 ∨ aT (h.1 s1) = 10) ∧ inB s0 (aN (h.1 s1)) = true then Rf d 62 25 [a0, a1, a2, a3, a4, a5] [.int (aF (h.1 s1) s0.toNatClampNeg)] h else Rx d 62 24 [a0, a1, a2, a3, a4, a5] [.int s0, .ref s1] h := ldI c62_24
theorem c62_25 : cd 62 25 = some (25, .aload_n 0, 1, []) := by decide +kernel
theorem x62_25 {d : Nat} {a1 a2 a3 a4 a5 : Value} {s0 : Int32} {x : Nat} {h : AHp} : Rf d 62 25 [.ref x, a1, a2, a3, a4, a5] [.int s0] h = Rf d 62 26 [.ref x, a1, a2, a3, a4, a5] [.ref x, .int s0] h := Rf_go ((stp_of c62_25).trans rfl)
theorem c62_26 : cd 62 26 = some (26, .getfield 68, 3, [(6, 11)]) := by decide +kernel
theorem x62_26 {d : Nat} {a0 a1 a2 a3 a4 a5 : Value} {s0 : Nat} {s1 : Int32} {h : AHp} : Rf d 62 26 [a0, a1, a2, a3, a4, a5] [.ref s0, .int s1] h = if cls (h.1 s0) = 6 ∧ oKr (h.1 s0) 11 = true then Rf d 62 29 [a0, a1, a2, a3, a4, a5] [.ref (oR (h.1 s0) 11), .int s1] h else Rx d 62 26 [a0, a1, a2, a3, a4, a5] [.ref s0, .int s1] h := getR c62_26
theorem c62_29 : cd 62 29 = some (29, .getfield 171, 3, [(3, 1)]) := by decide +kernel
theorem x62_29 {d : Nat} {a0 a1 a2 a3 a4 a5 : Value} {s0 : Nat} {s1 : Int32} {h : AHp} : Rf d 62 29 [a0, a1, a2, a3, a4, a5] [.ref s0, .int s1] h = if cls (h.1 s0) = 3 ∧ oKi (h.1 s0) 1 = true then Rf d 62 32 [a0, a1, a2, a3, a4, a5] [.int (oN (h.1 s0) 1), .int s1] h else Rx d 62 29 [a0, a1, a2, a3, a4, a5] [.ref s0, .int s1] h := getI c62_29
theorem c62_32 : cd 62 32 = some (32, .iadd, 1, []) := by decide +kernel
theorem x62_32 {d : Nat} {a0 a1 a2 a3 a4 a5 : Value} {s0 : Int32} {s1 : Int32} {h : AHp} : Rf d 62 32 [a0, a1, a2, a3, a4, a5] [.int s0, .int s1] h = Rf d 62 33 [a0, a1, a2, a3, a4, a5] [.int (s1 + s0)] h := Rf_go ((stp_of c62_32).trans rfl)
theorem c62_33 : cd 62 33 = some (33, .iload 4, 2, []) := by decide +kernel
theorem x62_33 {d : Nat} {a0 a1 a2 a3 a5 : Value} {s0 : Int32} {x : Int32} {h : AHp} : Rf d 62 33 [a0, a1, a2, a3, .int x, a5] [.int s0] h = Rf d 62 35 [a0, a1, a2, a3, .int x, a5] [.int x, .int s0] h := Rf_go ((stp_of c62_33).trans rfl)
theorem c62_35 : cd 62 35 = some (35, .iadd, 1, []) := by decide +kernel
theorem x62_35 {d : Nat} {a0 a1 a2 a3 a4 a5 : Value} {s0 : Int32} {s1 : Int32} {h : AHp} : Rf d 62 35 [a0, a1, a2, a3, a4, a5] [.int s0, .int s1] h = Rf d 62 36 [a0, a1, a2, a3, a4, a5] [.int (s1 + s0)] h := Rf_go ((stp_of c62_35).trans rfl)
theorem c62_36 : cd 62 36 = some (36, .istore 5, 2, []) := by decide +kernel
theorem x62_36 {d : Nat} {a0 a1 a2 a3 a4 a5 : Value} {s0 : Int32} {h : AHp} : Rf d 62 36 [a0, a1, a2, a3, a4, a5] [.int s0] h = Rf d 62 38 [a0, a1, a2, a3, a4, .int s0] [] h := Rf_go ((stp_of c62_36).trans rfl)
theorem c62_38 : cd 62 38 = some (38, .aload_n 0, 1, []) := by decide +kernel
theorem x62_38 {d : Nat} {a1 a2 a3 a4 a5 : Value} {x : Nat} {h : AHp} : Rf d 62 38 [.ref x, a1, a2, a3, a4, a5] [] h = Rf d 62 39 [.ref x, a1, a2, a3, a4, a5] [.ref x] h := Rf_go ((stp_of c62_38).trans rfl)
theorem c62_39 : cd 62 39 = some (39, .getfield 18, 3, [(6, 3)]) := by decide +kernel
theorem x62_39 {d : Nat} {a0 a1 a2 a3 a4 a5 : Value} {s0 : Nat} {h : AHp} : Rf d 62 39 [a0, a1, a2, a3, a4, a5] [.ref s0] h = if cls (h.1 s0) = 6 ∧ oKr (h.1 s0) 3 = true then Rf d 62 42 [a0, a1, a2, a3, a4, a5] [.ref (oR (h.1 s0) 3)] h else Rx d 62 39 [a0, a1, a2, a3, a4, a5] [.ref s0] h := getR c62_39
theorem c62_42 : cd 62 42 = some (42, .iload_n 1, 1, []) := by decide +kernel
theorem x62_42 {d : Nat} {a0 a2 a3 a4 a5 : Value} {s0 : Nat} {x : Int32} {h : AHp} : Rf d 62 42 [a0, .int x, a2, a3, a4, a5] [.ref s0] h = Rf d 62 43 [a0, .int x, a2, a3, a4, a5] [.int x, .ref s0] h := Rf_go ((stp_of c62_42).trans rfl)
theorem c62_43 : cd 62 43 = some (43, .iaload, 1, []) := by decide +kernel
theorem x62_43 {d : Nat} {a0 a1 a2 a3 a4 a5 : Value} {s0 : Int32} {s1 : Nat} {h : AHp} : Rf d 62 43 [a0, a1, a2, a3, a4, a5] [.int s0, .ref s1] h = if (aT (h.1 s1) = 0 ∨ aT (h.1 s1) = 10) ∧ inB s0 (aN (h.1 s1)) = true then Rf d 62 44 [a0, a1, a2, a3, a4, a5] [.int (aF (h.1 s1) s0.toNatClampNeg)] h else Rx d 62 43 [a0, a1, a2, a3, a4, a5] [.int s0, .ref s1] h := ldI c62_43
theorem c62_44 : cd 62 44 = some (44, .iload_n 3, 1, []) := by decide +kernel
theorem x62_44 {d : Nat} {a0 a1 a2 a4 a5 : Value} {s0 : Int32} {x : Int32} {h : AHp} : Rf d 62 44 [a0, a1, a2, .int x, a4, a5] [.int s0] h = Rf d 62 45 [a0, a1, a2, .int x, a4, a5] [.int x, .int s0] h := Rf_go ((stp_of c62_44).trans rfl)
theorem c62_45 : cd 62 45 = some (45, .if_icmp .ge 11, 3, [(56, 0)]) := by decide +kernel
theorem x62_45 {d : Nat} {a0 a1 a2 a3 a4 a5 : Value} {s0 : Int32} {s1 : Int32} {h : AHp} : Rf d 62 45 [a0, a1, a2, a3, a4, a5] [.int s0, .int s1] h = if s1 < s0 then Rf d 62 48 [a0, a1, a2, a3, a4, a5] [] h else Rf d 62 56 [a0, a1, a2, a3, a4, a5] [] h := Rf_brn ((stp_of c62_45).trans rfl)
theorem c62_56 : cd 62 56 = some (56, .iload 5, 2, []) := by decide +kernel
theorem x62_56 {d : Nat} {a0 a1 a2 a3 a4 : Value} {x : Int32} {h : AHp} : Rf d 62 56 [a0, a1, a2, a3, a4, .int x] [] h = Rf d 62 58 [a0, a1, a2, a3, a4, .int x] [.int x] h := Rf_go ((stp_of c62_56).trans rfl)
theorem c62_58 : cd 62 58 = some (58, .sipush 999, 3, []) := by decide +kernel
theorem x62_58 {d : Nat} {a0 a1 a2 a3 a4 a5 : Value} {s0 : Int32} {h : AHp} : Rf d 62 58 [a0, a1, a2, a3, a4, a5] [.int s0] h = Rf d 62 61 [a0, a1, a2, a3, a4, a5] [.int 999, .int s0] h := Rf_go ((stp_of c62_58).trans rfl)
theorem c62_61 : cd 62 61 = some (61, .invokestatic 120, 3, [(0, 202)]) := by decide +kernel
theorem xc62_61 {d : Nat} {a0 a1 a2 a3 a4 a5 : Value} {s0 : Int32} {s1 : Int32} {h : AHp} {h1 : AHp} {v : Int32} (hq : Rf d 202 0 [.int s1, .int s0] [] h = some (some (.int v), h1)) : Rf (d + 1) 62 61 [a0, a1, a2, a3, a4, a5] [.int s0, .int s1] h = Rf (d + 1) 62 64 [a0, a1, a2, a3, a4, a5] [.int v] h1 := clS (as := [.int s1, .int s0]) c62_61 rfl rfl (by simp [isV]) hq
theorem c62_64 : cd 62 64 = some (64, .ireturn, 1, []) := by decide +kernel
theorem x62_64 {d : Nat} {a0 a1 a2 a3 a4 a5 : Value} {s0 : Int32} {h : AHp} : Rf d 62 64 [a0, a1, a2, a3, a4, a5] [.int s0] h = some (some (.int s0), h) := Rf_end (by rw [stp_of c62_64]; simp only [stpI]; rw [if_pos (show retI (mH 62).2.2.1 s0 = true from retI_int)])
theorem c62_48 : cd 62 48 = some (48, .iload 5, 2, []) := by decide +kernel
theorem x62_48 {d : Nat} {a0 a1 a2 a3 a4 : Value} {x : Int32} {h : AHp} : Rf d 62 48 [a0, a1, a2, a3, a4, .int x] [] h = Rf d 62 50 [a0, a1, a2, a3, a4, .int x] [.int x] h := Rf_go ((stp_of c62_48).trans rfl)
theorem c62_50 : cd 62 50 = some (50, .iload_n 3, 1, []) := by decide +kernel
theorem x62_50 {d : Nat} {a0 a1 a2 a4 a5 : Value} {s0 : Int32} {x : Int32} {h : AHp} : Rf d 62 50 [a0, a1, a2, .int x, a4, a5] [.int s0] h = Rf d 62 51 [a0, a1, a2, .int x, a4, a5] [.int x, .int s0] h := Rf_go ((stp_of c62_50).trans rfl)
theorem c62_51 : cd 62 51 = some (51, .invokestatic 120, 3, [(0, 202)]) := by decide +kernel
theorem xc62_51 {d : Nat} {a0 a1 a2 a3 a4 a5 : Value} {s0 : Int32} {s1 : Int32} {h : AHp} {h1 : AHp} {v : Int32} (hq : Rf d 202 0 [.int s1, .int s0] [] h = some (some (.int v), h1)) : Rf (d + 1) 62 51 [a0, a1, a2, a3, a4, a5] [.int s0, .int s1] h = Rf (d + 1) 62 54 [a0, a1, a2, a3, a4, a5] [.int v] h1 := clS (as := [.int s1, .int s0]) c62_51 rfl rfl (by simp [isV]) hq
theorem c62_54 : cd 62 54 = some (54, .istore 5, 2, []) := by decide +kernel
theorem x62_54 {d : Nat} {a0 a1 a2 a3 a4 a5 : Value} {s0 : Int32} {h : AHp} : Rf d 62 54 [a0, a1, a2, a3, a4, a5] [.int s0] h = Rf d 62 56 [a0, a1, a2, a3, a4, .int s0] [] h := Rf_go ((stp_of c62_54).trans rfl)
theorem c62_12 : cd 62 12 = some (12, .aload_n 0, 1, []) := by decide +kernel
theorem x62_12 {d : Nat} {a1 a2 a3 a4 a5 : Value} {x : Nat} {h : AHp} : Rf d 62 12 [.ref x, a1, a2, a3, a4, a5] [] h = Rf d 62 13 [.ref x, a1, a2, a3, a4, a5] [.ref x] h := Rf_go ((stp_of c62_12).trans rfl)
theorem c62_13 : cd 62 13 = some (13, .getfield 18, 3, [(6, 3)]) := by decide +kernel
theorem x62_13 {d : Nat} {a0 a1 a2 a3 a4 a5 : Value} {s0 : Nat} {h : AHp} : Rf d 62 13 [a0, a1, a2, a3, a4, a5] [.ref s0] h = if cls (h.1 s0) = 6 ∧ oKr (h.1 s0) 3 = true then Rf d 62 16 [a0, a1, a2, a3, a4, a5] [.ref (oR (h.1 s0) 3)] h else Rx d 62 13 [a0, a1, a2, a3, a4, a5] [.ref s0] h := getR c62_13
theorem c62_16 : cd 62 16 = some (16, .iload_n 1, 1, []) := by decide +kernel
theorem x62_16 {d : Nat} {a0 a2 a3 a4 a5 : Value} {s0 : Nat} {x : Int32} {h : AHp} : Rf d 62 16 [a0, .int x, a2, a3, a4, a5] [.ref s0] h = Rf d 62 17 [a0, .int x, a2, a3, a4, a5] [.int x, .ref s0] h := Rf_go ((stp_of c62_16).trans rfl)
theorem c62_17 : cd 62 17 = some (17, .iaload, 1, []) := by decide +kernel
theorem x62_17 {d : Nat} {a0 a1 a2 a3 a4 a5 : Value} {s0 : Int32} {s1 : Nat} {h : AHp} : Rf d 62 17 [a0, a1, a2, a3, a4, a5] [.int s0, .ref s1] h = if (aT (h.1 s1) = 0 ∨ aT (h.1 s1) = 10) ∧ inB s0 (aN (h.1 s1)) = true then Rf d 62 18 [a0, a1, a2, a3, a4, a5] [.int (aF (h.1 s1) s0.toNatClampNeg)] h else Rx d 62 17 [a0, a1, a2, a3, a4, a5] [.int s0, .ref s1] h := ldI c62_17
theorem c62_18 : cd 62 18 = some (18, .ireturn, 1, []) := by decide +kernel
theorem x62_18 {d : Nat} {a0 a1 a2 a3 a4 a5 : Value} {s0 : Int32} {h : AHp} : Rf d 62 18 [a0, a1, a2, a3, a4, a5] [.int s0] h = some (some (.int s0), h) := Rf_end (by rw [stp_of c62_18]; simp only [stpI]; rw [if_pos (show retI (mH 62).2.2.1 s0 = true from retI_int)])
theorem c62_5 : cd 62 5 = some (5, .iload_n 3, 1, []) := by decide +kernel
theorem x62_5 {d : Nat} {a0 a1 a2 a4 a5 : Value} {x : Int32} {h : AHp} : Rf d 62 5 [a0, a1, a2, .int x, a4, a5] [] h = Rf d 62 6 [a0, a1, a2, .int x, a4, a5] [.int x] h := Rf_go ((stp_of c62_5).trans rfl)
theorem c62_6 : cd 62 6 = some (6, .ireturn, 1, []) := by decide +kernel
theorem x62_6 {d : Nat} {a0 a1 a2 a3 a4 a5 : Value} {s0 : Int32} {h : AHp} : Rf d 62 6 [a0, a1, a2, a3, a4, a5] [.int s0] h = some (some (.int s0), h) := Rf_end (by rw [stp_of c62_6]; simp only [stpI]; rw [if_pos (show retI (mH 62).2.2.1 s0 = true from retI_int)])
-- 63: X6_manyOf
theorem c63_0 : cd 63 0 = some (0, .iconst 0, 1, []) := by decide +kernel
theorem x63_0 {d : Nat} {a0 a1 a2 a3 : Value} {h : AHp} : Rf d 63 0 [a0, a1, a2, a3] [] h = Rf d 63 1 [a0, a1, a2, a3] [.int 0] h := Rf_go ((stp_of c63_0).trans rfl)
theorem c63_1 : cd 63 1 = some (1, .istore_n 2, 1, []) := by decide +kernel
theorem x63_1 {d : Nat} {a0 a1 a2 a3 : Value} {s0 : Int32} {h : AHp} : Rf d 63 1 [a0, a1, a2, a3] [.int s0] h = Rf d 63 2 [a0, a1, .int s0, a3] [] h := Rf_go ((stp_of c63_1).trans rfl)
theorem c63_2 : cd 63 2 = some (2, .iconst 0, 1, []) := by decide +kernel
theorem x63_2 {d : Nat} {a0 a1 a2 a3 : Value} {h : AHp} : Rf d 63 2 [a0, a1, a2, a3] [] h = Rf d 63 3 [a0, a1, a2, a3] [.int 0] h := Rf_go ((stp_of c63_2).trans rfl)
theorem c63_3 : cd 63 3 = some (3, .istore_n 3, 1, []) := by decide +kernel
theorem x63_3 {d : Nat} {a0 a1 a2 a3 : Value} {s0 : Int32} {h : AHp} : Rf d 63 3 [a0, a1, a2, a3] [.int s0] h = Rf d 63 4 [a0, a1, a2, .int s0] [] h := Rf_go ((stp_of c63_3).trans rfl)
theorem c63_4 : cd 63 4 = some (4, .iload_n 3, 1, []) := by decide +kernel
theorem x63_4 {d : Nat} {a0 a1 a2 : Value} {x : Int32} {h : AHp} : Rf d 63 4 [a0, a1, a2, .int x] [] h = Rf d 63 5 [a0, a1, a2, .int x] [.int x] h := Rf_go ((stp_of c63_4).trans rfl)
theorem c63_5 : cd 63 5 = some (5, .aload_n 0, 1, []) := by decide +kernel
theorem x63_5 {d : Nat} {a1 a2 a3 : Value} {s0 : Int32} {x : Nat} {h : AHp} : Rf d 63 5 [.ref x, a1, a2, a3] [.int s0] h = Rf d 63 6 [.ref x, a1, a2, a3] [.ref x, .int s0] h := Rf_go ((stp_of c63_5).trans rfl)
theorem c63_6 : cd 63 6 = some (6, .getfield 72, 3, [(6, 0)]) := by decide +kernel
theorem x63_6 {d : Nat} {a0 a1 a2 a3 : Value} {s0 : Nat} {s1 : Int32} {h : AHp} : Rf d 63 6 [a0, a1, a2, a3] [.ref s0, .int s1] h = if cls (h.1 s0) = 6 ∧ oKi (h.1 s0) 0 = true then Rf d 63 9 [a0, a1, a2, a3] [.int (oN (h.1 s0) 0), .int s1] h else Rx d 63 6 [a0, a1, a2, a3] [.ref s0, .int s1] h := getI c63_6
theorem c63_9 : cd 63 9 = some (9, .if_icmp .ge 22, 3, [(31, 0)]) := by decide +kernel
theorem x63_9 {d : Nat} {a0 a1 a2 a3 : Value} {s0 : Int32} {s1 : Int32} {h : AHp} : Rf d 63 9 [a0, a1, a2, a3] [.int s0, .int s1] h = if s1 < s0 then Rf d 63 12 [a0, a1, a2, a3] [] h else Rf d 63 31 [a0, a1, a2, a3] [] h := Rf_brn ((stp_of c63_9).trans rfl)
theorem c63_31 : cd 63 31 = some (31, .iload_n 2, 1, []) := by decide +kernel
theorem x63_31 {d : Nat} {a0 a1 a3 : Value} {x : Int32} {h : AHp} : Rf d 63 31 [a0, a1, .int x, a3] [] h = Rf d 63 32 [a0, a1, .int x, a3] [.int x] h := Rf_go ((stp_of c63_31).trans rfl)
theorem c63_32 : cd 63 32 = some (32, .ireturn, 1, []) := by decide +kernel
theorem x63_32 {d : Nat} {a0 a1 a2 a3 : Value} {s0 : Int32} {h : AHp} : Rf d 63 32 [a0, a1, a2, a3] [.int s0] h = some (some (.int s0), h) := Rf_end (by rw [stp_of c63_32]; simp only [stpI]; rw [if_pos (show retI (mH 63).2.2.1 s0 = true from retI_int)])
theorem c63_12 : cd 63 12 = some (12, .aload_n 0, 1, []) := by decide +kernel
theorem x63_12 {d : Nat} {a1 a2 a3 : Value} {x : Nat} {h : AHp} : Rf d 63 12 [.ref x, a1, a2, a3] [] h = Rf d 63 13 [.ref x, a1, a2, a3] [.ref x] h := Rf_go ((stp_of c63_12).trans rfl)
theorem c63_13 : cd 63 13 = some (13, .getfield 24, 3, [(6, 5)]) := by decide +kernel
theorem x63_13 {d : Nat} {a0 a1 a2 a3 : Value} {s0 : Nat} {h : AHp} : Rf d 63 13 [a0, a1, a2, a3] [.ref s0] h = if cls (h.1 s0) = 6 ∧ oKr (h.1 s0) 5 = true then Rf d 63 16 [a0, a1, a2, a3] [.ref (oR (h.1 s0) 5)] h else Rx d 63 13 [a0, a1, a2, a3] [.ref s0] h := getR c63_13
theorem c63_16 : cd 63 16 = some (16, .iload_n 3, 1, []) := by decide +kernel
theorem x63_16 {d : Nat} {a0 a1 a2 : Value} {s0 : Nat} {x : Int32} {h : AHp} : Rf d 63 16 [a0, a1, a2, .int x] [.ref s0] h = Rf d 63 17 [a0, a1, a2, .int x] [.int x, .ref s0] h := Rf_go ((stp_of c63_16).trans rfl)
theorem c63_17 : cd 63 17 = some (17, .iaload, 1, []) := by decide +kernel
theorem x63_17 {d : Nat} {a0 a1 a2 a3 : Value} {s0 : Int32} {s1 : Nat} {h : AHp} : Rf d 63 17 [a0, a1, a2, a3] [.int s0, .ref s1] h = if (aT (h.1 s1) = 0 ∨ aT (h.1 s1) = 10) ∧ inB s0 (aN (h.1 s1)) = true then Rf d 63 18 [a0, a1, a2, a3] [.int (aF (h.1 s1) s0.toNatClampNeg)] h else Rx d 63 17 [a0, a1, a2, a3] [.int s0, .ref s1] h := ldI c63_17
theorem c63_18 : cd 63 18 = some (18, .iload_n 1, 1, []) := by decide +kernel
theorem x63_18 {d : Nat} {a0 a2 a3 : Value} {s0 : Int32} {x : Int32} {h : AHp} : Rf d 63 18 [a0, .int x, a2, a3] [.int s0] h = Rf d 63 19 [a0, .int x, a2, a3] [.int x, .int s0] h := Rf_go ((stp_of c63_18).trans rfl)
theorem c63_19 : cd 63 19 = some (19, .if_icmp .ne 6, 3, [(25, 0)]) := by decide +kernel
theorem x63_19 {d : Nat} {a0 a1 a2 a3 : Value} {s0 : Int32} {s1 : Int32} {h : AHp} : Rf d 63 19 [a0, a1, a2, a3] [.int s0, .int s1] h = if s1 = s0 then Rf d 63 22 [a0, a1, a2, a3] [] h else Rf d 63 25 [a0, a1, a2, a3] [] h := Rf_brn ((stp_of c63_19).trans rfl)
theorem c63_25 : cd 63 25 = some (25, .iinc 3 1, 3, []) := by decide +kernel
theorem x63_25 {d : Nat} {a0 a1 a2 : Value} {x : Int32} {h : AHp} : Rf d 63 25 [a0, a1, a2, .int x] [] h = Rf d 63 28 [a0, a1, a2, .int (x + 1)] [] h := Rf_go ((stp_of c63_25).trans rfl)
theorem c63_28 : cd 63 28 = some (28, .goto (-24), 3, [(4, 0)]) := by decide +kernel
theorem x63_28 {d : Nat} {a0 a1 a2 a3 : Value} {h : AHp} : Rf d 63 28 [a0, a1, a2, a3] [] h = Rf d 63 4 [a0, a1, a2, a3] [] h := Rf_go ((stp_of c63_28).trans rfl)
theorem c63_22 : cd 63 22 = some (22, .iinc 2 1, 3, []) := by decide +kernel
theorem x63_22 {d : Nat} {a0 a1 a3 : Value} {x : Int32} {h : AHp} : Rf d 63 22 [a0, a1, .int x, a3] [] h = Rf d 63 25 [a0, a1, .int (x + 1), a3] [] h := Rf_go ((stp_of c63_22).trans rfl)
-- 64: X6_payOfLot
theorem c64_0 : cd 64 0 = some (0, .iconst 0, 1, []) := by decide +kernel
theorem x64_0 {d : Nat} {a0 a1 a2 a3 : Value} {h : AHp} : Rf d 64 0 [a0, a1, a2, a3] [] h = Rf d 64 1 [a0, a1, a2, a3] [.int 0] h := Rf_go ((stp_of c64_0).trans rfl)
theorem c64_1 : cd 64 1 = some (1, .istore_n 2, 1, []) := by decide +kernel
theorem x64_1 {d : Nat} {a0 a1 a2 a3 : Value} {s0 : Int32} {h : AHp} : Rf d 64 1 [a0, a1, a2, a3] [.int s0] h = Rf d 64 2 [a0, a1, .int s0, a3] [] h := Rf_go ((stp_of c64_1).trans rfl)
theorem c64_2 : cd 64 2 = some (2, .iconst 0, 1, []) := by decide +kernel
theorem x64_2 {d : Nat} {a0 a1 a2 a3 : Value} {h : AHp} : Rf d 64 2 [a0, a1, a2, a3] [] h = Rf d 64 3 [a0, a1, a2, a3] [.int 0] h := Rf_go ((stp_of c64_2).trans rfl)
theorem c64_3 : cd 64 3 = some (3, .istore_n 3, 1, []) := by decide +kernel
theorem x64_3 {d : Nat} {a0 a1 a2 a3 : Value} {s0 : Int32} {h : AHp} : Rf d 64 3 [a0, a1, a2, a3] [.int s0] h = Rf d 64 4 [a0, a1, a2, .int s0] [] h := Rf_go ((stp_of c64_3).trans rfl)
theorem c64_4 : cd 64 4 = some (4, .iload_n 3, 1, []) := by decide +kernel
theorem x64_4 {d : Nat} {a0 a1 a2 : Value} {x : Int32} {h : AHp} : Rf d 64 4 [a0, a1, a2, .int x] [] h = Rf d 64 5 [a0, a1, a2, .int x] [.int x] h := Rf_go ((stp_of c64_4).trans rfl)
theorem c64_5 : cd 64 5 = some (5, .aload_n 0, 1, []) := by decide +kernel
theorem x64_5 {d : Nat} {a1 a2 a3 : Value} {s0 : Int32} {x : Nat} {h : AHp} : Rf d 64 5 [.ref x, a1, a2, a3] [.int s0] h = Rf d 64 6 [.ref x, a1, a2, a3] [.ref x, .int s0] h := Rf_go ((stp_of c64_5).trans rfl)
theorem c64_6 : cd 64 6 = some (6, .getfield 72, 3, [(6, 0)]) := by decide +kernel
theorem x64_6 {d : Nat} {a0 a1 a2 a3 : Value} {s0 : Nat} {s1 : Int32} {h : AHp} : Rf d 64 6 [a0, a1, a2, a3] [.ref s0, .int s1] h = if cls (h.1 s0) = 6 ∧ oKi (h.1 s0) 0 = true then Rf d 64 9 [a0, a1, a2, a3] [.int (oN (h.1 s0) 0), .int s1] h else Rx d 64 6 [a0, a1, a2, a3] [.ref s0, .int s1] h := getI c64_6
theorem c64_9 : cd 64 9 = some (9, .if_icmp .ge 28, 3, [(37, 0)]) := by decide +kernel
theorem x64_9 {d : Nat} {a0 a1 a2 a3 : Value} {s0 : Int32} {s1 : Int32} {h : AHp} : Rf d 64 9 [a0, a1, a2, a3] [.int s0, .int s1] h = if s1 < s0 then Rf d 64 12 [a0, a1, a2, a3] [] h else Rf d 64 37 [a0, a1, a2, a3] [] h := Rf_brn ((stp_of c64_9).trans rfl)
theorem c64_37 : cd 64 37 = some (37, .iload_n 2, 1, []) := by decide +kernel
theorem x64_37 {d : Nat} {a0 a1 a3 : Value} {x : Int32} {h : AHp} : Rf d 64 37 [a0, a1, .int x, a3] [] h = Rf d 64 38 [a0, a1, .int x, a3] [.int x] h := Rf_go ((stp_of c64_37).trans rfl)
theorem c64_38 : cd 64 38 = some (38, .ireturn, 1, []) := by decide +kernel
theorem x64_38 {d : Nat} {a0 a1 a2 a3 : Value} {s0 : Int32} {h : AHp} : Rf d 64 38 [a0, a1, a2, a3] [.int s0] h = some (some (.int s0), h) := Rf_end (by rw [stp_of c64_38]; simp only [stpI]; rw [if_pos (show retI (mH 64).2.2.1 s0 = true from retI_int)])
theorem c64_12 : cd 64 12 = some (12, .aload_n 0, 1, []) := by decide +kernel
theorem x64_12 {d : Nat} {a1 a2 a3 : Value} {x : Nat} {h : AHp} : Rf d 64 12 [.ref x, a1, a2, a3] [] h = Rf d 64 13 [.ref x, a1, a2, a3] [.ref x] h := Rf_go ((stp_of c64_12).trans rfl)
theorem c64_13 : cd 64 13 = some (13, .getfield 24, 3, [(6, 5)]) := by decide +kernel
theorem x64_13 {d : Nat} {a0 a1 a2 a3 : Value} {s0 : Nat} {h : AHp} : Rf d 64 13 [a0, a1, a2, a3] [.ref s0] h = if cls (h.1 s0) = 6 ∧ oKr (h.1 s0) 5 = true then Rf d 64 16 [a0, a1, a2, a3] [.ref (oR (h.1 s0) 5)] h else Rx d 64 13 [a0, a1, a2, a3] [.ref s0] h := getR c64_13
theorem c64_16 : cd 64 16 = some (16, .iload_n 3, 1, []) := by decide +kernel
theorem x64_16 {d : Nat} {a0 a1 a2 : Value} {s0 : Nat} {x : Int32} {h : AHp} : Rf d 64 16 [a0, a1, a2, .int x] [.ref s0] h = Rf d 64 17 [a0, a1, a2, .int x] [.int x, .ref s0] h := Rf_go ((stp_of c64_16).trans rfl)
theorem c64_17 : cd 64 17 = some (17, .iaload, 1, []) := by decide +kernel
theorem x64_17 {d : Nat} {a0 a1 a2 a3 : Value} {s0 : Int32} {s1 : Nat} {h : AHp} : Rf d 64 17 [a0, a1, a2, a3] [.int s0, .ref s1] h = if (aT (h.1 s1) = 0 ∨ aT (h.1 s1) = 10) ∧ inB s0 (aN (h.1 s1)) = true then Rf d 64 18 [a0, a1, a2, a3] [.int (aF (h.1 s1) s0.toNatClampNeg)] h else Rx d 64 17 [a0, a1, a2, a3] [.int s0, .ref s1] h := ldI c64_17
theorem c64_18 : cd 64 18 = some (18, .iload_n 1, 1, []) := by decide +kernel
theorem x64_18 {d : Nat} {a0 a2 a3 : Value} {s0 : Int32} {x : Int32} {h : AHp} : Rf d 64 18 [a0, .int x, a2, a3] [.int s0] h = Rf d 64 19 [a0, .int x, a2, a3] [.int x, .int s0] h := Rf_go ((stp_of c64_18).trans rfl)
theorem c64_19 : cd 64 19 = some (19, .if_icmp .ne 12, 3, [(31, 0)]) := by decide +kernel
theorem x64_19 {d : Nat} {a0 a1 a2 a3 : Value} {s0 : Int32} {s1 : Int32} {h : AHp} : Rf d 64 19 [a0, a1, a2, a3] [.int s0, .int s1] h = if s1 = s0 then Rf d 64 22 [a0, a1, a2, a3] [] h else Rf d 64 31 [a0, a1, a2, a3] [] h := Rf_brn ((stp_of c64_19).trans rfl)
theorem c64_31 : cd 64 31 = some (31, .iinc 3 1, 3, []) := by decide +kernel
theorem x64_31 {d : Nat} {a0 a1 a2 : Value} {x : Int32} {h : AHp} : Rf d 64 31 [a0, a1, a2, .int x] [] h = Rf d 64 34 [a0, a1, a2, .int (x + 1)] [] h := Rf_go ((stp_of c64_31).trans rfl)
theorem c64_34 : cd 64 34 = some (34, .goto (-30), 3, [(4, 0)]) := by decide +kernel
theorem x64_34 {d : Nat} {a0 a1 a2 a3 : Value} {h : AHp} : Rf d 64 34 [a0, a1, a2, a3] [] h = Rf d 64 4 [a0, a1, a2, a3] [] h := Rf_go ((stp_of c64_34).trans rfl)
theorem c64_22 : cd 64 22 = some (22, .iload_n 2, 1, []) := by decide +kernel
theorem x64_22 {d : Nat} {a0 a1 a3 : Value} {x : Int32} {h : AHp} : Rf d 64 22 [a0, a1, .int x, a3] [] h = Rf d 64 23 [a0, a1, .int x, a3] [.int x] h := Rf_go ((stp_of c64_22).trans rfl)
theorem c64_23 : cd 64 23 = some (23, .aload_n 0, 1, []) := by decide +kernel
theorem x64_23 {d : Nat} {a1 a2 a3 : Value} {s0 : Int32} {x : Nat} {h : AHp} : Rf d 64 23 [.ref x, a1, a2, a3] [.int s0] h = Rf d 64 24 [.ref x, a1, a2, a3] [.ref x, .int s0] h := Rf_go ((stp_of c64_23).trans rfl)
theorem c64_24 : cd 64 24 = some (24, .getfield 18, 3, [(6, 3)]) := by decide +kernel
theorem x64_24 {d : Nat} {a0 a1 a2 a3 : Value} {s0 : Nat} {s1 : Int32} {h : AHp} : Rf d 64 24 [a0, a1, a2, a3] [.ref s0, .int s1] h = if cls (h.1 s0) = 6 ∧ oKr (h.1 s0) 3 = true then Rf d 64 27 [a0, a1, a2, a3] [.ref (oR (h.1 s0) 3), .int s1] h else Rx d 64 24 [a0, a1, a2, a3] [.ref s0, .int s1] h := getR c64_24
theorem c64_27 : cd 64 27 = some (27, .iload_n 3, 1, []) := by decide +kernel
theorem x64_27 {d : Nat} {a0 a1 a2 : Value} {s0 : Nat} {s1 : Int32} {x : Int32} {h : AHp} : Rf d 64 27 [a0, a1, a2, .int x] [.ref s0, .int s1] h = Rf d 64 28 [a0, a1, a2, .int x] [.int x, .ref s0, .int s1] h := Rf_go ((stp_of c64_27).trans rfl)
theorem c64_28 : cd 64 28 = some (28, .iaload, 1, []) := by decide +kernel
theorem x64_28 {d : Nat} {a0 a1 a2 a3 : Value} {s0 : Int32} {s1 : Nat} {s2 : Int32} {h : AHp} : Rf d 64 28 [a0, a1, a2, a3] [.int s0, .ref s1, .int s2] h = if (aT (h.1 s1) = 0 ∨ aT (h.1 s1) = 10) ∧ inB s0 (aN (h.1 s1)) = true then Rf d 64 29 [a0, a1, a2, a3] [.int (aF (h.1 s1) s0.toNatClampNeg), .int s2] h else Rx d 64 28 [a0, a1, a2, a3] [.int s0, .ref s1, .int s2] h := ldI c64_28
theorem c64_29 : cd 64 29 = some (29, .iadd, 1, []) := by decide +kernel
theorem x64_29 {d : Nat} {a0 a1 a2 a3 : Value} {s0 : Int32} {s1 : Int32} {h : AHp} : Rf d 64 29 [a0, a1, a2, a3] [.int s0, .int s1] h = Rf d 64 30 [a0, a1, a2, a3] [.int (s1 + s0)] h := Rf_go ((stp_of c64_29).trans rfl)
theorem c64_30 : cd 64 30 = some (30, .istore_n 2, 1, []) := by decide +kernel
theorem x64_30 {d : Nat} {a0 a1 a2 a3 : Value} {s0 : Int32} {h : AHp} : Rf d 64 30 [a0, a1, a2, a3] [.int s0] h = Rf d 64 31 [a0, a1, .int s0, a3] [] h := Rf_go ((stp_of c64_30).trans rfl)
-- 65: X6_gap
theorem c65_0 : cd 65 0 = some (0, .aload_n 0, 1, []) := by decide +kernel
theorem x65_0 {d : Nat} {a1 a2 : Value} {x : Nat} {h : AHp} : Rf d 65 0 [.ref x, a1, a2] [] h = Rf d 65 1 [.ref x, a1, a2] [.ref x] h := Rf_go ((stp_of c65_0).trans rfl)
theorem c65_1 : cd 65 1 = some (1, .iconst 0, 1, []) := by decide +kernel
theorem x65_1 {d : Nat} {a0 a1 a2 : Value} {s0 : Nat} {h : AHp} : Rf d 65 1 [a0, a1, a2] [.ref s0] h = Rf d 65 2 [a0, a1, a2] [.int 0, .ref s0] h := Rf_go ((stp_of c65_1).trans rfl)
theorem c65_2 : cd 65 2 = some (2, .invokevirtual 174, 3, [(6, 63)]) := by decide +kernel
theorem xc65_2 {d : Nat} {a0 a1 a2 : Value} {s0 : Int32} {s1 : Nat} {h : AHp} {h1 : AHp} {v : Int32} (hr : cls (h.1 s1) = 6) (hq : Rf d 63 0 [.ref s1, .int s0, noV, noV] [] h = some (some (.int v), h1)) : Rf (d + 1) 65 2 [a0, a1, a2] [.int s0, .ref s1] h = Rf (d + 1) 65 5 [a0, a1, a2] [.int v] h1 := clV (c := 63) (as := [.int s0]) c65_2 rfl (by simp [isV]) (by rw [hr]; rfl) hq
theorem c65_5 : cd 65 5 = some (5, .istore_n 1, 1, []) := by decide +kernel
theorem x65_5 {d : Nat} {a0 a1 a2 : Value} {s0 : Int32} {h : AHp} : Rf d 65 5 [a0, a1, a2] [.int s0] h = Rf d 65 6 [a0, .int s0, a2] [] h := Rf_go ((stp_of c65_5).trans rfl)
theorem c65_6 : cd 65 6 = some (6, .aload_n 0, 1, []) := by decide +kernel
theorem x65_6 {d : Nat} {a1 a2 : Value} {x : Nat} {h : AHp} : Rf d 65 6 [.ref x, a1, a2] [] h = Rf d 65 7 [.ref x, a1, a2] [.ref x] h := Rf_go ((stp_of c65_6).trans rfl)
theorem c65_7 : cd 65 7 = some (7, .iconst 1, 1, []) := by decide +kernel
theorem x65_7 {d : Nat} {a0 a1 a2 : Value} {s0 : Nat} {h : AHp} : Rf d 65 7 [a0, a1, a2] [.ref s0] h = Rf d 65 8 [a0, a1, a2] [.int 1, .ref s0] h := Rf_go ((stp_of c65_7).trans rfl)
theorem c65_8 : cd 65 8 = some (8, .invokevirtual 174, 3, [(6, 63)]) := by decide +kernel
theorem xc65_8 {d : Nat} {a0 a1 a2 : Value} {s0 : Int32} {s1 : Nat} {h : AHp} {h1 : AHp} {v : Int32} (hr : cls (h.1 s1) = 6) (hq : Rf d 63 0 [.ref s1, .int s0, noV, noV] [] h = some (some (.int v), h1)) : Rf (d + 1) 65 8 [a0, a1, a2] [.int s0, .ref s1] h = Rf (d + 1) 65 11 [a0, a1, a2] [.int v] h1 := clV (c := 63) (as := [.int s0]) c65_8 rfl (by simp [isV]) (by rw [hr]; rfl) hq
theorem c65_11 : cd 65 11 = some (11, .istore_n 2, 1, []) := by decide +kernel
theorem x65_11 {d : Nat} {a0 a1 a2 : Value} {s0 : Int32} {h : AHp} : Rf d 65 11 [a0, a1, a2] [.int s0] h = Rf d 65 12 [a0, a1, .int s0] [] h := Rf_go ((stp_of c65_11).trans rfl)
theorem c65_12 : cd 65 12 = some (12, .iload_n 1, 1, []) := by decide +kernel
theorem x65_12 {d : Nat} {a0 a2 : Value} {x : Int32} {h : AHp} : Rf d 65 12 [a0, .int x, a2] [] h = Rf d 65 13 [a0, .int x, a2] [.int x] h := Rf_go ((stp_of c65_12).trans rfl)
theorem c65_13 : cd 65 13 = some (13, .ifCond .eq 7, 3, [(20, 0)]) := by decide +kernel
theorem x65_13 {d : Nat} {a0 a1 a2 : Value} {s0 : Int32} {h : AHp} : Rf d 65 13 [a0, a1, a2] [.int s0] h = if s0 = 0 then Rf d 65 20 [a0, a1, a2] [] h else Rf d 65 16 [a0, a1, a2] [] h := Rf_brd ((stp_of c65_13).trans rfl)
theorem c65_20 : cd 65 20 = some (20, .iconst 0, 1, []) := by decide +kernel
theorem x65_20 {d : Nat} {a0 a1 a2 : Value} {h : AHp} : Rf d 65 20 [a0, a1, a2] [] h = Rf d 65 21 [a0, a1, a2] [.int 0] h := Rf_go ((stp_of c65_20).trans rfl)
theorem c65_21 : cd 65 21 = some (21, .goto 18, 3, [(39, 0)]) := by decide +kernel
theorem x65_21 {d : Nat} {a0 a1 a2 : Value} {s0 : Int32} {h : AHp} : Rf d 65 21 [a0, a1, a2] [.int s0] h = Rf d 65 39 [a0, a1, a2] [.int s0] h := Rf_go ((stp_of c65_21).trans rfl)
theorem c65_39 : cd 65 39 = some (39, .ireturn, 1, []) := by decide +kernel
theorem x65_39 {d : Nat} {a0 a1 a2 : Value} {s0 : Int32} {h : AHp} : Rf d 65 39 [a0, a1, a2] [.int s0] h = some (some (.int s0), h) := Rf_end (by rw [stp_of c65_39]; simp only [stpI]; rw [if_pos (show retI (mH 65).2.2.1 s0 = true from retI_int)])
theorem c65_16 : cd 65 16 = some (16, .iload_n 2, 1, []) := by decide +kernel
theorem x65_16 {d : Nat} {a0 a1 : Value} {x : Int32} {h : AHp} : Rf d 65 16 [a0, a1, .int x] [] h = Rf d 65 17 [a0, a1, .int x] [.int x] h := Rf_go ((stp_of c65_16).trans rfl)
theorem c65_17 : cd 65 17 = some (17, .ifCond .ne 7, 3, [(24, 0)]) := by decide +kernel
theorem x65_17 {d : Nat} {a0 a1 a2 : Value} {s0 : Int32} {h : AHp} : Rf d 65 17 [a0, a1, a2] [.int s0] h = if s0 = 0 then Rf d 65 20 [a0, a1, a2] [] h else Rf d 65 24 [a0, a1, a2] [] h := Rf_brn ((stp_of c65_17).trans rfl)
theorem c65_24 : cd 65 24 = some (24, .aload_n 0, 1, []) := by decide +kernel
theorem x65_24 {d : Nat} {a1 a2 : Value} {x : Nat} {h : AHp} : Rf d 65 24 [.ref x, a1, a2] [] h = Rf d 65 25 [.ref x, a1, a2] [.ref x] h := Rf_go ((stp_of c65_24).trans rfl)
theorem c65_25 : cd 65 25 = some (25, .iconst 0, 1, []) := by decide +kernel
theorem x65_25 {d : Nat} {a0 a1 a2 : Value} {s0 : Nat} {h : AHp} : Rf d 65 25 [a0, a1, a2] [.ref s0] h = Rf d 65 26 [a0, a1, a2] [.int 0, .ref s0] h := Rf_go ((stp_of c65_25).trans rfl)
theorem c65_26 : cd 65 26 = some (26, .invokevirtual 177, 3, [(6, 64)]) := by decide +kernel
theorem xc65_26 {d : Nat} {a0 a1 a2 : Value} {s0 : Int32} {s1 : Nat} {h : AHp} {h1 : AHp} {v : Int32} (hr : cls (h.1 s1) = 6) (hq : Rf d 64 0 [.ref s1, .int s0, noV, noV] [] h = some (some (.int v), h1)) : Rf (d + 1) 65 26 [a0, a1, a2] [.int s0, .ref s1] h = Rf (d + 1) 65 29 [a0, a1, a2] [.int v] h1 := clV (c := 64) (as := [.int s0]) c65_26 rfl (by simp [isV]) (by rw [hr]; rfl) hq
theorem c65_29 : cd 65 29 = some (29, .iload_n 1, 1, []) := by decide +kernel
theorem x65_29 {d : Nat} {a0 a2 : Value} {s0 : Int32} {x : Int32} {h : AHp} : Rf d 65 29 [a0, .int x, a2] [.int s0] h = Rf d 65 30 [a0, .int x, a2] [.int x, .int s0] h := Rf_go ((stp_of c65_29).trans rfl)
theorem c65_30 : cd 65 30 = some (30, .idiv, 1, []) := by decide +kernel
theorem x65_30 {d : Nat} {a0 a1 a2 : Value} {s0 : Int32} {s1 : Int32} {h : AHp} : Rf d 65 30 [a0, a1, a2] [.int s0, .int s1] h = if ¬ s0 = 0 then Rf d 65 31 [a0, a1, a2] [.int (s1 / s0)] h else Rx d 65 30 [a0, a1, a2] [.int s0, .int s1] h := divE c65_30 (fun _ _ _ => rfl)
theorem c65_31 : cd 65 31 = some (31, .aload_n 0, 1, []) := by decide +kernel
theorem x65_31 {d : Nat} {a1 a2 : Value} {s0 : Int32} {x : Nat} {h : AHp} : Rf d 65 31 [.ref x, a1, a2] [.int s0] h = Rf d 65 32 [.ref x, a1, a2] [.ref x, .int s0] h := Rf_go ((stp_of c65_31).trans rfl)
theorem c65_32 : cd 65 32 = some (32, .iconst 1, 1, []) := by decide +kernel
theorem x65_32 {d : Nat} {a0 a1 a2 : Value} {s0 : Nat} {s1 : Int32} {h : AHp} : Rf d 65 32 [a0, a1, a2] [.ref s0, .int s1] h = Rf d 65 33 [a0, a1, a2] [.int 1, .ref s0, .int s1] h := Rf_go ((stp_of c65_32).trans rfl)
theorem c65_33 : cd 65 33 = some (33, .invokevirtual 177, 3, [(6, 64)]) := by decide +kernel
theorem xc65_33 {d : Nat} {a0 a1 a2 : Value} {s0 : Int32} {s1 : Nat} {s2 : Int32} {h : AHp} {h1 : AHp} {v : Int32} (hr : cls (h.1 s1) = 6) (hq : Rf d 64 0 [.ref s1, .int s0, noV, noV] [] h = some (some (.int v), h1)) : Rf (d + 1) 65 33 [a0, a1, a2] [.int s0, .ref s1, .int s2] h = Rf (d + 1) 65 36 [a0, a1, a2] [.int v, .int s2] h1 := clV (c := 64) (as := [.int s0]) c65_33 rfl (by simp [isV]) (by rw [hr]; rfl) hq
theorem c65_36 : cd 65 36 = some (36, .iload_n 2, 1, []) := by decide +kernel
theorem x65_36 {d : Nat} {a0 a1 : Value} {s0 : Int32} {s1 : Int32} {x : Int32} {h : AHp} : Rf d 65 36 [a0, a1, .int x] [.int s0, .int s1] h = Rf d 65 37 [a0, a1, .int x] [.int x, .int s0, .int s1] h := Rf_go ((stp_of c65_36).trans rfl)
theorem c65_37 : cd 65 37 = some (37, .idiv, 1, []) := by decide +kernel
theorem x65_37 {d : Nat} {a0 a1 a2 : Value} {s0 : Int32} {s1 : Int32} {s2 : Int32} {h : AHp} : Rf d 65 37 [a0, a1, a2] [.int s0, .int s1, .int s2] h = if ¬ s0 = 0 then Rf d 65 38 [a0, a1, a2] [.int (s1 / s0), .int s2] h else Rx d 65 37 [a0, a1, a2] [.int s0, .int s1, .int s2] h := divE c65_37 (fun _ _ _ => rfl)
theorem c65_38 : cd 65 38 = some (38, .isub, 1, []) := by decide +kernel
theorem x65_38 {d : Nat} {a0 a1 a2 : Value} {s0 : Int32} {s1 : Int32} {h : AHp} : Rf d 65 38 [a0, a1, a2] [.int s0, .int s1] h = Rf d 65 39 [a0, a1, a2] [.int (s1 - s0)] h := Rf_go ((stp_of c65_38).trans rfl)
-- 66: X6_leastRises
theorem c66_0 : cd 66 0 = some (0, .aload_n 0, 1, []) := by decide +kernel
theorem x66_0 {d : Nat} {a1 a2 a3 a4 a5 a6 : Value} {x : Nat} {h : AHp} : Rf d 66 0 [.ref x, a1, a2, a3, a4, a5, a6] [] h = Rf d 66 1 [.ref x, a1, a2, a3, a4, a5, a6] [.ref x] h := Rf_go ((stp_of c66_0).trans rfl)
theorem c66_1 : cd 66 1 = some (1, .invokevirtual 180, 3, [(6, 65)]) := by decide +kernel
theorem xc66_1 {d : Nat} {a0 a1 a2 a3 a4 a5 a6 : Value} {s0 : Nat} {h : AHp} {h1 : AHp} {v : Int32} (hr : cls (h.1 s0) = 6) (hq : Rf d 65 0 [.ref s0, noV, noV] [] h = some (some (.int v), h1)) : Rf (d + 1) 66 1 [a0, a1, a2, a3, a4, a5, a6] [.ref s0] h = Rf (d + 1) 66 4 [a0, a1, a2, a3, a4, a5, a6] [.int v] h1 := clV (c := 65) (as := []) c66_1 rfl (by simp [isV]) (by rw [hr]; rfl) hq
theorem c66_4 : cd 66 4 = some (4, .istore_n 2, 1, []) := by decide +kernel
theorem x66_4 {d : Nat} {a0 a1 a2 a3 a4 a5 a6 : Value} {s0 : Int32} {h : AHp} : Rf d 66 4 [a0, a1, a2, a3, a4, a5, a6] [.int s0] h = Rf d 66 5 [a0, a1, .int s0, a3, a4, a5, a6] [] h := Rf_go ((stp_of c66_4).trans rfl)
theorem c66_5 : cd 66 5 = some (5, .iload_n 2, 1, []) := by decide +kernel
theorem x66_5 {d : Nat} {a0 a1 a3 a4 a5 a6 : Value} {x : Int32} {h : AHp} : Rf d 66 5 [a0, a1, .int x, a3, a4, a5, a6] [] h = Rf d 66 6 [a0, a1, .int x, a3, a4, a5, a6] [.int x] h := Rf_go ((stp_of c66_5).trans rfl)
theorem c66_6 : cd 66 6 = some (6, .invokestatic 183, 3, [(0, 200)]) := by decide +kernel
theorem xc66_6 {d : Nat} {a0 a1 a2 a3 a4 a5 a6 : Value} {s0 : Int32} {h : AHp} {h1 : AHp} {v : Int32} (hq : Rf d 200 0 [.int s0] [] h = some (some (.int v), h1)) : Rf (d + 1) 66 6 [a0, a1, a2, a3, a4, a5, a6] [.int s0] h = Rf (d + 1) 66 9 [a0, a1, a2, a3, a4, a5, a6] [.int v] h1 := clS (as := [.int s0]) c66_6 rfl rfl (by simp [isV]) hq
theorem c66_9 : cd 66 9 = some (9, .iload_n 1, 1, []) := by decide +kernel
theorem x66_9 {d : Nat} {a0 a2 a3 a4 a5 a6 : Value} {s0 : Int32} {x : Int32} {h : AHp} : Rf d 66 9 [a0, .int x, a2, a3, a4, a5, a6] [.int s0] h = Rf d 66 10 [a0, .int x, a2, a3, a4, a5, a6] [.int x, .int s0] h := Rf_go ((stp_of c66_9).trans rfl)
theorem c66_10 : cd 66 10 = some (10, .if_icmp .gt 5, 3, [(15, 0)]) := by decide +kernel
theorem x66_10 {d : Nat} {a0 a1 a2 a3 a4 a5 a6 : Value} {s0 : Int32} {s1 : Int32} {h : AHp} : Rf d 66 10 [a0, a1, a2, a3, a4, a5, a6] [.int s0, .int s1] h = if s0 < s1 then Rf d 66 15 [a0, a1, a2, a3, a4, a5, a6] [] h else Rf d 66 13 [a0, a1, a2, a3, a4, a5, a6] [] h := Rf_brd ((stp_of c66_10).trans rfl)
theorem c66_15 : cd 66 15 = some (15, .iload_n 2, 1, []) := by decide +kernel
theorem x66_15 {d : Nat} {a0 a1 a3 a4 a5 a6 : Value} {x : Int32} {h : AHp} : Rf d 66 15 [a0, a1, .int x, a3, a4, a5, a6] [] h = Rf d 66 16 [a0, a1, .int x, a3, a4, a5, a6] [.int x] h := Rf_go ((stp_of c66_15).trans rfl)
theorem c66_16 : cd 66 16 = some (16, .ifCond .le 7, 3, [(23, 0)]) := by decide +kernel
theorem x66_16 {d : Nat} {a0 a1 a2 a3 a4 a5 a6 : Value} {s0 : Int32} {h : AHp} : Rf d 66 16 [a0, a1, a2, a3, a4, a5, a6] [.int s0] h = if 0 < s0 then Rf d 66 19 [a0, a1, a2, a3, a4, a5, a6] [] h else Rf d 66 23 [a0, a1, a2, a3, a4, a5, a6] [] h := Rf_brn ((stp_of c66_16).trans rfl)
theorem c66_23 : cd 66 23 = some (23, .iconst 0, 1, []) := by decide +kernel
theorem x66_23 {d : Nat} {a0 a1 a2 a3 a4 a5 a6 : Value} {h : AHp} : Rf d 66 23 [a0, a1, a2, a3, a4, a5, a6] [] h = Rf d 66 24 [a0, a1, a2, a3, a4, a5, a6] [.int 0] h := Rf_go ((stp_of c66_23).trans rfl)
theorem c66_24 : cd 66 24 = some (24, .istore_n 3, 1, []) := by decide +kernel
theorem x66_24 {d : Nat} {a0 a1 a2 a3 a4 a5 a6 : Value} {s0 : Int32} {h : AHp} : Rf d 66 24 [a0, a1, a2, a3, a4, a5, a6] [.int s0] h = Rf d 66 25 [a0, a1, a2, .int s0, a4, a5, a6] [] h := Rf_go ((stp_of c66_24).trans rfl)
theorem c66_25 : cd 66 25 = some (25, .aload_n 0, 1, []) := by decide +kernel
theorem x66_25 {d : Nat} {a1 a2 a3 a4 a5 a6 : Value} {x : Nat} {h : AHp} : Rf d 66 25 [.ref x, a1, a2, a3, a4, a5, a6] [] h = Rf d 66 26 [.ref x, a1, a2, a3, a4, a5, a6] [.ref x] h := Rf_go ((stp_of c66_25).trans rfl)
theorem c66_26 : cd 66 26 = some (26, .iload_n 3, 1, []) := by decide +kernel
theorem x66_26 {d : Nat} {a0 a1 a2 a4 a5 a6 : Value} {s0 : Nat} {x : Int32} {h : AHp} : Rf d 66 26 [a0, a1, a2, .int x, a4, a5, a6] [.ref s0] h = Rf d 66 27 [a0, a1, a2, .int x, a4, a5, a6] [.int x, .ref s0] h := Rf_go ((stp_of c66_26).trans rfl)
theorem c66_27 : cd 66 27 = some (27, .invokevirtual 174, 3, [(6, 63)]) := by decide +kernel
theorem xc66_27 {d : Nat} {a0 a1 a2 a3 a4 a5 a6 : Value} {s0 : Int32} {s1 : Nat} {h : AHp} {h1 : AHp} {v : Int32} (hr : cls (h.1 s1) = 6) (hq : Rf d 63 0 [.ref s1, .int s0, noV, noV] [] h = some (some (.int v), h1)) : Rf (d + 1) 66 27 [a0, a1, a2, a3, a4, a5, a6] [.int s0, .ref s1] h = Rf (d + 1) 66 30 [a0, a1, a2, a3, a4, a5, a6] [.int v] h1 := clV (c := 63) (as := [.int s0]) c66_27 rfl (by simp [isV]) (by rw [hr]; rfl) hq
theorem c66_30 : cd 66 30 = some (30, .istore 4, 2, []) := by decide +kernel
theorem x66_30 {d : Nat} {a0 a1 a2 a3 a4 a5 a6 : Value} {s0 : Int32} {h : AHp} : Rf d 66 30 [a0, a1, a2, a3, a4, a5, a6] [.int s0] h = Rf d 66 32 [a0, a1, a2, a3, .int s0, a5, a6] [] h := Rf_go ((stp_of c66_30).trans rfl)
theorem c66_32 : cd 66 32 = some (32, .aload_n 0, 1, []) := by decide +kernel
theorem x66_32 {d : Nat} {a1 a2 a3 a4 a5 a6 : Value} {x : Nat} {h : AHp} : Rf d 66 32 [.ref x, a1, a2, a3, a4, a5, a6] [] h = Rf d 66 33 [.ref x, a1, a2, a3, a4, a5, a6] [.ref x] h := Rf_go ((stp_of c66_32).trans rfl)
theorem c66_33 : cd 66 33 = some (33, .iload_n 3, 1, []) := by decide +kernel
theorem x66_33 {d : Nat} {a0 a1 a2 a4 a5 a6 : Value} {s0 : Nat} {x : Int32} {h : AHp} : Rf d 66 33 [a0, a1, a2, .int x, a4, a5, a6] [.ref s0] h = Rf d 66 34 [a0, a1, a2, .int x, a4, a5, a6] [.int x, .ref s0] h := Rf_go ((stp_of c66_33).trans rfl)
theorem c66_34 : cd 66 34 = some (34, .invokevirtual 177, 3, [(6, 64)]) := by decide +kernel
theorem xc66_34 {d : Nat} {a0 a1 a2 a3 a4 a5 a6 : Value} {s0 : Int32} {s1 : Nat} {h : AHp} {h1 : AHp} {v : Int32} (hr : cls (h.1 s1) = 6) (hq : Rf d 64 0 [.ref s1, .int s0, noV, noV] [] h = some (some (.int v), h1)) : Rf (d + 1) 66 34 [a0, a1, a2, a3, a4, a5, a6] [.int s0, .ref s1] h = Rf (d + 1) 66 37 [a0, a1, a2, a3, a4, a5, a6] [.int v] h1 := clV (c := 64) (as := [.int s0]) c66_34 rfl (by simp [isV]) (by rw [hr]; rfl) hq
theorem c66_37 : cd 66 37 = some (37, .istore 5, 2, []) := by decide +kernel
theorem x66_37 {d : Nat} {a0 a1 a2 a3 a4 a5 a6 : Value} {s0 : Int32} {h : AHp} : Rf d 66 37 [a0, a1, a2, a3, a4, a5, a6] [.int s0] h = Rf d 66 39 [a0, a1, a2, a3, a4, .int s0, a6] [] h := Rf_go ((stp_of c66_37).trans rfl)
theorem c66_39 : cd 66 39 = some (39, .iload 4, 2, []) := by decide +kernel
theorem x66_39 {d : Nat} {a0 a1 a2 a3 a5 a6 : Value} {x : Int32} {h : AHp} : Rf d 66 39 [a0, a1, a2, a3, .int x, a5, a6] [] h = Rf d 66 41 [a0, a1, a2, a3, .int x, a5, a6] [.int x] h := Rf_go ((stp_of c66_39).trans rfl)
theorem c66_41 : cd 66 41 = some (41, .ifCond .ne 5, 3, [(46, 0)]) := by decide +kernel
theorem x66_41 {d : Nat} {a0 a1 a2 a3 a4 a5 a6 : Value} {s0 : Int32} {h : AHp} : Rf d 66 41 [a0, a1, a2, a3, a4, a5, a6] [.int s0] h = if s0 = 0 then Rf d 66 44 [a0, a1, a2, a3, a4, a5, a6] [] h else Rf d 66 46 [a0, a1, a2, a3, a4, a5, a6] [] h := Rf_brn ((stp_of c66_41).trans rfl)
theorem c66_46 : cd 66 46 = some (46, .iload 5, 2, []) := by decide +kernel
theorem x66_46 {d : Nat} {a0 a1 a2 a3 a4 a6 : Value} {x : Int32} {h : AHp} : Rf d 66 46 [a0, a1, a2, a3, a4, .int x, a6] [] h = Rf d 66 48 [a0, a1, a2, a3, a4, .int x, a6] [.int x] h := Rf_go ((stp_of c66_46).trans rfl)
theorem c66_48 : cd 66 48 = some (48, .iload 4, 2, []) := by decide +kernel
theorem x66_48 {d : Nat} {a0 a1 a2 a3 a5 a6 : Value} {s0 : Int32} {x : Int32} {h : AHp} : Rf d 66 48 [a0, a1, a2, a3, .int x, a5, a6] [.int s0] h = Rf d 66 50 [a0, a1, a2, a3, .int x, a5, a6] [.int x, .int s0] h := Rf_go ((stp_of c66_48).trans rfl)
theorem c66_50 : cd 66 50 = some (50, .idiv, 1, []) := by decide +kernel
theorem x66_50 {d : Nat} {a0 a1 a2 a3 a4 a5 a6 : Value} {s0 : Int32} {s1 : Int32} {h : AHp} : Rf d 66 50 [a0, a1, a2, a3, a4, a5, a6] [.int s0, .int s1] h = if ¬ s0 = 0 then Rf d 66 51 [a0, a1, a2, a3, a4, a5, a6] [.int (s1 / s0)] h else Rx d 66 50 [a0, a1, a2, a3, a4, a5, a6] [.int s0, .int s1] h := divE c66_50 (fun _ _ _ => rfl)
theorem c66_51 : cd 66 51 = some (51, .iload_n 2, 1, []) := by decide +kernel
theorem x66_51 {d : Nat} {a0 a1 a3 a4 a5 a6 : Value} {s0 : Int32} {x : Int32} {h : AHp} : Rf d 66 51 [a0, a1, .int x, a3, a4, a5, a6] [.int s0] h = Rf d 66 52 [a0, a1, .int x, a3, a4, a5, a6] [.int x, .int s0] h := Rf_go ((stp_of c66_51).trans rfl)
theorem c66_52 : cd 66 52 = some (52, .invokestatic 183, 3, [(0, 200)]) := by decide +kernel
theorem xc66_52 {d : Nat} {a0 a1 a2 a3 a4 a5 a6 : Value} {s0 : Int32} {s1 : Int32} {h : AHp} {h1 : AHp} {v : Int32} (hq : Rf d 200 0 [.int s0] [] h = some (some (.int v), h1)) : Rf (d + 1) 66 52 [a0, a1, a2, a3, a4, a5, a6] [.int s0, .int s1] h = Rf (d + 1) 66 55 [a0, a1, a2, a3, a4, a5, a6] [.int v, .int s1] h1 := clS (as := [.int s0]) c66_52 rfl rfl (by simp [isV]) hq
theorem c66_55 : cd 66 55 = some (55, .iadd, 1, []) := by decide +kernel
theorem x66_55 {d : Nat} {a0 a1 a2 a3 a4 a5 a6 : Value} {s0 : Int32} {s1 : Int32} {h : AHp} : Rf d 66 55 [a0, a1, a2, a3, a4, a5, a6] [.int s0, .int s1] h = Rf d 66 56 [a0, a1, a2, a3, a4, a5, a6] [.int (s1 + s0)] h := Rf_go ((stp_of c66_55).trans rfl)
theorem c66_56 : cd 66 56 = some (56, .iload_n 1, 1, []) := by decide +kernel
theorem x66_56 {d : Nat} {a0 a2 a3 a4 a5 a6 : Value} {s0 : Int32} {x : Int32} {h : AHp} : Rf d 66 56 [a0, .int x, a2, a3, a4, a5, a6] [.int s0] h = Rf d 66 57 [a0, .int x, a2, a3, a4, a5, a6] [.int x, .int s0] h := Rf_go ((stp_of c66_56).trans rfl)
theorem c66_57 : cd 66 57 = some (57, .isub, 1, []) := by decide +kernel
theorem x66_57 {d : Nat} {a0 a1 a2 a3 a4 a5 a6 : Value} {s0 : Int32} {s1 : Int32} {h : AHp} : Rf d 66 57 [a0, a1, a2, a3, a4, a5, a6] [.int s0, .int s1] h = Rf d 66 58 [a0, a1, a2, a3, a4, a5, a6] [.int (s1 - s0)] h := Rf_go ((stp_of c66_57).trans rfl)
theorem c66_58 : cd 66 58 = some (58, .istore 6, 2, []) := by decide +kernel
theorem x66_58 {d : Nat} {a0 a1 a2 a3 a4 a5 a6 : Value} {s0 : Int32} {h : AHp} : Rf d 66 58 [a0, a1, a2, a3, a4, a5, a6] [.int s0] h = Rf d 66 60 [a0, a1, a2, a3, a4, a5, .int s0] [] h := Rf_go ((stp_of c66_58).trans rfl)
theorem c66_60 : cd 66 60 = some (60, .iload 4, 2, []) := by decide +kernel
theorem x66_60 {d : Nat} {a0 a1 a2 a3 a5 a6 : Value} {x : Int32} {h : AHp} : Rf d 66 60 [a0, a1, a2, a3, .int x, a5, a6] [] h = Rf d 66 62 [a0, a1, a2, a3, .int x, a5, a6] [.int x] h := Rf_go ((stp_of c66_60).trans rfl)
theorem c66_62 : cd 66 62 = some (62, .iload 6, 2, []) := by decide +kernel
theorem x66_62 {d : Nat} {a0 a1 a2 a3 a4 a5 : Value} {s0 : Int32} {x : Int32} {h : AHp} : Rf d 66 62 [a0, a1, a2, a3, a4, a5, .int x] [.int s0] h = Rf d 66 64 [a0, a1, a2, a3, a4, a5, .int x] [.int x, .int s0] h := Rf_go ((stp_of c66_62).trans rfl)
theorem c66_64 : cd 66 64 = some (64, .imul, 1, []) := by decide +kernel
theorem x66_64 {d : Nat} {a0 a1 a2 a3 a4 a5 a6 : Value} {s0 : Int32} {s1 : Int32} {h : AHp} : Rf d 66 64 [a0, a1, a2, a3, a4, a5, a6] [.int s0, .int s1] h = Rf d 66 65 [a0, a1, a2, a3, a4, a5, a6] [.int (s1 * s0)] h := Rf_go ((stp_of c66_64).trans rfl)
theorem c66_65 : cd 66 65 = some (65, .iload 5, 2, []) := by decide +kernel
theorem x66_65 {d : Nat} {a0 a1 a2 a3 a4 a6 : Value} {s0 : Int32} {x : Int32} {h : AHp} : Rf d 66 65 [a0, a1, a2, a3, a4, .int x, a6] [.int s0] h = Rf d 66 67 [a0, a1, a2, a3, a4, .int x, a6] [.int x, .int s0] h := Rf_go ((stp_of c66_65).trans rfl)
theorem c66_67 : cd 66 67 = some (67, .isub, 1, []) := by decide +kernel
theorem x66_67 {d : Nat} {a0 a1 a2 a3 a4 a5 a6 : Value} {s0 : Int32} {s1 : Int32} {h : AHp} : Rf d 66 67 [a0, a1, a2, a3, a4, a5, a6] [.int s0, .int s1] h = Rf d 66 68 [a0, a1, a2, a3, a4, a5, a6] [.int (s1 - s0)] h := Rf_go ((stp_of c66_67).trans rfl)
theorem c66_68 : cd 66 68 = some (68, .ireturn, 1, []) := by decide +kernel
theorem x66_68 {d : Nat} {a0 a1 a2 a3 a4 a5 a6 : Value} {s0 : Int32} {h : AHp} : Rf d 66 68 [a0, a1, a2, a3, a4, a5, a6] [.int s0] h = some (some (.int s0), h) := Rf_end (by rw [stp_of c66_68]; simp only [stpI]; rw [if_pos (show retI (mH 66).2.2.1 s0 = true from retI_int)])
theorem c66_44 : cd 66 44 = some (44, .iconst 0, 1, []) := by decide +kernel
theorem x66_44 {d : Nat} {a0 a1 a2 a3 a4 a5 a6 : Value} {h : AHp} : Rf d 66 44 [a0, a1, a2, a3, a4, a5, a6] [] h = Rf d 66 45 [a0, a1, a2, a3, a4, a5, a6] [.int 0] h := Rf_go ((stp_of c66_44).trans rfl)
theorem c66_45 : cd 66 45 = some (45, .ireturn, 1, []) := by decide +kernel
theorem x66_45 {d : Nat} {a0 a1 a2 a3 a4 a5 a6 : Value} {s0 : Int32} {h : AHp} : Rf d 66 45 [a0, a1, a2, a3, a4, a5, a6] [.int s0] h = some (some (.int s0), h) := Rf_end (by rw [stp_of c66_45]; simp only [stpI]; rw [if_pos (show retI (mH 66).2.2.1 s0 = true from retI_int)])
theorem c66_19 : cd 66 19 = some (19, .iconst 1, 1, []) := by decide +kernel
theorem x66_19 {d : Nat} {a0 a1 a2 a3 a4 a5 a6 : Value} {h : AHp} : Rf d 66 19 [a0, a1, a2, a3, a4, a5, a6] [] h = Rf d 66 20 [a0, a1, a2, a3, a4, a5, a6] [.int 1] h := Rf_go ((stp_of c66_19).trans rfl)
theorem c66_20 : cd 66 20 = some (20, .goto 4, 3, [(24, 0)]) := by decide +kernel
theorem x66_20 {d : Nat} {a0 a1 a2 a3 a4 a5 a6 : Value} {s0 : Int32} {h : AHp} : Rf d 66 20 [a0, a1, a2, a3, a4, a5, a6] [.int s0] h = Rf d 66 24 [a0, a1, a2, a3, a4, a5, a6] [.int s0] h := Rf_go ((stp_of c66_20).trans rfl)
theorem c66_13 : cd 66 13 = some (13, .iconst 0, 1, []) := by decide +kernel
theorem x66_13 {d : Nat} {a0 a1 a2 a3 a4 a5 a6 : Value} {h : AHp} : Rf d 66 13 [a0, a1, a2, a3, a4, a5, a6] [] h = Rf d 66 14 [a0, a1, a2, a3, a4, a5, a6] [.int 0] h := Rf_go ((stp_of c66_13).trans rfl)
theorem c66_14 : cd 66 14 = some (14, .ireturn, 1, []) := by decide +kernel
theorem x66_14 {d : Nat} {a0 a1 a2 a3 a4 a5 a6 : Value} {s0 : Int32} {h : AHp} : Rf d 66 14 [a0, a1, a2, a3, a4, a5, a6] [.int s0] h = some (some (.int s0), h) := Rf_end (by rw [stp_of c66_14]; simp only [stpI]; rw [if_pos (show retI (mH 66).2.2.1 s0 = true from retI_int)])
-- 67: X6_spreadAround
theorem c67_0 : cd 67 0 = some (0, .aload_n 0, 1, []) := by decide +kernel
theorem x67_0 {d : Nat} {a1 a2 a3 a4 a5 : Value} {x : Nat} {h : AHp} : Rf d 67 0 [.ref x, a1, a2, a3, a4, a5] [] h = Rf d 67 1 [.ref x, a1, a2, a3, a4, a5] [.ref x] h := Rf_go ((stp_of c67_0).trans rfl)
theorem c67_1 : cd 67 1 = some (1, .getfield 18, 3, [(6, 3)]) := by decide +kernel
theorem x67_1 {d : Nat} {a0 a1 a2 a3 a4 a5 : Value} {s0 : Nat} {h : AHp} : Rf d 67 1 [a0, a1, a2, a3, a4, a5] [.ref s0] h = if cls (h.1 s0) = 6 ∧ oKr (h.1 s0) 3 = true then Rf d 67 4 [a0, a1, a2, a3, a4, a5] [.ref (oR (h.1 s0) 3)] h else Rx d 67 1 [a0, a1, a2, a3, a4, a5] [.ref s0] h := getR c67_1
theorem c67_4 : cd 67 4 = some (4, .iload_n 1, 1, []) := by decide +kernel
theorem x67_4 {d : Nat} {a0 a2 a3 a4 a5 : Value} {s0 : Nat} {x : Int32} {h : AHp} : Rf d 67 4 [a0, .int x, a2, a3, a4, a5] [.ref s0] h = Rf d 67 5 [a0, .int x, a2, a3, a4, a5] [.int x, .ref s0] h := Rf_go ((stp_of c67_4).trans rfl)
theorem c67_5 : cd 67 5 = some (5, .iaload, 1, []) := by decide +kernel
theorem x67_5 {d : Nat} {a0 a1 a2 a3 a4 a5 : Value} {s0 : Int32} {s1 : Nat} {h : AHp} : Rf d 67 5 [a0, a1, a2, a3, a4, a5] [.int s0, .ref s1] h = if (aT (h.1 s1) = 0 ∨ aT (h.1 s1) = 10) ∧ inB s0 (aN (h.1 s1)) = true then Rf d 67 6 [a0, a1, a2, a3, a4, a5] [.int (aF (h.1 s1) s0.toNatClampNeg)] h else Rx d 67 5 [a0, a1, a2, a3, a4, a5] [.int s0, .ref s1] h := ldI c67_5
theorem c67_6 : cd 67 6 = some (6, .istore_n 3, 1, []) := by decide +kernel
theorem x67_6 {d : Nat} {a0 a1 a2 a3 a4 a5 : Value} {s0 : Int32} {h : AHp} : Rf d 67 6 [a0, a1, a2, a3, a4, a5] [.int s0] h = Rf d 67 7 [a0, a1, a2, .int s0, a4, a5] [] h := Rf_go ((stp_of c67_6).trans rfl)
theorem c67_7 : cd 67 7 = some (7, .aload_n 0, 1, []) := by decide +kernel
theorem x67_7 {d : Nat} {a1 a2 a3 a4 a5 : Value} {x : Nat} {h : AHp} : Rf d 67 7 [.ref x, a1, a2, a3, a4, a5] [] h = Rf d 67 8 [.ref x, a1, a2, a3, a4, a5] [.ref x] h := Rf_go ((stp_of c67_7).trans rfl)
theorem c67_8 : cd 67 8 = some (8, .getfield 18, 3, [(6, 3)]) := by decide +kernel
theorem x67_8 {d : Nat} {a0 a1 a2 a3 a4 a5 : Value} {s0 : Nat} {h : AHp} : Rf d 67 8 [a0, a1, a2, a3, a4, a5] [.ref s0] h = if cls (h.1 s0) = 6 ∧ oKr (h.1 s0) 3 = true then Rf d 67 11 [a0, a1, a2, a3, a4, a5] [.ref (oR (h.1 s0) 3)] h else Rx d 67 8 [a0, a1, a2, a3, a4, a5] [.ref s0] h := getR c67_8
theorem c67_11 : cd 67 11 = some (11, .iload_n 1, 1, []) := by decide +kernel
theorem x67_11 {d : Nat} {a0 a2 a3 a4 a5 : Value} {s0 : Nat} {x : Int32} {h : AHp} : Rf d 67 11 [a0, .int x, a2, a3, a4, a5] [.ref s0] h = Rf d 67 12 [a0, .int x, a2, a3, a4, a5] [.int x, .ref s0] h := Rf_go ((stp_of c67_11).trans rfl)
theorem c67_12 : cd 67 12 = some (12, .iaload, 1, []) := by decide +kernel
theorem x67_12 {d : Nat} {a0 a1 a2 a3 a4 a5 : Value} {s0 : Int32} {s1 : Nat} {h : AHp} : Rf d 67 12 [a0, a1, a2, a3, a4, a5] [.int s0, .ref s1] h = if (aT (h.1 s1) = 0 ∨ aT (h.1 s1) = 10) ∧ inB s0 (aN (h.1 s1)) = true then Rf d 67 13 [a0, a1, a2, a3, a4, a5] [.int (aF (h.1 s1) s0.toNatClampNeg)] h else Rx d 67 12 [a0, a1, a2, a3, a4, a5] [.int s0, .ref s1] h := ldI c67_12
theorem c67_13 : cd 67 13 = some (13, .istore 4, 2, []) := by decide +kernel
theorem x67_13 {d : Nat} {a0 a1 a2 a3 a4 a5 : Value} {s0 : Int32} {h : AHp} : Rf d 67 13 [a0, a1, a2, a3, a4, a5] [.int s0] h = Rf d 67 15 [a0, a1, a2, a3, .int s0, a5] [] h := Rf_go ((stp_of c67_13).trans rfl)
theorem c67_15 : cd 67 15 = some (15, .iconst 0, 1, []) := by decide +kernel
theorem x67_15 {d : Nat} {a0 a1 a2 a3 a4 a5 : Value} {h : AHp} : Rf d 67 15 [a0, a1, a2, a3, a4, a5] [] h = Rf d 67 16 [a0, a1, a2, a3, a4, a5] [.int 0] h := Rf_go ((stp_of c67_15).trans rfl)
theorem c67_16 : cd 67 16 = some (16, .istore 5, 2, []) := by decide +kernel
theorem x67_16 {d : Nat} {a0 a1 a2 a3 a4 a5 : Value} {s0 : Int32} {h : AHp} : Rf d 67 16 [a0, a1, a2, a3, a4, a5] [.int s0] h = Rf d 67 18 [a0, a1, a2, a3, a4, .int s0] [] h := Rf_go ((stp_of c67_16).trans rfl)
theorem c67_18 : cd 67 18 = some (18, .iload 5, 2, []) := by decide +kernel
theorem x67_18 {d : Nat} {a0 a1 a2 a3 a4 : Value} {x : Int32} {h : AHp} : Rf d 67 18 [a0, a1, a2, a3, a4, .int x] [] h = Rf d 67 20 [a0, a1, a2, a3, a4, .int x] [.int x] h := Rf_go ((stp_of c67_18).trans rfl)
theorem c67_20 : cd 67 20 = some (20, .aload_n 0, 1, []) := by decide +kernel
theorem x67_20 {d : Nat} {a1 a2 a3 a4 a5 : Value} {s0 : Int32} {x : Nat} {h : AHp} : Rf d 67 20 [.ref x, a1, a2, a3, a4, a5] [.int s0] h = Rf d 67 21 [.ref x, a1, a2, a3, a4, a5] [.ref x, .int s0] h := Rf_go ((stp_of c67_20).trans rfl)
theorem c67_21 : cd 67 21 = some (21, .getfield 72, 3, [(6, 0)]) := by decide +kernel
theorem x67_21 {d : Nat} {a0 a1 a2 a3 a4 a5 : Value} {s0 : Nat} {s1 : Int32} {h : AHp} : Rf d 67 21 [a0, a1, a2, a3, a4, a5] [.ref s0, .int s1] h = if cls (h.1 s0) = 6 ∧ oKi (h.1 s0) 0 = true then Rf d 67 24 [a0, a1, a2, a3, a4, a5] [.int (oN (h.1 s0) 0), .int s1] h else Rx d 67 21 [a0, a1, a2, a3, a4, a5] [.ref s0, .int s1] h := getI c67_21
theorem c67_24 : cd 67 24 = some (24, .if_icmp .ge 56, 3, [(80, 0)]) := by decide +kernel
theorem x67_24 {d : Nat} {a0 a1 a2 a3 a4 a5 : Value} {s0 : Int32} {s1 : Int32} {h : AHp} : Rf d 67 24 [a0, a1, a2, a3, a4, a5] [.int s0, .int s1] h = if s1 < s0 then Rf d 67 27 [a0, a1, a2, a3, a4, a5] [] h else Rf d 67 80 [a0, a1, a2, a3, a4, a5] [] h := Rf_brn ((stp_of c67_24).trans rfl)
theorem c67_80 : cd 67 80 = some (80, .iload 4, 2, []) := by decide +kernel
theorem x67_80 {d : Nat} {a0 a1 a2 a3 a5 : Value} {x : Int32} {h : AHp} : Rf d 67 80 [a0, a1, a2, a3, .int x, a5] [] h = Rf d 67 82 [a0, a1, a2, a3, .int x, a5] [.int x] h := Rf_go ((stp_of c67_80).trans rfl)
theorem c67_82 : cd 67 82 = some (82, .iload_n 3, 1, []) := by decide +kernel
theorem x67_82 {d : Nat} {a0 a1 a2 a4 a5 : Value} {s0 : Int32} {x : Int32} {h : AHp} : Rf d 67 82 [a0, a1, a2, .int x, a4, a5] [.int s0] h = Rf d 67 83 [a0, a1, a2, .int x, a4, a5] [.int x, .int s0] h := Rf_go ((stp_of c67_82).trans rfl)
theorem c67_83 : cd 67 83 = some (83, .isub, 1, []) := by decide +kernel
theorem x67_83 {d : Nat} {a0 a1 a2 a3 a4 a5 : Value} {s0 : Int32} {s1 : Int32} {h : AHp} : Rf d 67 83 [a0, a1, a2, a3, a4, a5] [.int s0, .int s1] h = Rf d 67 84 [a0, a1, a2, a3, a4, a5] [.int (s1 - s0)] h := Rf_go ((stp_of c67_83).trans rfl)
theorem c67_84 : cd 67 84 = some (84, .ireturn, 1, []) := by decide +kernel
theorem x67_84 {d : Nat} {a0 a1 a2 a3 a4 a5 : Value} {s0 : Int32} {h : AHp} : Rf d 67 84 [a0, a1, a2, a3, a4, a5] [.int s0] h = some (some (.int s0), h) := Rf_end (by rw [stp_of c67_84]; simp only [stpI]; rw [if_pos (show retI (mH 67).2.2.1 s0 = true from retI_int)])
theorem c67_27 : cd 67 27 = some (27, .aload_n 0, 1, []) := by decide +kernel
theorem x67_27 {d : Nat} {a1 a2 a3 a4 a5 : Value} {x : Nat} {h : AHp} : Rf d 67 27 [.ref x, a1, a2, a3, a4, a5] [] h = Rf d 67 28 [.ref x, a1, a2, a3, a4, a5] [.ref x] h := Rf_go ((stp_of c67_27).trans rfl)
theorem c67_28 : cd 67 28 = some (28, .getfield 21, 3, [(6, 4)]) := by decide +kernel
theorem x67_28 {d : Nat} {a0 a1 a2 a3 a4 a5 : Value} {s0 : Nat} {h : AHp} : Rf d 67 28 [a0, a1, a2, a3, a4, a5] [.ref s0] h = if cls (h.1 s0) = 6 ∧ oKr (h.1 s0) 4 = true then Rf d 67 31 [a0, a1, a2, a3, a4, a5] [.ref (oR (h.1 s0) 4)] h else Rx d 67 28 [a0, a1, a2, a3, a4, a5] [.ref s0] h := getR c67_28
theorem c67_31 : cd 67 31 = some (31, .iload 5, 2, []) := by decide +kernel
theorem x67_31 {d : Nat} {a0 a1 a2 a3 a4 : Value} {s0 : Nat} {x : Int32} {h : AHp} : Rf d 67 31 [a0, a1, a2, a3, a4, .int x] [.ref s0] h = Rf d 67 33 [a0, a1, a2, a3, a4, .int x] [.int x, .ref s0] h := Rf_go ((stp_of c67_31).trans rfl)
theorem c67_33 : cd 67 33 = some (33, .iaload, 1, []) := by decide +kernel
theorem x67_33 {d : Nat} {a0 a1 a2 a3 a4 a5 : Value} {s0 : Int32} {s1 : Nat} {h : AHp} : Rf d 67 33 [a0, a1, a2, a3, a4, a5] [.int s0, .ref s1] h = if (aT (h.1 s1) = 0 ∨ aT (h.1 s1) = 10) ∧ inB s0 (aN (h.1 s1)) = true then Rf d 67 34 [a0, a1, a2, a3, a4, a5] [.int (aF (h.1 s1) s0.toNatClampNeg)] h else Rx d 67 33 [a0, a1, a2, a3, a4, a5] [.int s0, .ref s1] h := ldI c67_33
theorem c67_34 : cd 67 34 = some (34, .aload_n 0, 1, []) := by decide +kernel
theorem x67_34 {d : Nat} {a1 a2 a3 a4 a5 : Value} {s0 : Int32} {x : Nat} {h : AHp} : Rf d 67 34 [.ref x, a1, a2, a3, a4, a5] [.int s0] h = Rf d 67 35 [.ref x, a1, a2, a3, a4, a5] [.ref x, .int s0] h := Rf_go ((stp_of c67_34).trans rfl)
theorem c67_35 : cd 67 35 = some (35, .getfield 21, 3, [(6, 4)]) := by decide +kernel
theorem x67_35 {d : Nat} {a0 a1 a2 a3 a4 a5 : Value} {s0 : Nat} {s1 : Int32} {h : AHp} : Rf d 67 35 [a0, a1, a2, a3, a4, a5] [.ref s0, .int s1] h = if cls (h.1 s0) = 6 ∧ oKr (h.1 s0) 4 = true then Rf d 67 38 [a0, a1, a2, a3, a4, a5] [.ref (oR (h.1 s0) 4), .int s1] h else Rx d 67 35 [a0, a1, a2, a3, a4, a5] [.ref s0, .int s1] h := getR c67_35
theorem c67_38 : cd 67 38 = some (38, .iload_n 1, 1, []) := by decide +kernel
theorem x67_38 {d : Nat} {a0 a2 a3 a4 a5 : Value} {s0 : Nat} {s1 : Int32} {x : Int32} {h : AHp} : Rf d 67 38 [a0, .int x, a2, a3, a4, a5] [.ref s0, .int s1] h = Rf d 67 39 [a0, .int x, a2, a3, a4, a5] [.int x, .ref s0, .int s1] h := Rf_go ((stp_of c67_38).trans rfl)
theorem c67_39 : cd 67 39 = some (39, .iaload, 1, []) := by decide +kernel
theorem x67_39 {d : Nat} {a0 a1 a2 a3 a4 a5 : Value} {s0 : Int32} {s1 : Nat} {s2 : Int32} {h : AHp} : Rf d 67 39 [a0, a1, a2, a3, a4, a5] [.int s0, .ref s1, .int s2] h = if (aT (h.1 s1) = 0 ∨ aT (h.1 s1) = 10) ∧ inB s0 (aN (h.1 s1)) = true then Rf d 67 40 [a0, a1, a2, a3, a4, a5] [.int (aF (h.1 s1) s0.toNatClampNeg), .int s2] h else Rx d 67 39 [a0, a1, a2, a3, a4, a5] [.int s0, .ref s1, .int s2] h := ldI c67_39
theorem c67_40 : cd 67 40 = some (40, .isub, 1, []) := by decide +kernel
theorem x67_40 {d : Nat} {a0 a1 a2 a3 a4 a5 : Value} {s0 : Int32} {s1 : Int32} {h : AHp} : Rf d 67 40 [a0, a1, a2, a3, a4, a5] [.int s0, .int s1] h = Rf d 67 41 [a0, a1, a2, a3, a4, a5] [.int (s1 - s0)] h := Rf_go ((stp_of c67_40).trans rfl)
theorem c67_41 : cd 67 41 = some (41, .invokestatic 183, 3, [(0, 200)]) := by decide +kernel
theorem xc67_41 {d : Nat} {a0 a1 a2 a3 a4 a5 : Value} {s0 : Int32} {h : AHp} {h1 : AHp} {v : Int32} (hq : Rf d 200 0 [.int s0] [] h = some (some (.int v), h1)) : Rf (d + 1) 67 41 [a0, a1, a2, a3, a4, a5] [.int s0] h = Rf (d + 1) 67 44 [a0, a1, a2, a3, a4, a5] [.int v] h1 := clS (as := [.int s0]) c67_41 rfl rfl (by simp [isV]) hq
theorem c67_44 : cd 67 44 = some (44, .iload_n 2, 1, []) := by decide +kernel
theorem x67_44 {d : Nat} {a0 a1 a3 a4 a5 : Value} {s0 : Int32} {x : Int32} {h : AHp} : Rf d 67 44 [a0, a1, .int x, a3, a4, a5] [.int s0] h = Rf d 67 45 [a0, a1, .int x, a3, a4, a5] [.int x, .int s0] h := Rf_go ((stp_of c67_44).trans rfl)
theorem c67_45 : cd 67 45 = some (45, .if_icmp .gt 29, 3, [(74, 0)]) := by decide +kernel
theorem x67_45 {d : Nat} {a0 a1 a2 a3 a4 a5 : Value} {s0 : Int32} {s1 : Int32} {h : AHp} : Rf d 67 45 [a0, a1, a2, a3, a4, a5] [.int s0, .int s1] h = if s0 < s1 then Rf d 67 74 [a0, a1, a2, a3, a4, a5] [] h else Rf d 67 48 [a0, a1, a2, a3, a4, a5] [] h := Rf_brd ((stp_of c67_45).trans rfl)
theorem c67_74 : cd 67 74 = some (74, .iinc 5 1, 3, []) := by decide +kernel
theorem x67_74 {d : Nat} {a0 a1 a2 a3 a4 : Value} {x : Int32} {h : AHp} : Rf d 67 74 [a0, a1, a2, a3, a4, .int x] [] h = Rf d 67 77 [a0, a1, a2, a3, a4, .int (x + 1)] [] h := Rf_go ((stp_of c67_74).trans rfl)
theorem c67_77 : cd 67 77 = some (77, .goto (-59), 3, [(18, 0)]) := by decide +kernel
theorem x67_77 {d : Nat} {a0 a1 a2 a3 a4 a5 : Value} {h : AHp} : Rf d 67 77 [a0, a1, a2, a3, a4, a5] [] h = Rf d 67 18 [a0, a1, a2, a3, a4, a5] [] h := Rf_go ((stp_of c67_77).trans rfl)
theorem c67_48 : cd 67 48 = some (48, .iload_n 3, 1, []) := by decide +kernel
theorem x67_48 {d : Nat} {a0 a1 a2 a4 a5 : Value} {x : Int32} {h : AHp} : Rf d 67 48 [a0, a1, a2, .int x, a4, a5] [] h = Rf d 67 49 [a0, a1, a2, .int x, a4, a5] [.int x] h := Rf_go ((stp_of c67_48).trans rfl)
theorem c67_49 : cd 67 49 = some (49, .aload_n 0, 1, []) := by decide +kernel
theorem x67_49 {d : Nat} {a1 a2 a3 a4 a5 : Value} {s0 : Int32} {x : Nat} {h : AHp} : Rf d 67 49 [.ref x, a1, a2, a3, a4, a5] [.int s0] h = Rf d 67 50 [.ref x, a1, a2, a3, a4, a5] [.ref x, .int s0] h := Rf_go ((stp_of c67_49).trans rfl)
theorem c67_50 : cd 67 50 = some (50, .getfield 18, 3, [(6, 3)]) := by decide +kernel
theorem x67_50 {d : Nat} {a0 a1 a2 a3 a4 a5 : Value} {s0 : Nat} {s1 : Int32} {h : AHp} : Rf d 67 50 [a0, a1, a2, a3, a4, a5] [.ref s0, .int s1] h = if cls (h.1 s0) = 6 ∧ oKr (h.1 s0) 3 = true then Rf d 67 53 [a0, a1, a2, a3, a4, a5] [.ref (oR (h.1 s0) 3), .int s1] h else Rx d 67 50 [a0, a1, a2, a3, a4, a5] [.ref s0, .int s1] h := getR c67_50
theorem c67_53 : cd 67 53 = some (53, .iload 5, 2, []) := by decide +kernel
theorem x67_53 {d : Nat} {a0 a1 a2 a3 a4 : Value} {s0 : Nat} {s1 : Int32} {x : Int32} {h : AHp} : Rf d 67 53 [a0, a1, a2, a3, a4, .int x] [.ref s0, .int s1] h = Rf d 67 55 [a0, a1, a2, a3, a4, .int x] [.int x, .ref s0, .int s1] h := Rf_go ((stp_of c67_53).trans rfl)
theorem c67_55 : cd 67 55 = some (55, .iaload, 1, []) := by decide +kernel
theorem x67_55 {d : Nat} {a0 a1 a2 a3 a4 a5 : Value} {s0 : Int32} {s1 : Nat} {s2 : Int32} {h : AHp} : Rf d 67 55 [a0, a1, a2, a3, a4, a5] [.int s0, .ref s1, .int s2] h = if (aT (h.1 s1) = 0 ∨ aT (h.1 s1) = 10) ∧ inB s0 (aN (h.1 s1)) = true then Rf d 67 56 [a0, a1, a2, a3, a4, a5] [.int (aF (h.1 s1) s0.toNatClampNeg), .int s2] h else Rx d 67 55 [a0, a1, a2, a3, a4, a5] [.int s0, .ref s1, .int s2] h := ldI c67_55
theorem c67_56 : cd 67 56 = some (56, .invokestatic 120, 3, [(0, 202)]) := by decide +kernel
theorem xc67_56 {d : Nat} {a0 a1 a2 a3 a4 a5 : Value} {s0 : Int32} {s1 : Int32} {h : AHp} {h1 : AHp} {v : Int32} (hq : Rf d 202 0 [.int s1, .int s0] [] h = some (some (.int v), h1)) : Rf (d + 1) 67 56 [a0, a1, a2, a3, a4, a5] [.int s0, .int s1] h = Rf (d + 1) 67 59 [a0, a1, a2, a3, a4, a5] [.int v] h1 := clS (as := [.int s1, .int s0]) c67_56 rfl rfl (by simp [isV]) hq
theorem c67_59 : cd 67 59 = some (59, .istore_n 3, 1, []) := by decide +kernel
theorem x67_59 {d : Nat} {a0 a1 a2 a3 a4 a5 : Value} {s0 : Int32} {h : AHp} : Rf d 67 59 [a0, a1, a2, a3, a4, a5] [.int s0] h = Rf d 67 60 [a0, a1, a2, .int s0, a4, a5] [] h := Rf_go ((stp_of c67_59).trans rfl)
theorem c67_60 : cd 67 60 = some (60, .iload 4, 2, []) := by decide +kernel
theorem x67_60 {d : Nat} {a0 a1 a2 a3 a5 : Value} {x : Int32} {h : AHp} : Rf d 67 60 [a0, a1, a2, a3, .int x, a5] [] h = Rf d 67 62 [a0, a1, a2, a3, .int x, a5] [.int x] h := Rf_go ((stp_of c67_60).trans rfl)
theorem c67_62 : cd 67 62 = some (62, .aload_n 0, 1, []) := by decide +kernel
theorem x67_62 {d : Nat} {a1 a2 a3 a4 a5 : Value} {s0 : Int32} {x : Nat} {h : AHp} : Rf d 67 62 [.ref x, a1, a2, a3, a4, a5] [.int s0] h = Rf d 67 63 [.ref x, a1, a2, a3, a4, a5] [.ref x, .int s0] h := Rf_go ((stp_of c67_62).trans rfl)
theorem c67_63 : cd 67 63 = some (63, .getfield 18, 3, [(6, 3)]) := by decide +kernel
theorem x67_63 {d : Nat} {a0 a1 a2 a3 a4 a5 : Value} {s0 : Nat} {s1 : Int32} {h : AHp} : Rf d 67 63 [a0, a1, a2, a3, a4, a5] [.ref s0, .int s1] h = if cls (h.1 s0) = 6 ∧ oKr (h.1 s0) 3 = true then Rf d 67 66 [a0, a1, a2, a3, a4, a5] [.ref (oR (h.1 s0) 3), .int s1] h else Rx d 67 63 [a0, a1, a2, a3, a4, a5] [.ref s0, .int s1] h := getR c67_63
theorem c67_66 : cd 67 66 = some (66, .iload 5, 2, []) := by decide +kernel
theorem x67_66 {d : Nat} {a0 a1 a2 a3 a4 : Value} {s0 : Nat} {s1 : Int32} {x : Int32} {h : AHp} : Rf d 67 66 [a0, a1, a2, a3, a4, .int x] [.ref s0, .int s1] h = Rf d 67 68 [a0, a1, a2, a3, a4, .int x] [.int x, .ref s0, .int s1] h := Rf_go ((stp_of c67_66).trans rfl)
theorem c67_68 : cd 67 68 = some (68, .iaload, 1, []) := by decide +kernel
theorem x67_68 {d : Nat} {a0 a1 a2 a3 a4 a5 : Value} {s0 : Int32} {s1 : Nat} {s2 : Int32} {h : AHp} : Rf d 67 68 [a0, a1, a2, a3, a4, a5] [.int s0, .ref s1, .int s2] h = if (aT (h.1 s1) = 0 ∨ aT (h.1 s1) = 10) ∧ inB s0 (aN (h.1 s1)) = true then Rf d 67 69 [a0, a1, a2, a3, a4, a5] [.int (aF (h.1 s1) s0.toNatClampNeg), .int s2] h else Rx d 67 68 [a0, a1, a2, a3, a4, a5] [.int s0, .ref s1, .int s2] h := ldI c67_68
theorem c67_69 : cd 67 69 = some (69, .invokestatic 126, 3, [(0, 201)]) := by decide +kernel
theorem xc67_69 {d : Nat} {a0 a1 a2 a3 a4 a5 : Value} {s0 : Int32} {s1 : Int32} {h : AHp} {h1 : AHp} {v : Int32} (hq : Rf d 201 0 [.int s1, .int s0] [] h = some (some (.int v), h1)) : Rf (d + 1) 67 69 [a0, a1, a2, a3, a4, a5] [.int s0, .int s1] h = Rf (d + 1) 67 72 [a0, a1, a2, a3, a4, a5] [.int v] h1 := clS (as := [.int s1, .int s0]) c67_69 rfl rfl (by simp [isV]) hq
theorem c67_72 : cd 67 72 = some (72, .istore 4, 2, []) := by decide +kernel
theorem x67_72 {d : Nat} {a0 a1 a2 a3 a4 a5 : Value} {s0 : Int32} {h : AHp} : Rf d 67 72 [a0, a1, a2, a3, a4, a5] [.int s0] h = Rf d 67 74 [a0, a1, a2, a3, .int s0, a5] [] h := Rf_go ((stp_of c67_72).trans rfl)
-- 68: X6_bargainOf
theorem c68_0 : cd 68 0 = some (0, .aload_n 0, 1, []) := by decide +kernel
theorem x68_0 {d : Nat} {a1 a2 a3 a4 a5 a6 a7 a8 : Value} {x : Nat} {h : AHp} : Rf d 68 0 [.ref x, a1, a2, a3, a4, a5, a6, a7, a8] [] h = Rf d 68 1 [.ref x, a1, a2, a3, a4, a5, a6, a7, a8] [.ref x] h := Rf_go ((stp_of c68_0).trans rfl)
theorem c68_1 : cd 68 1 = some (1, .iload_n 1, 1, []) := by decide +kernel
theorem x68_1 {d : Nat} {a0 a2 a3 a4 a5 a6 a7 a8 : Value} {s0 : Nat} {x : Int32} {h : AHp} : Rf d 68 1 [a0, .int x, a2, a3, a4, a5, a6, a7, a8] [.ref s0] h = Rf d 68 2 [a0, .int x, a2, a3, a4, a5, a6, a7, a8] [.int x, .ref s0] h := Rf_go ((stp_of c68_1).trans rfl)
theorem c68_2 : cd 68 2 = some (2, .invokevirtual 149, 3, [(6, 54)]) := by decide +kernel
theorem xc68_2 {d : Nat} {a0 a1 a2 a3 a4 a5 a6 a7 a8 : Value} {s0 : Int32} {s1 : Nat} {h : AHp} {h1 : AHp} {v : Int32} (hr : cls (h.1 s1) = 6) (hq : Rf d 54 0 [.ref s1, .int s0] [] h = some (some (.int v), h1)) : Rf (d + 1) 68 2 [a0, a1, a2, a3, a4, a5, a6, a7, a8] [.int s0, .ref s1] h = Rf (d + 1) 68 5 [a0, a1, a2, a3, a4, a5, a6, a7, a8] [.int v] h1 := clV (c := 54) (as := [.int s0]) c68_2 rfl (by simp [isV]) (by rw [hr]; rfl) hq
theorem c68_5 : cd 68 5 = some (5, .istore 4, 2, []) := by decide +kernel
theorem x68_5 {d : Nat} {a0 a1 a2 a3 a4 a5 a6 a7 a8 : Value} {s0 : Int32} {h : AHp} : Rf d 68 5 [a0, a1, a2, a3, a4, a5, a6, a7, a8] [.int s0] h = Rf d 68 7 [a0, a1, a2, a3, .int s0, a5, a6, a7, a8] [] h := Rf_go ((stp_of c68_5).trans rfl)
theorem c68_7 : cd 68 7 = some (7, .iload 4, 2, []) := by decide +kernel
theorem x68_7 {d : Nat} {a0 a1 a2 a3 a5 a6 a7 a8 : Value} {x : Int32} {h : AHp} : Rf d 68 7 [a0, a1, a2, a3, .int x, a5, a6, a7, a8] [] h = Rf d 68 9 [a0, a1, a2, a3, .int x, a5, a6, a7, a8] [.int x] h := Rf_go ((stp_of c68_7).trans rfl)
theorem c68_9 : cd 68 9 = some (9, .aload_n 0, 1, []) := by decide +kernel
theorem x68_9 {d : Nat} {a1 a2 a3 a4 a5 a6 a7 a8 : Value} {s0 : Int32} {x : Nat} {h : AHp} : Rf d 68 9 [.ref x, a1, a2, a3, a4, a5, a6, a7, a8] [.int s0] h = Rf d 68 10 [.ref x, a1, a2, a3, a4, a5, a6, a7, a8] [.ref x, .int s0] h := Rf_go ((stp_of c68_9).trans rfl)
theorem c68_10 : cd 68 10 = some (10, .iload_n 1, 1, []) := by decide +kernel
theorem x68_10 {d : Nat} {a0 a2 a3 a4 a5 a6 a7 a8 : Value} {s0 : Nat} {s1 : Int32} {x : Int32} {h : AHp} : Rf d 68 10 [a0, .int x, a2, a3, a4, a5, a6, a7, a8] [.ref s0, .int s1] h = Rf d 68 11 [a0, .int x, a2, a3, a4, a5, a6, a7, a8] [.int x, .ref s0, .int s1] h := Rf_go ((stp_of c68_10).trans rfl)
theorem c68_11 : cd 68 11 = some (11, .invokevirtual 155, 3, [(6, 57)]) := by decide +kernel
theorem xc68_11 {d : Nat} {a0 a1 a2 a3 a4 a5 a6 a7 a8 : Value} {s0 : Int32} {s1 : Nat} {s2 : Int32} {h : AHp} {h1 : AHp} {v : Int32} (hr : cls (h.1 s1) = 6) (hq : Rf d 57 0 [.ref s1, .int s0] [] h = some (some (.int v), h1)) : Rf (d + 1) 68 11 [a0, a1, a2, a3, a4, a5, a6, a7, a8] [.int s0, .ref s1, .int s2] h = Rf (d + 1) 68 14 [a0, a1, a2, a3, a4, a5, a6, a7, a8] [.int v, .int s2] h1 := clV (c := 57) (as := [.int s0]) c68_11 rfl (by simp [isV]) (by rw [hr]; rfl) hq
theorem c68_14 : cd 68 14 = some (14, .iadd, 1, []) := by decide +kernel
theorem x68_14 {d : Nat} {a0 a1 a2 a3 a4 a5 a6 a7 a8 : Value} {s0 : Int32} {s1 : Int32} {h : AHp} : Rf d 68 14 [a0, a1, a2, a3, a4, a5, a6, a7, a8] [.int s0, .int s1] h = Rf d 68 15 [a0, a1, a2, a3, a4, a5, a6, a7, a8] [.int (s1 + s0)] h := Rf_go ((stp_of c68_14).trans rfl)
theorem c68_15 : cd 68 15 = some (15, .istore 5, 2, []) := by decide +kernel
theorem x68_15 {d : Nat} {a0 a1 a2 a3 a4 a5 a6 a7 a8 : Value} {s0 : Int32} {h : AHp} : Rf d 68 15 [a0, a1, a2, a3, a4, a5, a6, a7, a8] [.int s0] h = Rf d 68 17 [a0, a1, a2, a3, a4, .int s0, a6, a7, a8] [] h := Rf_go ((stp_of c68_15).trans rfl)
theorem c68_17 : cd 68 17 = some (17, .iload_n 3, 1, []) := by decide +kernel
theorem x68_17 {d : Nat} {a0 a1 a2 a4 a5 a6 a7 a8 : Value} {x : Int32} {h : AHp} : Rf d 68 17 [a0, a1, a2, .int x, a4, a5, a6, a7, a8] [] h = Rf d 68 18 [a0, a1, a2, .int x, a4, a5, a6, a7, a8] [.int x] h := Rf_go ((stp_of c68_17).trans rfl)
theorem c68_18 : cd 68 18 = some (18, .aload_n 0, 1, []) := by decide +kernel
theorem x68_18 {d : Nat} {a1 a2 a3 a4 a5 a6 a7 a8 : Value} {s0 : Int32} {x : Nat} {h : AHp} : Rf d 68 18 [.ref x, a1, a2, a3, a4, a5, a6, a7, a8] [.int s0] h = Rf d 68 19 [.ref x, a1, a2, a3, a4, a5, a6, a7, a8] [.ref x, .int s0] h := Rf_go ((stp_of c68_18).trans rfl)
theorem c68_19 : cd 68 19 = some (19, .getfield 18, 3, [(6, 3)]) := by decide +kernel
theorem x68_19 {d : Nat} {a0 a1 a2 a3 a4 a5 a6 a7 a8 : Value} {s0 : Nat} {s1 : Int32} {h : AHp} : Rf d 68 19 [a0, a1, a2, a3, a4, a5, a6, a7, a8] [.ref s0, .int s1] h = if cls (h.1 s0) = 6 ∧ oKr (h.1 s0) 3 = true then Rf d 68 22 [a0, a1, a2, a3, a4, a5, a6, a7, a8] [.ref (oR (h.1 s0) 3), .int s1] h else Rx d 68 19 [a0, a1, a2, a3, a4, a5, a6, a7, a8] [.ref s0, .int s1] h := getR c68_19
theorem c68_22 : cd 68 22 = some (22, .iload_n 1, 1, []) := by decide +kernel
theorem x68_22 {d : Nat} {a0 a2 a3 a4 a5 a6 a7 a8 : Value} {s0 : Nat} {s1 : Int32} {x : Int32} {h : AHp} : Rf d 68 22 [a0, .int x, a2, a3, a4, a5, a6, a7, a8] [.ref s0, .int s1] h = Rf d 68 23 [a0, .int x, a2, a3, a4, a5, a6, a7, a8] [.int x, .ref s0, .int s1] h := Rf_go ((stp_of c68_22).trans rfl)
theorem c68_23 : cd 68 23 = some (23, .iaload, 1, []) := by decide +kernel
theorem x68_23 {d : Nat} {a0 a1 a2 a3 a4 a5 a6 a7 a8 : Value} {s0 : Int32} {s1 : Nat} {s2 : Int32} {h : AHp} : Rf d 68 23 [a0, a1, a2, a3, a4, a5, a6, a7, a8] [.int s0, .ref s1, .int s2] h = if (aT (h.1 s1) = 0 ∨ aT (h.1 s1) = 10) ∧ inB s0 (aN (h.1 s1)) = true then Rf d 68 24 [a0, a1, a2, a3, a4, a5, a6, a7, a8] [.int (aF (h.1 s1) s0.toNatClampNeg), .int s2] h else Rx d 68 23 [a0, a1, a2, a3, a4, a5, a6, a7, a8] [.int s0, .ref s1, .int s2] h := ldI c68_23
theorem c68_24 : cd 68 24 = some (24, .aload_n 0, 1, []) := by decide +kernel
theorem x68_24 {d : Nat} {a1 a2 a3 a4 a5 a6 a7 a8 : Value} {s0 : Int32} {s1 : Int32} {x : Nat} {h : AHp} : Rf d 68 24 [.ref x, a1, a2, a3, a4, a5, a6, a7, a8] [.int s0, .int s1] h = Rf d 68 25 [.ref x, a1, a2, a3, a4, a5, a6, a7, a8] [.ref x, .int s0, .int s1] h := Rf_go ((stp_of c68_24).trans rfl)
theorem c68_25 : cd 68 25 = some (25, .getfield 68, 3, [(6, 11)]) := by decide +kernel
theorem x68_25 {d : Nat} {a0 a1 a2 a3 a4 a5 a6 a7 a8 : Value} {s0 : Nat} {s1 : Int32} {s2 : Int32} {h : AHp} : Rf d 68 25 [a0, a1, a2, a3, a4, a5, a6, a7, a8] [.ref s0, .int s1, .int s2] h = if cls (h.1 s0) = 6 ∧ oKr (h.1 s0) 11 = true then Rf d 68 28 [a0, a1, a2, a3, a4, a5, a6, a7, a8] [.ref (oR (h.1 s0) 11), .int s1, .int s2] h else Rx d 68 25 [a0, a1, a2, a3, a4, a5, a6, a7, a8] [.ref s0, .int s1, .int s2] h := getR c68_25
theorem c68_28 : cd 68 28 = some (28, .getfield 171, 3, [(3, 1)]) := by decide +kernel
theorem x68_28 {d : Nat} {a0 a1 a2 a3 a4 a5 a6 a7 a8 : Value} {s0 : Nat} {s1 : Int32} {s2 : Int32} {h : AHp} : Rf d 68 28 [a0, a1, a2, a3, a4, a5, a6, a7, a8] [.ref s0, .int s1, .int s2] h = if cls (h.1 s0) = 3 ∧ oKi (h.1 s0) 1 = true then Rf d 68 31 [a0, a1, a2, a3, a4, a5, a6, a7, a8] [.int (oN (h.1 s0) 1), .int s1, .int s2] h else Rx d 68 28 [a0, a1, a2, a3, a4, a5, a6, a7, a8] [.ref s0, .int s1, .int s2] h := getI c68_28
theorem c68_31 : cd 68 31 = some (31, .iadd, 1, []) := by decide +kernel
theorem x68_31 {d : Nat} {a0 a1 a2 a3 a4 a5 a6 a7 a8 : Value} {s0 : Int32} {s1 : Int32} {s2 : Int32} {h : AHp} : Rf d 68 31 [a0, a1, a2, a3, a4, a5, a6, a7, a8] [.int s0, .int s1, .int s2] h = Rf d 68 32 [a0, a1, a2, a3, a4, a5, a6, a7, a8] [.int (s1 + s0), .int s2] h := Rf_go ((stp_of c68_31).trans rfl)
theorem c68_32 : cd 68 32 = some (32, .invokestatic 120, 3, [(0, 202)]) := by decide +kernel
theorem xc68_32 {d : Nat} {a0 a1 a2 a3 a4 a5 a6 a7 a8 : Value} {s0 : Int32} {s1 : Int32} {h : AHp} {h1 : AHp} {v : Int32} (hq : Rf d 202 0 [.int s1, .int s0] [] h = some (some (.int v), h1)) : Rf (d + 1) 68 32 [a0, a1, a2, a3, a4, a5, a6, a7, a8] [.int s0, .int s1] h = Rf (d + 1) 68 35 [a0, a1, a2, a3, a4, a5, a6, a7, a8] [.int v] h1 := clS (as := [.int s1, .int s0]) c68_32 rfl rfl (by simp [isV]) hq
theorem c68_35 : cd 68 35 = some (35, .istore 6, 2, []) := by decide +kernel
theorem x68_35 {d : Nat} {a0 a1 a2 a3 a4 a5 a6 a7 a8 : Value} {s0 : Int32} {h : AHp} : Rf d 68 35 [a0, a1, a2, a3, a4, a5, a6, a7, a8] [.int s0] h = Rf d 68 37 [a0, a1, a2, a3, a4, a5, .int s0, a7, a8] [] h := Rf_go ((stp_of c68_35).trans rfl)
theorem c68_37 : cd 68 37 = some (37, .iload 5, 2, []) := by decide +kernel
theorem x68_37 {d : Nat} {a0 a1 a2 a3 a4 a6 a7 a8 : Value} {x : Int32} {h : AHp} : Rf d 68 37 [a0, a1, a2, a3, a4, .int x, a6, a7, a8] [] h = Rf d 68 39 [a0, a1, a2, a3, a4, .int x, a6, a7, a8] [.int x] h := Rf_go ((stp_of c68_37).trans rfl)
theorem c68_39 : cd 68 39 = some (39, .bipush 10, 2, []) := by decide +kernel
theorem x68_39 {d : Nat} {a0 a1 a2 a3 a4 a5 a6 a7 a8 : Value} {s0 : Int32} {h : AHp} : Rf d 68 39 [a0, a1, a2, a3, a4, a5, a6, a7, a8] [.int s0] h = Rf d 68 41 [a0, a1, a2, a3, a4, a5, a6, a7, a8] [.int 10, .int s0] h := Rf_go ((stp_of c68_39).trans rfl)
theorem c68_41 : cd 68 41 = some (41, .aload_n 0, 1, []) := by decide +kernel
theorem x68_41 {d : Nat} {a1 a2 a3 a4 a5 a6 a7 a8 : Value} {s0 : Int32} {s1 : Int32} {x : Nat} {h : AHp} : Rf d 68 41 [.ref x, a1, a2, a3, a4, a5, a6, a7, a8] [.int s0, .int s1] h = Rf d 68 42 [.ref x, a1, a2, a3, a4, a5, a6, a7, a8] [.ref x, .int s0, .int s1] h := Rf_go ((stp_of c68_41).trans rfl)
theorem c68_42 : cd 68 42 = some (42, .getfield 32, 3, [(6, 7)]) := by decide +kernel
theorem x68_42 {d : Nat} {a0 a1 a2 a3 a4 a5 a6 a7 a8 : Value} {s0 : Nat} {s1 : Int32} {s2 : Int32} {h : AHp} : Rf d 68 42 [a0, a1, a2, a3, a4, a5, a6, a7, a8] [.ref s0, .int s1, .int s2] h = if cls (h.1 s0) = 6 ∧ oKr (h.1 s0) 7 = true then Rf d 68 45 [a0, a1, a2, a3, a4, a5, a6, a7, a8] [.ref (oR (h.1 s0) 7), .int s1, .int s2] h else Rx d 68 42 [a0, a1, a2, a3, a4, a5, a6, a7, a8] [.ref s0, .int s1, .int s2] h := getR c68_42
theorem c68_45 : cd 68 45 = some (45, .iload_n 1, 1, []) := by decide +kernel
theorem x68_45 {d : Nat} {a0 a2 a3 a4 a5 a6 a7 a8 : Value} {s0 : Nat} {s1 : Int32} {s2 : Int32} {x : Int32} {h : AHp} : Rf d 68 45 [a0, .int x, a2, a3, a4, a5, a6, a7, a8] [.ref s0, .int s1, .int s2] h = Rf d 68 46 [a0, .int x, a2, a3, a4, a5, a6, a7, a8] [.int x, .ref s0, .int s1, .int s2] h := Rf_go ((stp_of c68_45).trans rfl)
theorem c68_46 : cd 68 46 = some (46, .aaload, 1, []) := by decide +kernel
theorem x68_46 {d : Nat} {a0 a1 a2 a3 a4 a5 a6 a7 a8 : Value} {s0 : Int32} {s1 : Nat} {s2 : Int32} {s3 : Int32} {h : AHp} : Rf d 68 46 [a0, a1, a2, a3, a4, a5, a6, a7, a8] [.int s0, .ref s1, .int s2, .int s3] h = if aTq (h.1 s1) = 3 ∧ inB s0 (aN (h.1 s1)) = true ∧ (aG (h.1 s1) s0.toNatClampNeg).isSome = true then Rf d 68 47 [a0, a1, a2, a3, a4, a5, a6, a7, a8] [.ref ((aG (h.1 s1) s0.toNatClampNeg).getD 0), .int s2, .int s3] h else Rx d 68 46 [a0, a1, a2, a3, a4, a5, a6, a7, a8] [.int s0, .ref s1, .int s2, .int s3] h := ldQ c68_46
theorem c68_47 : cd 68 47 = some (47, .getfield 186, 3, [(0, 1), (1, 1), (2, 1), (4, 1), (5, 1), (8, 1), (9, 1)]) := by decide +kernel
theorem x68_47 {d : Nat} {a0 a1 a2 a3 a4 a5 a6 a7 a8 : Value} {s0 : Nat} {s1 : Int32} {s2 : Int32} {h : AHp} : Rf d 68 47 [a0, a1, a2, a3, a4, a5, a6, a7, a8] [.ref s0, .int s1, .int s2] h = if fIx [(0, 1), (1, 1), (2, 1), (4, 1), (5, 1), (8, 1), (9, 1)] (cls (h.1 s0)) = some 1 ∧ oKi (h.1 s0) 1 = true then Rf d 68 50 [a0, a1, a2, a3, a4, a5, a6, a7, a8] [.int (oN (h.1 s0) 1), .int s1, .int s2] h else Rx d 68 47 [a0, a1, a2, a3, a4, a5, a6, a7, a8] [.ref s0, .int s1, .int s2] h := getIk c68_47
theorem c68_50 : cd 68 50 = some (50, .imul, 1, []) := by decide +kernel
theorem x68_50 {d : Nat} {a0 a1 a2 a3 a4 a5 a6 a7 a8 : Value} {s0 : Int32} {s1 : Int32} {s2 : Int32} {h : AHp} : Rf d 68 50 [a0, a1, a2, a3, a4, a5, a6, a7, a8] [.int s0, .int s1, .int s2] h = Rf d 68 51 [a0, a1, a2, a3, a4, a5, a6, a7, a8] [.int (s1 * s0), .int s2] h := Rf_go ((stp_of c68_50).trans rfl)
theorem c68_51 : cd 68 51 = some (51, .iadd, 1, []) := by decide +kernel
theorem x68_51 {d : Nat} {a0 a1 a2 a3 a4 a5 a6 a7 a8 : Value} {s0 : Int32} {s1 : Int32} {h : AHp} : Rf d 68 51 [a0, a1, a2, a3, a4, a5, a6, a7, a8] [.int s0, .int s1] h = Rf d 68 52 [a0, a1, a2, a3, a4, a5, a6, a7, a8] [.int (s1 + s0)] h := Rf_go ((stp_of c68_51).trans rfl)
theorem c68_52 : cd 68 52 = some (52, .istore 7, 2, []) := by decide +kernel
theorem x68_52 {d : Nat} {a0 a1 a2 a3 a4 a5 a6 a7 a8 : Value} {s0 : Int32} {h : AHp} : Rf d 68 52 [a0, a1, a2, a3, a4, a5, a6, a7, a8] [.int s0] h = Rf d 68 54 [a0, a1, a2, a3, a4, a5, a6, .int s0, a8] [] h := Rf_go ((stp_of c68_52).trans rfl)
theorem c68_54 : cd 68 54 = some (54, .iload_n 2, 1, []) := by decide +kernel
theorem x68_54 {d : Nat} {a0 a1 a3 a4 a5 a6 a7 a8 : Value} {x : Int32} {h : AHp} : Rf d 68 54 [a0, a1, .int x, a3, a4, a5, a6, a7, a8] [] h = Rf d 68 55 [a0, a1, .int x, a3, a4, a5, a6, a7, a8] [.int x] h := Rf_go ((stp_of c68_54).trans rfl)
theorem c68_55 : cd 68 55 = some (55, .ifCond .ne 27, 3, [(82, 0)]) := by decide +kernel
theorem x68_55 {d : Nat} {a0 a1 a2 a3 a4 a5 a6 a7 a8 : Value} {s0 : Int32} {h : AHp} : Rf d 68 55 [a0, a1, a2, a3, a4, a5, a6, a7, a8] [.int s0] h = if s0 = 0 then Rf d 68 58 [a0, a1, a2, a3, a4, a5, a6, a7, a8] [] h else Rf d 68 82 [a0, a1, a2, a3, a4, a5, a6, a7, a8] [] h := Rf_brn ((stp_of c68_55).trans rfl)
theorem c68_82 : cd 68 82 = some (82, .iload_n 2, 1, []) := by decide +kernel
theorem x68_82 {d : Nat} {a0 a1 a3 a4 a5 a6 a7 a8 : Value} {x : Int32} {h : AHp} : Rf d 68 82 [a0, a1, .int x, a3, a4, a5, a6, a7, a8] [] h = Rf d 68 83 [a0, a1, .int x, a3, a4, a5, a6, a7, a8] [.int x] h := Rf_go ((stp_of c68_82).trans rfl)
theorem c68_83 : cd 68 83 = some (83, .iconst 1, 1, []) := by decide +kernel
theorem x68_83 {d : Nat} {a0 a1 a2 a3 a4 a5 a6 a7 a8 : Value} {s0 : Int32} {h : AHp} : Rf d 68 83 [a0, a1, a2, a3, a4, a5, a6, a7, a8] [.int s0] h = Rf d 68 84 [a0, a1, a2, a3, a4, a5, a6, a7, a8] [.int 1, .int s0] h := Rf_go ((stp_of c68_83).trans rfl)
theorem c68_84 : cd 68 84 = some (84, .if_icmp .ne 25, 3, [(109, 0)]) := by decide +kernel
theorem x68_84 {d : Nat} {a0 a1 a2 a3 a4 a5 a6 a7 a8 : Value} {s0 : Int32} {s1 : Int32} {h : AHp} : Rf d 68 84 [a0, a1, a2, a3, a4, a5, a6, a7, a8] [.int s0, .int s1] h = if s1 = s0 then Rf d 68 87 [a0, a1, a2, a3, a4, a5, a6, a7, a8] [] h else Rf d 68 109 [a0, a1, a2, a3, a4, a5, a6, a7, a8] [] h := Rf_brn ((stp_of c68_84).trans rfl)
theorem c68_109 : cd 68 109 = some (109, .iload 6, 2, []) := by decide +kernel
theorem x68_109 {d : Nat} {a0 a1 a2 a3 a4 a5 a7 a8 : Value} {x : Int32} {h : AHp} : Rf d 68 109 [a0, a1, a2, a3, a4, a5, .int x, a7, a8] [] h = Rf d 68 111 [a0, a1, a2, a3, a4, a5, .int x, a7, a8] [.int x] h := Rf_go ((stp_of c68_109).trans rfl)
theorem c68_111 : cd 68 111 = some (111, .iload 7, 2, []) := by decide +kernel
theorem x68_111 {d : Nat} {a0 a1 a2 a3 a4 a5 a6 a8 : Value} {s0 : Int32} {x : Int32} {h : AHp} : Rf d 68 111 [a0, a1, a2, a3, a4, a5, a6, .int x, a8] [.int s0] h = Rf d 68 113 [a0, a1, a2, a3, a4, a5, a6, .int x, a8] [.int x, .int s0] h := Rf_go ((stp_of c68_111).trans rfl)
theorem c68_113 : cd 68 113 = some (113, .iadd, 1, []) := by decide +kernel
theorem x68_113 {d : Nat} {a0 a1 a2 a3 a4 a5 a6 a7 a8 : Value} {s0 : Int32} {s1 : Int32} {h : AHp} : Rf d 68 113 [a0, a1, a2, a3, a4, a5, a6, a7, a8] [.int s0, .int s1] h = Rf d 68 114 [a0, a1, a2, a3, a4, a5, a6, a7, a8] [.int (s1 + s0)] h := Rf_go ((stp_of c68_113).trans rfl)
theorem c68_114 : cd 68 114 = some (114, .iconst 2, 1, []) := by decide +kernel
theorem x68_114 {d : Nat} {a0 a1 a2 a3 a4 a5 a6 a7 a8 : Value} {s0 : Int32} {h : AHp} : Rf d 68 114 [a0, a1, a2, a3, a4, a5, a6, a7, a8] [.int s0] h = Rf d 68 115 [a0, a1, a2, a3, a4, a5, a6, a7, a8] [.int 2, .int s0] h := Rf_go ((stp_of c68_114).trans rfl)
theorem c68_115 : cd 68 115 = some (115, .idiv, 1, []) := by decide +kernel
theorem x68_115 {d : Nat} {a0 a1 a2 a3 a4 a5 a6 a7 a8 : Value} {s0 : Int32} {s1 : Int32} {h : AHp} : Rf d 68 115 [a0, a1, a2, a3, a4, a5, a6, a7, a8] [.int s0, .int s1] h = if ¬ s0 = 0 then Rf d 68 116 [a0, a1, a2, a3, a4, a5, a6, a7, a8] [.int (s1 / s0)] h else Rx d 68 115 [a0, a1, a2, a3, a4, a5, a6, a7, a8] [.int s0, .int s1] h := divE c68_115 (fun _ _ _ => rfl)
theorem c68_116 : cd 68 116 = some (116, .istore 8, 2, []) := by decide +kernel
theorem x68_116 {d : Nat} {a0 a1 a2 a3 a4 a5 a6 a7 a8 : Value} {s0 : Int32} {h : AHp} : Rf d 68 116 [a0, a1, a2, a3, a4, a5, a6, a7, a8] [.int s0] h = Rf d 68 118 [a0, a1, a2, a3, a4, a5, a6, a7, .int s0] [] h := Rf_go ((stp_of c68_116).trans rfl)
theorem c68_118 : cd 68 118 = some (118, .iload 8, 2, []) := by decide +kernel
theorem x68_118 {d : Nat} {a0 a1 a2 a3 a4 a5 a6 a7 : Value} {x : Int32} {h : AHp} : Rf d 68 118 [a0, a1, a2, a3, a4, a5, a6, a7, .int x] [] h = Rf d 68 120 [a0, a1, a2, a3, a4, a5, a6, a7, .int x] [.int x] h := Rf_go ((stp_of c68_118).trans rfl)
theorem c68_120 : cd 68 120 = some (120, .iload 4, 2, []) := by decide +kernel
theorem x68_120 {d : Nat} {a0 a1 a2 a3 a5 a6 a7 a8 : Value} {s0 : Int32} {x : Int32} {h : AHp} : Rf d 68 120 [a0, a1, a2, a3, .int x, a5, a6, a7, a8] [.int s0] h = Rf d 68 122 [a0, a1, a2, a3, .int x, a5, a6, a7, a8] [.int x, .int s0] h := Rf_go ((stp_of c68_120).trans rfl)
theorem c68_122 : cd 68 122 = some (122, .if_icmp .lt 9, 3, [(131, 0)]) := by decide +kernel
theorem x68_122 {d : Nat} {a0 a1 a2 a3 a4 a5 a6 a7 a8 : Value} {s0 : Int32} {s1 : Int32} {h : AHp} : Rf d 68 122 [a0, a1, a2, a3, a4, a5, a6, a7, a8] [.int s0, .int s1] h = if s1 < s0 then Rf d 68 131 [a0, a1, a2, a3, a4, a5, a6, a7, a8] [] h else Rf d 68 125 [a0, a1, a2, a3, a4, a5, a6, a7, a8] [] h := Rf_brd ((stp_of c68_122).trans rfl)
theorem c68_131 : cd 68 131 = some (131, .bipush (-5), 2, []) := by decide +kernel
theorem x68_131 {d : Nat} {a0 a1 a2 a3 a4 a5 a6 a7 a8 : Value} {h : AHp} : Rf d 68 131 [a0, a1, a2, a3, a4, a5, a6, a7, a8] [] h = Rf d 68 133 [a0, a1, a2, a3, a4, a5, a6, a7, a8] [.int (-5)] h := Rf_go ((stp_of c68_131).trans rfl)
theorem c68_133 : cd 68 133 = some (133, .goto 5, 3, [(138, 0)]) := by decide +kernel
theorem x68_133 {d : Nat} {a0 a1 a2 a3 a4 a5 a6 a7 a8 : Value} {s0 : Int32} {h : AHp} : Rf d 68 133 [a0, a1, a2, a3, a4, a5, a6, a7, a8] [.int s0] h = Rf d 68 138 [a0, a1, a2, a3, a4, a5, a6, a7, a8] [.int s0] h := Rf_go ((stp_of c68_133).trans rfl)
theorem c68_138 : cd 68 138 = some (138, .ireturn, 1, []) := by decide +kernel
theorem x68_138 {d : Nat} {a0 a1 a2 a3 a4 a5 a6 a7 a8 : Value} {s0 : Int32} {h : AHp} : Rf d 68 138 [a0, a1, a2, a3, a4, a5, a6, a7, a8] [.int s0] h = some (some (.int s0), h) := Rf_end (by rw [stp_of c68_138]; simp only [stpI]; rw [if_pos (show retI (mH 68).2.2.1 s0 = true from retI_int)])
theorem c68_125 : cd 68 125 = some (125, .iload 8, 2, []) := by decide +kernel
theorem x68_125 {d : Nat} {a0 a1 a2 a3 a4 a5 a6 a7 : Value} {x : Int32} {h : AHp} : Rf d 68 125 [a0, a1, a2, a3, a4, a5, a6, a7, .int x] [] h = Rf d 68 127 [a0, a1, a2, a3, a4, a5, a6, a7, .int x] [.int x] h := Rf_go ((stp_of c68_125).trans rfl)
theorem c68_127 : cd 68 127 = some (127, .iload_n 3, 1, []) := by decide +kernel
theorem x68_127 {d : Nat} {a0 a1 a2 a4 a5 a6 a7 a8 : Value} {s0 : Int32} {x : Int32} {h : AHp} : Rf d 68 127 [a0, a1, a2, .int x, a4, a5, a6, a7, a8] [.int s0] h = Rf d 68 128 [a0, a1, a2, .int x, a4, a5, a6, a7, a8] [.int x, .int s0] h := Rf_go ((stp_of c68_127).trans rfl)
theorem c68_128 : cd 68 128 = some (128, .if_icmp .le 8, 3, [(136, 0)]) := by decide +kernel
theorem x68_128 {d : Nat} {a0 a1 a2 a3 a4 a5 a6 a7 a8 : Value} {s0 : Int32} {s1 : Int32} {h : AHp} : Rf d 68 128 [a0, a1, a2, a3, a4, a5, a6, a7, a8] [.int s0, .int s1] h = if s0 < s1 then Rf d 68 131 [a0, a1, a2, a3, a4, a5, a6, a7, a8] [] h else Rf d 68 136 [a0, a1, a2, a3, a4, a5, a6, a7, a8] [] h := Rf_brn ((stp_of c68_128).trans rfl)
theorem c68_136 : cd 68 136 = some (136, .iload 8, 2, []) := by decide +kernel
theorem x68_136 {d : Nat} {a0 a1 a2 a3 a4 a5 a6 a7 : Value} {x : Int32} {h : AHp} : Rf d 68 136 [a0, a1, a2, a3, a4, a5, a6, a7, .int x] [] h = Rf d 68 138 [a0, a1, a2, a3, a4, a5, a6, a7, .int x] [.int x] h := Rf_go ((stp_of c68_136).trans rfl)
theorem c68_87 : cd 68 87 = some (87, .iload 7, 2, []) := by decide +kernel
theorem x68_87 {d : Nat} {a0 a1 a2 a3 a4 a5 a6 a8 : Value} {x : Int32} {h : AHp} : Rf d 68 87 [a0, a1, a2, a3, a4, a5, a6, .int x, a8] [] h = Rf d 68 89 [a0, a1, a2, a3, a4, a5, a6, .int x, a8] [.int x] h := Rf_go ((stp_of c68_87).trans rfl)
theorem c68_89 : cd 68 89 = some (89, .iload_n 3, 1, []) := by decide +kernel
theorem x68_89 {d : Nat} {a0 a1 a2 a4 a5 a6 a7 a8 : Value} {s0 : Int32} {x : Int32} {h : AHp} : Rf d 68 89 [a0, a1, a2, .int x, a4, a5, a6, a7, a8] [.int s0] h = Rf d 68 90 [a0, a1, a2, .int x, a4, a5, a6, a7, a8] [.int x, .int s0] h := Rf_go ((stp_of c68_89).trans rfl)
theorem c68_90 : cd 68 90 = some (90, .if_icmp .le 12, 3, [(102, 0)]) := by decide +kernel
theorem x68_90 {d : Nat} {a0 a1 a2 a3 a4 a5 a6 a7 a8 : Value} {s0 : Int32} {s1 : Int32} {h : AHp} : Rf d 68 90 [a0, a1, a2, a3, a4, a5, a6, a7, a8] [.int s0, .int s1] h = if s0 < s1 then Rf d 68 93 [a0, a1, a2, a3, a4, a5, a6, a7, a8] [] h else Rf d 68 102 [a0, a1, a2, a3, a4, a5, a6, a7, a8] [] h := Rf_brn ((stp_of c68_90).trans rfl)
theorem c68_102 : cd 68 102 = some (102, .iload 7, 2, []) := by decide +kernel
theorem x68_102 {d : Nat} {a0 a1 a2 a3 a4 a5 a6 a8 : Value} {x : Int32} {h : AHp} : Rf d 68 102 [a0, a1, a2, a3, a4, a5, a6, .int x, a8] [] h = Rf d 68 104 [a0, a1, a2, a3, a4, a5, a6, .int x, a8] [.int x] h := Rf_go ((stp_of c68_102).trans rfl)
theorem c68_104 : cd 68 104 = some (104, .istore 8, 2, []) := by decide +kernel
theorem x68_104 {d : Nat} {a0 a1 a2 a3 a4 a5 a6 a7 a8 : Value} {s0 : Int32} {h : AHp} : Rf d 68 104 [a0, a1, a2, a3, a4, a5, a6, a7, a8] [.int s0] h = Rf d 68 106 [a0, a1, a2, a3, a4, a5, a6, a7, .int s0] [] h := Rf_go ((stp_of c68_104).trans rfl)
theorem c68_106 : cd 68 106 = some (106, .goto 12, 3, [(118, 0)]) := by decide +kernel
theorem x68_106 {d : Nat} {a0 a1 a2 a3 a4 a5 a6 a7 a8 : Value} {h : AHp} : Rf d 68 106 [a0, a1, a2, a3, a4, a5, a6, a7, a8] [] h = Rf d 68 118 [a0, a1, a2, a3, a4, a5, a6, a7, a8] [] h := Rf_go ((stp_of c68_106).trans rfl)
theorem c68_93 : cd 68 93 = some (93, .iload 7, 2, []) := by decide +kernel
theorem x68_93 {d : Nat} {a0 a1 a2 a3 a4 a5 a6 a8 : Value} {x : Int32} {h : AHp} : Rf d 68 93 [a0, a1, a2, a3, a4, a5, a6, .int x, a8] [] h = Rf d 68 95 [a0, a1, a2, a3, a4, a5, a6, .int x, a8] [.int x] h := Rf_go ((stp_of c68_93).trans rfl)
theorem c68_95 : cd 68 95 = some (95, .iload_n 3, 1, []) := by decide +kernel
theorem x68_95 {d : Nat} {a0 a1 a2 a4 a5 a6 a7 a8 : Value} {s0 : Int32} {x : Int32} {h : AHp} : Rf d 68 95 [a0, a1, a2, .int x, a4, a5, a6, a7, a8] [.int s0] h = Rf d 68 96 [a0, a1, a2, .int x, a4, a5, a6, a7, a8] [.int x, .int s0] h := Rf_go ((stp_of c68_95).trans rfl)
theorem c68_96 : cd 68 96 = some (96, .iadd, 1, []) := by decide +kernel
theorem x68_96 {d : Nat} {a0 a1 a2 a3 a4 a5 a6 a7 a8 : Value} {s0 : Int32} {s1 : Int32} {h : AHp} : Rf d 68 96 [a0, a1, a2, a3, a4, a5, a6, a7, a8] [.int s0, .int s1] h = Rf d 68 97 [a0, a1, a2, a3, a4, a5, a6, a7, a8] [.int (s1 + s0)] h := Rf_go ((stp_of c68_96).trans rfl)
theorem c68_97 : cd 68 97 = some (97, .iconst 2, 1, []) := by decide +kernel
theorem x68_97 {d : Nat} {a0 a1 a2 a3 a4 a5 a6 a7 a8 : Value} {s0 : Int32} {h : AHp} : Rf d 68 97 [a0, a1, a2, a3, a4, a5, a6, a7, a8] [.int s0] h = Rf d 68 98 [a0, a1, a2, a3, a4, a5, a6, a7, a8] [.int 2, .int s0] h := Rf_go ((stp_of c68_97).trans rfl)
theorem c68_98 : cd 68 98 = some (98, .idiv, 1, []) := by decide +kernel
theorem x68_98 {d : Nat} {a0 a1 a2 a3 a4 a5 a6 a7 a8 : Value} {s0 : Int32} {s1 : Int32} {h : AHp} : Rf d 68 98 [a0, a1, a2, a3, a4, a5, a6, a7, a8] [.int s0, .int s1] h = if ¬ s0 = 0 then Rf d 68 99 [a0, a1, a2, a3, a4, a5, a6, a7, a8] [.int (s1 / s0)] h else Rx d 68 98 [a0, a1, a2, a3, a4, a5, a6, a7, a8] [.int s0, .int s1] h := divE c68_98 (fun _ _ _ => rfl)
theorem c68_99 : cd 68 99 = some (99, .goto 5, 3, [(104, 0)]) := by decide +kernel
theorem x68_99 {d : Nat} {a0 a1 a2 a3 a4 a5 a6 a7 a8 : Value} {s0 : Int32} {h : AHp} : Rf d 68 99 [a0, a1, a2, a3, a4, a5, a6, a7, a8] [.int s0] h = Rf d 68 104 [a0, a1, a2, a3, a4, a5, a6, a7, a8] [.int s0] h := Rf_go ((stp_of c68_99).trans rfl)
theorem c68_58 : cd 68 58 = some (58, .iload 5, 2, []) := by decide +kernel
theorem x68_58 {d : Nat} {a0 a1 a2 a3 a4 a6 a7 a8 : Value} {x : Int32} {h : AHp} : Rf d 68 58 [a0, a1, a2, a3, a4, .int x, a6, a7, a8] [] h = Rf d 68 60 [a0, a1, a2, a3, a4, .int x, a6, a7, a8] [.int x] h := Rf_go ((stp_of c68_58).trans rfl)
theorem c68_60 : cd 68 60 = some (60, .iload 6, 2, []) := by decide +kernel
theorem x68_60 {d : Nat} {a0 a1 a2 a3 a4 a5 a7 a8 : Value} {s0 : Int32} {x : Int32} {h : AHp} : Rf d 68 60 [a0, a1, a2, a3, a4, a5, .int x, a7, a8] [.int s0] h = Rf d 68 62 [a0, a1, a2, a3, a4, a5, .int x, a7, a8] [.int x, .int s0] h := Rf_go ((stp_of c68_60).trans rfl)
theorem c68_62 : cd 68 62 = some (62, .if_icmp .le 13, 3, [(75, 0)]) := by decide +kernel
theorem x68_62 {d : Nat} {a0 a1 a2 a3 a4 a5 a6 a7 a8 : Value} {s0 : Int32} {s1 : Int32} {h : AHp} : Rf d 68 62 [a0, a1, a2, a3, a4, a5, a6, a7, a8] [.int s0, .int s1] h = if s0 < s1 then Rf d 68 65 [a0, a1, a2, a3, a4, a5, a6, a7, a8] [] h else Rf d 68 75 [a0, a1, a2, a3, a4, a5, a6, a7, a8] [] h := Rf_brn ((stp_of c68_62).trans rfl)
theorem c68_75 : cd 68 75 = some (75, .iload 6, 2, []) := by decide +kernel
theorem x68_75 {d : Nat} {a0 a1 a2 a3 a4 a5 a7 a8 : Value} {x : Int32} {h : AHp} : Rf d 68 75 [a0, a1, a2, a3, a4, a5, .int x, a7, a8] [] h = Rf d 68 77 [a0, a1, a2, a3, a4, a5, .int x, a7, a8] [.int x] h := Rf_go ((stp_of c68_75).trans rfl)
theorem c68_77 : cd 68 77 = some (77, .istore 8, 2, []) := by decide +kernel
theorem x68_77 {d : Nat} {a0 a1 a2 a3 a4 a5 a6 a7 a8 : Value} {s0 : Int32} {h : AHp} : Rf d 68 77 [a0, a1, a2, a3, a4, a5, a6, a7, a8] [.int s0] h = Rf d 68 79 [a0, a1, a2, a3, a4, a5, a6, a7, .int s0] [] h := Rf_go ((stp_of c68_77).trans rfl)
theorem c68_79 : cd 68 79 = some (79, .goto 39, 3, [(118, 0)]) := by decide +kernel
theorem x68_79 {d : Nat} {a0 a1 a2 a3 a4 a5 a6 a7 a8 : Value} {h : AHp} : Rf d 68 79 [a0, a1, a2, a3, a4, a5, a6, a7, a8] [] h = Rf d 68 118 [a0, a1, a2, a3, a4, a5, a6, a7, a8] [] h := Rf_go ((stp_of c68_79).trans rfl)
theorem c68_65 : cd 68 65 = some (65, .iload 6, 2, []) := by decide +kernel
theorem x68_65 {d : Nat} {a0 a1 a2 a3 a4 a5 a7 a8 : Value} {x : Int32} {h : AHp} : Rf d 68 65 [a0, a1, a2, a3, a4, a5, .int x, a7, a8] [] h = Rf d 68 67 [a0, a1, a2, a3, a4, a5, .int x, a7, a8] [.int x] h := Rf_go ((stp_of c68_65).trans rfl)
theorem c68_67 : cd 68 67 = some (67, .iload 5, 2, []) := by decide +kernel
theorem x68_67 {d : Nat} {a0 a1 a2 a3 a4 a6 a7 a8 : Value} {s0 : Int32} {x : Int32} {h : AHp} : Rf d 68 67 [a0, a1, a2, a3, a4, .int x, a6, a7, a8] [.int s0] h = Rf d 68 69 [a0, a1, a2, a3, a4, .int x, a6, a7, a8] [.int x, .int s0] h := Rf_go ((stp_of c68_67).trans rfl)
theorem c68_69 : cd 68 69 = some (69, .iadd, 1, []) := by decide +kernel
theorem x68_69 {d : Nat} {a0 a1 a2 a3 a4 a5 a6 a7 a8 : Value} {s0 : Int32} {s1 : Int32} {h : AHp} : Rf d 68 69 [a0, a1, a2, a3, a4, a5, a6, a7, a8] [.int s0, .int s1] h = Rf d 68 70 [a0, a1, a2, a3, a4, a5, a6, a7, a8] [.int (s1 + s0)] h := Rf_go ((stp_of c68_69).trans rfl)
theorem c68_70 : cd 68 70 = some (70, .iconst 2, 1, []) := by decide +kernel
theorem x68_70 {d : Nat} {a0 a1 a2 a3 a4 a5 a6 a7 a8 : Value} {s0 : Int32} {h : AHp} : Rf d 68 70 [a0, a1, a2, a3, a4, a5, a6, a7, a8] [.int s0] h = Rf d 68 71 [a0, a1, a2, a3, a4, a5, a6, a7, a8] [.int 2, .int s0] h := Rf_go ((stp_of c68_70).trans rfl)
theorem c68_71 : cd 68 71 = some (71, .idiv, 1, []) := by decide +kernel
theorem x68_71 {d : Nat} {a0 a1 a2 a3 a4 a5 a6 a7 a8 : Value} {s0 : Int32} {s1 : Int32} {h : AHp} : Rf d 68 71 [a0, a1, a2, a3, a4, a5, a6, a7, a8] [.int s0, .int s1] h = if ¬ s0 = 0 then Rf d 68 72 [a0, a1, a2, a3, a4, a5, a6, a7, a8] [.int (s1 / s0)] h else Rx d 68 71 [a0, a1, a2, a3, a4, a5, a6, a7, a8] [.int s0, .int s1] h := divE c68_71 (fun _ _ _ => rfl)
theorem c68_72 : cd 68 72 = some (72, .goto 5, 3, [(77, 0)]) := by decide +kernel
theorem x68_72 {d : Nat} {a0 a1 a2 a3 a4 a5 a6 a7 a8 : Value} {s0 : Int32} {h : AHp} : Rf d 68 72 [a0, a1, a2, a3, a4, a5, a6, a7, a8] [.int s0] h = Rf d 68 77 [a0, a1, a2, a3, a4, a5, a6, a7, a8] [.int s0] h := Rf_go ((stp_of c68_72).trans rfl)
-- 69: X6_slipBehind
theorem c69_0 : cd 69 0 = some (0, .iload_n 2, 1, []) := by decide +kernel
theorem x69_0 {d : Nat} {a0 a1 a3 a4 a5 : Value} {x : Int32} {h : AHp} : Rf d 69 0 [a0, a1, .int x, a3, a4, a5] [] h = Rf d 69 1 [a0, a1, .int x, a3, a4, a5] [.int x] h := Rf_go ((stp_of c69_0).trans rfl)
theorem c69_1 : cd 69 1 = some (1, .istore_n 3, 1, []) := by decide +kernel
theorem x69_1 {d : Nat} {a0 a1 a2 a3 a4 a5 : Value} {s0 : Int32} {h : AHp} : Rf d 69 1 [a0, a1, a2, a3, a4, a5] [.int s0] h = Rf d 69 2 [a0, a1, a2, .int s0, a4, a5] [] h := Rf_go ((stp_of c69_1).trans rfl)
theorem c69_2 : cd 69 2 = some (2, .iconst 0, 1, []) := by decide +kernel
theorem x69_2 {d : Nat} {a0 a1 a2 a3 a4 a5 : Value} {h : AHp} : Rf d 69 2 [a0, a1, a2, a3, a4, a5] [] h = Rf d 69 3 [a0, a1, a2, a3, a4, a5] [.int 0] h := Rf_go ((stp_of c69_2).trans rfl)
theorem c69_3 : cd 69 3 = some (3, .istore 4, 2, []) := by decide +kernel
theorem x69_3 {d : Nat} {a0 a1 a2 a3 a4 a5 : Value} {s0 : Int32} {h : AHp} : Rf d 69 3 [a0, a1, a2, a3, a4, a5] [.int s0] h = Rf d 69 5 [a0, a1, a2, a3, .int s0, a5] [] h := Rf_go ((stp_of c69_3).trans rfl)
theorem c69_5 : cd 69 5 = some (5, .iconst 0, 1, []) := by decide +kernel
theorem x69_5 {d : Nat} {a0 a1 a2 a3 a4 a5 : Value} {h : AHp} : Rf d 69 5 [a0, a1, a2, a3, a4, a5] [] h = Rf d 69 6 [a0, a1, a2, a3, a4, a5] [.int 0] h := Rf_go ((stp_of c69_5).trans rfl)
theorem c69_6 : cd 69 6 = some (6, .istore 5, 2, []) := by decide +kernel
theorem x69_6 {d : Nat} {a0 a1 a2 a3 a4 a5 : Value} {s0 : Int32} {h : AHp} : Rf d 69 6 [a0, a1, a2, a3, a4, a5] [.int s0] h = Rf d 69 8 [a0, a1, a2, a3, a4, .int s0] [] h := Rf_go ((stp_of c69_6).trans rfl)
theorem c69_8 : cd 69 8 = some (8, .iload 5, 2, []) := by decide +kernel
theorem x69_8 {d : Nat} {a0 a1 a2 a3 a4 : Value} {x : Int32} {h : AHp} : Rf d 69 8 [a0, a1, a2, a3, a4, .int x] [] h = Rf d 69 10 [a0, a1, a2, a3, a4, .int x] [.int x] h := Rf_go ((stp_of c69_8).trans rfl)
theorem c69_10 : cd 69 10 = some (10, .bipush 10, 2, []) := by decide +kernel
theorem x69_10 {d : Nat} {a0 a1 a2 a3 a4 a5 : Value} {s0 : Int32} {h : AHp} : Rf d 69 10 [a0, a1, a2, a3, a4, a5] [.int s0] h = Rf d 69 12 [a0, a1, a2, a3, a4, a5] [.int 10, .int s0] h := Rf_go ((stp_of c69_10).trans rfl)
theorem c69_12 : cd 69 12 = some (12, .if_icmp .ge 48, 3, [(60, 0)]) := by decide +kernel
theorem x69_12 {d : Nat} {a0 a1 a2 a3 a4 a5 : Value} {s0 : Int32} {s1 : Int32} {h : AHp} : Rf d 69 12 [a0, a1, a2, a3, a4, a5] [.int s0, .int s1] h = if s1 < s0 then Rf d 69 15 [a0, a1, a2, a3, a4, a5] [] h else Rf d 69 60 [a0, a1, a2, a3, a4, a5] [] h := Rf_brn ((stp_of c69_12).trans rfl)
theorem c69_60 : cd 69 60 = some (60, .iload_n 3, 1, []) := by decide +kernel
theorem x69_60 {d : Nat} {a0 a1 a2 a4 a5 : Value} {x : Int32} {h : AHp} : Rf d 69 60 [a0, a1, a2, .int x, a4, a5] [] h = Rf d 69 61 [a0, a1, a2, .int x, a4, a5] [.int x] h := Rf_go ((stp_of c69_60).trans rfl)
theorem c69_61 : cd 69 61 = some (61, .ireturn, 1, []) := by decide +kernel
theorem x69_61 {d : Nat} {a0 a1 a2 a3 a4 a5 : Value} {s0 : Int32} {h : AHp} : Rf d 69 61 [a0, a1, a2, a3, a4, a5] [.int s0] h = some (some (.int s0), h) := Rf_end (by rw [stp_of c69_61]; simp only [stpI]; rw [if_pos (show retI (mH 69).2.2.1 s0 = true from retI_int)])
theorem c69_15 : cd 69 15 = some (15, .iload 4, 2, []) := by decide +kernel
theorem x69_15 {d : Nat} {a0 a1 a2 a3 a5 : Value} {x : Int32} {h : AHp} : Rf d 69 15 [a0, a1, a2, a3, .int x, a5] [] h = Rf d 69 17 [a0, a1, a2, a3, .int x, a5] [.int x] h := Rf_go ((stp_of c69_15).trans rfl)
theorem c69_17 : cd 69 17 = some (17, .iload_n 1, 1, []) := by decide +kernel
theorem x69_17 {d : Nat} {a0 a2 a3 a4 a5 : Value} {s0 : Int32} {x : Int32} {h : AHp} : Rf d 69 17 [a0, .int x, a2, a3, a4, a5] [.int s0] h = Rf d 69 18 [a0, .int x, a2, a3, a4, a5] [.int x, .int s0] h := Rf_go ((stp_of c69_17).trans rfl)
theorem c69_18 : cd 69 18 = some (18, .if_icmp .gt 42, 3, [(60, 0)]) := by decide +kernel
theorem x69_18 {d : Nat} {a0 a1 a2 a3 a4 a5 : Value} {s0 : Int32} {s1 : Int32} {h : AHp} : Rf d 69 18 [a0, a1, a2, a3, a4, a5] [.int s0, .int s1] h = if s0 < s1 then Rf d 69 60 [a0, a1, a2, a3, a4, a5] [] h else Rf d 69 21 [a0, a1, a2, a3, a4, a5] [] h := Rf_brd ((stp_of c69_18).trans rfl)
theorem c69_21 : cd 69 21 = some (21, .aload_n 0, 1, []) := by decide +kernel
theorem x69_21 {d : Nat} {a1 a2 a3 a4 a5 : Value} {x : Nat} {h : AHp} : Rf d 69 21 [.ref x, a1, a2, a3, a4, a5] [] h = Rf d 69 22 [.ref x, a1, a2, a3, a4, a5] [.ref x] h := Rf_go ((stp_of c69_21).trans rfl)
theorem c69_22 : cd 69 22 = some (22, .getfield 15, 3, [(6, 2)]) := by decide +kernel
theorem x69_22 {d : Nat} {a0 a1 a2 a3 a4 a5 : Value} {s0 : Nat} {h : AHp} : Rf d 69 22 [a0, a1, a2, a3, a4, a5] [.ref s0] h = if cls (h.1 s0) = 6 ∧ oKr (h.1 s0) 2 = true then Rf d 69 25 [a0, a1, a2, a3, a4, a5] [.ref (oR (h.1 s0) 2)] h else Rx d 69 22 [a0, a1, a2, a3, a4, a5] [.ref s0] h := getR c69_22
theorem c69_25 : cd 69 25 = some (25, .iload 5, 2, []) := by decide +kernel
theorem x69_25 {d : Nat} {a0 a1 a2 a3 a4 : Value} {s0 : Nat} {x : Int32} {h : AHp} : Rf d 69 25 [a0, a1, a2, a3, a4, .int x] [.ref s0] h = Rf d 69 27 [a0, a1, a2, a3, a4, .int x] [.int x, .ref s0] h := Rf_go ((stp_of c69_25).trans rfl)
theorem c69_27 : cd 69 27 = some (27, .iaload, 1, []) := by decide +kernel
theorem x69_27 {d : Nat} {a0 a1 a2 a3 a4 a5 : Value} {s0 : Int32} {s1 : Nat} {h : AHp} : Rf d 69 27 [a0, a1, a2, a3, a4, a5] [.int s0, .ref s1] h = if (aT (h.1 s1) = 0 ∨ aT (h.1 s1) = 10) ∧ inB s0 (aN (h.1 s1)) = true then Rf d 69 28 [a0, a1, a2, a3, a4, a5] [.int (aF (h.1 s1) s0.toNatClampNeg)] h else Rx d 69 27 [a0, a1, a2, a3, a4, a5] [.int s0, .ref s1] h := ldI c69_27
theorem c69_28 : cd 69 28 = some (28, .iconst (-1), 1, []) := by decide +kernel
theorem x69_28 {d : Nat} {a0 a1 a2 a3 a4 a5 : Value} {s0 : Int32} {h : AHp} : Rf d 69 28 [a0, a1, a2, a3, a4, a5] [.int s0] h = Rf d 69 29 [a0, a1, a2, a3, a4, a5] [.int (-1), .int s0] h := Rf_go ((stp_of c69_28).trans rfl)
theorem c69_29 : cd 69 29 = some (29, .if_icmp .eq 25, 3, [(54, 0)]) := by decide +kernel
theorem x69_29 {d : Nat} {a0 a1 a2 a3 a4 a5 : Value} {s0 : Int32} {s1 : Int32} {h : AHp} : Rf d 69 29 [a0, a1, a2, a3, a4, a5] [.int s0, .int s1] h = if s1 = s0 then Rf d 69 54 [a0, a1, a2, a3, a4, a5] [] h else Rf d 69 32 [a0, a1, a2, a3, a4, a5] [] h := Rf_brd ((stp_of c69_29).trans rfl)
theorem c69_54 : cd 69 54 = some (54, .iinc 5 1, 3, []) := by decide +kernel
theorem x69_54 {d : Nat} {a0 a1 a2 a3 a4 : Value} {x : Int32} {h : AHp} : Rf d 69 54 [a0, a1, a2, a3, a4, .int x] [] h = Rf d 69 57 [a0, a1, a2, a3, a4, .int (x + 1)] [] h := Rf_go ((stp_of c69_54).trans rfl)
theorem c69_57 : cd 69 57 = some (57, .goto (-49), 3, [(8, 0)]) := by decide +kernel
theorem x69_57 {d : Nat} {a0 a1 a2 a3 a4 a5 : Value} {h : AHp} : Rf d 69 57 [a0, a1, a2, a3, a4, a5] [] h = Rf d 69 8 [a0, a1, a2, a3, a4, a5] [] h := Rf_go ((stp_of c69_57).trans rfl)
theorem c69_32 : cd 69 32 = some (32, .iload_n 3, 1, []) := by decide +kernel
theorem x69_32 {d : Nat} {a0 a1 a2 a4 a5 : Value} {x : Int32} {h : AHp} : Rf d 69 32 [a0, a1, a2, .int x, a4, a5] [] h = Rf d 69 33 [a0, a1, a2, .int x, a4, a5] [.int x] h := Rf_go ((stp_of c69_32).trans rfl)
theorem c69_33 : cd 69 33 = some (33, .aload_n 0, 1, []) := by decide +kernel
theorem x69_33 {d : Nat} {a1 a2 a3 a4 a5 : Value} {s0 : Int32} {x : Nat} {h : AHp} : Rf d 69 33 [.ref x, a1, a2, a3, a4, a5] [.int s0] h = Rf d 69 34 [.ref x, a1, a2, a3, a4, a5] [.ref x, .int s0] h := Rf_go ((stp_of c69_33).trans rfl)
theorem c69_34 : cd 69 34 = some (34, .getfield 18, 3, [(6, 3)]) := by decide +kernel
theorem x69_34 {d : Nat} {a0 a1 a2 a3 a4 a5 : Value} {s0 : Nat} {s1 : Int32} {h : AHp} : Rf d 69 34 [a0, a1, a2, a3, a4, a5] [.ref s0, .int s1] h = if cls (h.1 s0) = 6 ∧ oKr (h.1 s0) 3 = true then Rf d 69 37 [a0, a1, a2, a3, a4, a5] [.ref (oR (h.1 s0) 3), .int s1] h else Rx d 69 34 [a0, a1, a2, a3, a4, a5] [.ref s0, .int s1] h := getR c69_34
theorem c69_37 : cd 69 37 = some (37, .aload_n 0, 1, []) := by decide +kernel
theorem x69_37 {d : Nat} {a1 a2 a3 a4 a5 : Value} {s0 : Nat} {s1 : Int32} {x : Nat} {h : AHp} : Rf d 69 37 [.ref x, a1, a2, a3, a4, a5] [.ref s0, .int s1] h = Rf d 69 38 [.ref x, a1, a2, a3, a4, a5] [.ref x, .ref s0, .int s1] h := Rf_go ((stp_of c69_37).trans rfl)
theorem c69_38 : cd 69 38 = some (38, .getfield 15, 3, [(6, 2)]) := by decide +kernel
theorem x69_38 {d : Nat} {a0 a1 a2 a3 a4 a5 : Value} {s0 : Nat} {s1 : Nat} {s2 : Int32} {h : AHp} : Rf d 69 38 [a0, a1, a2, a3, a4, a5] [.ref s0, .ref s1, .int s2] h = if cls (h.1 s0) = 6 ∧ oKr (h.1 s0) 2 = true then Rf d 69 41 [a0, a1, a2, a3, a4, a5] [.ref (oR (h.1 s0) 2), .ref s1, .int s2] h else Rx d 69 38 [a0, a1, a2, a3, a4, a5] [.ref s0, .ref s1, .int s2] h := getR c69_38
theorem c69_41 : cd 69 41 = some (41, .iload 5, 2, []) := by decide +kernel
theorem x69_41 {d : Nat} {a0 a1 a2 a3 a4 : Value} {s0 : Nat} {s1 : Nat} {s2 : Int32} {x : Int32} {h : AHp} : Rf d 69 41 [a0, a1, a2, a3, a4, .int x] [.ref s0, .ref s1, .int s2] h = Rf d 69 43 [a0, a1, a2, a3, a4, .int x] [.int x, .ref s0, .ref s1, .int s2] h := Rf_go ((stp_of c69_41).trans rfl)
theorem c69_43 : cd 69 43 = some (43, .iaload, 1, []) := by decide +kernel
theorem x69_43 {d : Nat} {a0 a1 a2 a3 a4 a5 : Value} {s0 : Int32} {s1 : Nat} {s2 : Nat} {s3 : Int32} {h : AHp} : Rf d 69 43 [a0, a1, a2, a3, a4, a5] [.int s0, .ref s1, .ref s2, .int s3] h = if (aT (h.1 s1) = 0 ∨ aT (h.1 s1) = 10) ∧ inB s0 (aN (h.1 s1)) = true then Rf d 69 44 [a0, a1, a2, a3, a4, a5] [.int (aF (h.1 s1) s0.toNatClampNeg), .ref s2, .int s3] h else Rx d 69 43 [a0, a1, a2, a3, a4, a5] [.int s0, .ref s1, .ref s2, .int s3] h := ldI c69_43
theorem c69_44 : cd 69 44 = some (44, .iaload, 1, []) := by decide +kernel
theorem x69_44 {d : Nat} {a0 a1 a2 a3 a4 a5 : Value} {s0 : Int32} {s1 : Nat} {s2 : Int32} {h : AHp} : Rf d 69 44 [a0, a1, a2, a3, a4, a5] [.int s0, .ref s1, .int s2] h = if (aT (h.1 s1) = 0 ∨ aT (h.1 s1) = 10) ∧ inB s0 (aN (h.1 s1)) = true then Rf d 69 45 [a0, a1, a2, a3, a4, a5] [.int (aF (h.1 s1) s0.toNatClampNeg), .int s2] h else Rx d 69 44 [a0, a1, a2, a3, a4, a5] [.int s0, .ref s1, .int s2] h := ldI c69_44
theorem c69_45 : cd 69 45 = some (45, .iadd, 1, []) := by decide +kernel
theorem x69_45 {d : Nat} {a0 a1 a2 a3 a4 a5 : Value} {s0 : Int32} {s1 : Int32} {h : AHp} : Rf d 69 45 [a0, a1, a2, a3, a4, a5] [.int s0, .int s1] h = Rf d 69 46 [a0, a1, a2, a3, a4, a5] [.int (s1 + s0)] h := Rf_go ((stp_of c69_45).trans rfl)
theorem c69_46 : cd 69 46 = some (46, .sipush 10000, 3, []) := by decide +kernel
theorem x69_46 {d : Nat} {a0 a1 a2 a3 a4 a5 : Value} {s0 : Int32} {h : AHp} : Rf d 69 46 [a0, a1, a2, a3, a4, a5] [.int s0] h = Rf d 69 49 [a0, a1, a2, a3, a4, a5] [.int 10000, .int s0] h := Rf_go ((stp_of c69_46).trans rfl)
theorem c69_49 : cd 69 49 = some (49, .irem, 1, []) := by decide +kernel
theorem x69_49 {d : Nat} {a0 a1 a2 a3 a4 a5 : Value} {s0 : Int32} {s1 : Int32} {h : AHp} : Rf d 69 49 [a0, a1, a2, a3, a4, a5] [.int s0, .int s1] h = if ¬ s0 = 0 then Rf d 69 50 [a0, a1, a2, a3, a4, a5] [.int (remI s1 s0)] h else Rx d 69 49 [a0, a1, a2, a3, a4, a5] [.int s0, .int s1] h := divE c69_49 (fun _ _ _ => rfl)
theorem c69_50 : cd 69 50 = some (50, .istore_n 3, 1, []) := by decide +kernel
theorem x69_50 {d : Nat} {a0 a1 a2 a3 a4 a5 : Value} {s0 : Int32} {h : AHp} : Rf d 69 50 [a0, a1, a2, a3, a4, a5] [.int s0] h = Rf d 69 51 [a0, a1, a2, .int s0, a4, a5] [] h := Rf_go ((stp_of c69_50).trans rfl)
theorem c69_51 : cd 69 51 = some (51, .iinc 4 1, 3, []) := by decide +kernel
theorem x69_51 {d : Nat} {a0 a1 a2 a3 a5 : Value} {x : Int32} {h : AHp} : Rf d 69 51 [a0, a1, a2, a3, .int x, a5] [] h = Rf d 69 54 [a0, a1, a2, a3, .int (x + 1), a5] [] h := Rf_go ((stp_of c69_51).trans rfl)
-- 70: X6_knownBy
theorem c70_0 : cd 70 0 = some (0, .iconst 0, 1, []) := by decide +kernel
theorem x70_0 {d : Nat} {a0 a1 a2 a3 a4 a5 a6 a7 : Value} {h : AHp} : Rf d 70 0 [a0, a1, a2, a3, a4, a5, a6, a7] [] h = Rf d 70 1 [a0, a1, a2, a3, a4, a5, a6, a7] [.int 0] h := Rf_go ((stp_of c70_0).trans rfl)
theorem c70_1 : cd 70 1 = some (1, .istore_n 3, 1, []) := by decide +kernel
theorem x70_1 {d : Nat} {a0 a1 a2 a3 a4 a5 a6 a7 : Value} {s0 : Int32} {h : AHp} : Rf d 70 1 [a0, a1, a2, a3, a4, a5, a6, a7] [.int s0] h = Rf d 70 2 [a0, a1, a2, .int s0, a4, a5, a6, a7] [] h := Rf_go ((stp_of c70_1).trans rfl)
theorem c70_2 : cd 70 2 = some (2, .iconst 0, 1, []) := by decide +kernel
theorem x70_2 {d : Nat} {a0 a1 a2 a3 a4 a5 a6 a7 : Value} {h : AHp} : Rf d 70 2 [a0, a1, a2, a3, a4, a5, a6, a7] [] h = Rf d 70 3 [a0, a1, a2, a3, a4, a5, a6, a7] [.int 0] h := Rf_go ((stp_of c70_2).trans rfl)
theorem c70_3 : cd 70 3 = some (3, .istore 4, 2, []) := by decide +kernel
theorem x70_3 {d : Nat} {a0 a1 a2 a3 a4 a5 a6 a7 : Value} {s0 : Int32} {h : AHp} : Rf d 70 3 [a0, a1, a2, a3, a4, a5, a6, a7] [.int s0] h = Rf d 70 5 [a0, a1, a2, a3, .int s0, a5, a6, a7] [] h := Rf_go ((stp_of c70_3).trans rfl)
theorem c70_5 : cd 70 5 = some (5, .iload 4, 2, []) := by decide +kernel
theorem x70_5 {d : Nat} {a0 a1 a2 a3 a5 a6 a7 : Value} {x : Int32} {h : AHp} : Rf d 70 5 [a0, a1, a2, a3, .int x, a5, a6, a7] [] h = Rf d 70 7 [a0, a1, a2, a3, .int x, a5, a6, a7] [.int x] h := Rf_go ((stp_of c70_5).trans rfl)
theorem c70_7 : cd 70 7 = some (7, .aload_n 0, 1, []) := by decide +kernel
theorem x70_7 {d : Nat} {a1 a2 a3 a4 a5 a6 a7 : Value} {s0 : Int32} {x : Nat} {h : AHp} : Rf d 70 7 [.ref x, a1, a2, a3, a4, a5, a6, a7] [.int s0] h = Rf d 70 8 [.ref x, a1, a2, a3, a4, a5, a6, a7] [.ref x, .int s0] h := Rf_go ((stp_of c70_7).trans rfl)
theorem c70_8 : cd 70 8 = some (8, .getfield 72, 3, [(6, 0)]) := by decide +kernel
theorem x70_8 {d : Nat} {a0 a1 a2 a3 a4 a5 a6 a7 : Value} {s0 : Nat} {s1 : Int32} {h : AHp} : Rf d 70 8 [a0, a1, a2, a3, a4, a5, a6, a7] [.ref s0, .int s1] h = if cls (h.1 s0) = 6 ∧ oKi (h.1 s0) 0 = true then Rf d 70 11 [a0, a1, a2, a3, a4, a5, a6, a7] [.int (oN (h.1 s0) 0), .int s1] h else Rx d 70 8 [a0, a1, a2, a3, a4, a5, a6, a7] [.ref s0, .int s1] h := getI c70_8
theorem c70_11 : cd 70 11 = some (11, .if_icmp .ge 87, 3, [(98, 0)]) := by decide +kernel
theorem x70_11 {d : Nat} {a0 a1 a2 a3 a4 a5 a6 a7 : Value} {s0 : Int32} {s1 : Int32} {h : AHp} : Rf d 70 11 [a0, a1, a2, a3, a4, a5, a6, a7] [.int s0, .int s1] h = if s1 < s0 then Rf d 70 14 [a0, a1, a2, a3, a4, a5, a6, a7] [] h else Rf d 70 98 [a0, a1, a2, a3, a4, a5, a6, a7] [] h := Rf_brn ((stp_of c70_11).trans rfl)
theorem c70_98 : cd 70 98 = some (98, .iload_n 3, 1, []) := by decide +kernel
theorem x70_98 {d : Nat} {a0 a1 a2 a4 a5 a6 a7 : Value} {x : Int32} {h : AHp} : Rf d 70 98 [a0, a1, a2, .int x, a4, a5, a6, a7] [] h = Rf d 70 99 [a0, a1, a2, .int x, a4, a5, a6, a7] [.int x] h := Rf_go ((stp_of c70_98).trans rfl)
theorem c70_99 : cd 70 99 = some (99, .ireturn, 1, []) := by decide +kernel
theorem x70_99 {d : Nat} {a0 a1 a2 a3 a4 a5 a6 a7 : Value} {s0 : Int32} {h : AHp} : Rf d 70 99 [a0, a1, a2, a3, a4, a5, a6, a7] [.int s0] h = some (some (.int s0), h) := Rf_end (by rw [stp_of c70_99]; simp only [stpI]; rw [if_pos (show retI (mH 70).2.2.1 s0 = true from retI_int)])
theorem c70_14 : cd 70 14 = some (14, .iconst 1, 1, []) := by decide +kernel
theorem x70_14 {d : Nat} {a0 a1 a2 a3 a4 a5 a6 a7 : Value} {h : AHp} : Rf d 70 14 [a0, a1, a2, a3, a4, a5, a6, a7] [] h = Rf d 70 15 [a0, a1, a2, a3, a4, a5, a6, a7] [.int 1] h := Rf_go ((stp_of c70_14).trans rfl)
theorem c70_15 : cd 70 15 = some (15, .iload 4, 2, []) := by decide +kernel
theorem x70_15 {d : Nat} {a0 a1 a2 a3 a5 a6 a7 : Value} {s0 : Int32} {x : Int32} {h : AHp} : Rf d 70 15 [a0, a1, a2, a3, .int x, a5, a6, a7] [.int s0] h = Rf d 70 17 [a0, a1, a2, a3, .int x, a5, a6, a7] [.int x, .int s0] h := Rf_go ((stp_of c70_15).trans rfl)
theorem c70_17 : cd 70 17 = some (17, .ishl, 1, []) := by decide +kernel
theorem x70_17 {d : Nat} {a0 a1 a2 a3 a4 a5 a6 a7 : Value} {s0 : Int32} {s1 : Int32} {h : AHp} : Rf d 70 17 [a0, a1, a2, a3, a4, a5, a6, a7] [.int s0, .int s1] h = Rf d 70 18 [a0, a1, a2, a3, a4, a5, a6, a7] [.int (s1 <<< (s0 &&& 31))] h := Rf_go ((stp_of c70_17).trans rfl)
theorem c70_18 : cd 70 18 = some (18, .istore 5, 2, []) := by decide +kernel
theorem x70_18 {d : Nat} {a0 a1 a2 a3 a4 a5 a6 a7 : Value} {s0 : Int32} {h : AHp} : Rf d 70 18 [a0, a1, a2, a3, a4, a5, a6, a7] [.int s0] h = Rf d 70 20 [a0, a1, a2, a3, a4, .int s0, a6, a7] [] h := Rf_go ((stp_of c70_18).trans rfl)
theorem c70_20 : cd 70 20 = some (20, .iload_n 1, 1, []) := by decide +kernel
theorem x70_20 {d : Nat} {a0 a2 a3 a4 a5 a6 a7 : Value} {x : Int32} {h : AHp} : Rf d 70 20 [a0, .int x, a2, a3, a4, a5, a6, a7] [] h = Rf d 70 21 [a0, .int x, a2, a3, a4, a5, a6, a7] [.int x] h := Rf_go ((stp_of c70_20).trans rfl)
theorem c70_21 : cd 70 21 = some (21, .aload_n 0, 1, []) := by decide +kernel
theorem x70_21 {d : Nat} {a1 a2 a3 a4 a5 a6 a7 : Value} {s0 : Int32} {x : Nat} {h : AHp} : Rf d 70 21 [.ref x, a1, a2, a3, a4, a5, a6, a7] [.int s0] h = Rf d 70 22 [.ref x, a1, a2, a3, a4, a5, a6, a7] [.ref x, .int s0] h := Rf_go ((stp_of c70_21).trans rfl)
theorem c70_22 : cd 70 22 = some (22, .iload 4, 2, []) := by decide +kernel
theorem x70_22 {d : Nat} {a0 a1 a2 a3 a5 a6 a7 : Value} {s0 : Nat} {s1 : Int32} {x : Int32} {h : AHp} : Rf d 70 22 [a0, a1, a2, a3, .int x, a5, a6, a7] [.ref s0, .int s1] h = Rf d 70 24 [a0, a1, a2, a3, .int x, a5, a6, a7] [.int x, .ref s0, .int s1] h := Rf_go ((stp_of c70_22).trans rfl)
theorem c70_24 : cd 70 24 = some (24, .invokevirtual 189, 3, [(6, 72)]) := by decide +kernel
theorem xc70_24 {d : Nat} {a0 a1 a2 a3 a4 a5 a6 a7 : Value} {s0 : Int32} {s1 : Nat} {s2 : Int32} {h : AHp} {h1 : AHp} {v : Int32} (hr : cls (h.1 s1) = 6) (hq : Rf d 72 0 [.ref s1, .int s0, noV] [] h = some (some (.int v), h1)) : Rf (d + 1) 70 24 [a0, a1, a2, a3, a4, a5, a6, a7] [.int s0, .ref s1, .int s2] h = Rf (d + 1) 70 27 [a0, a1, a2, a3, a4, a5, a6, a7] [.int v, .int s2] h1 := clV (c := 72) (as := [.int s0]) c70_24 rfl (by simp [isV]) (by rw [hr]; rfl) hq
theorem c70_27 : cd 70 27 = some (27, .invokestatic 192, 3, [(0, 71)]) := by decide +kernel
theorem xc70_27 {d : Nat} {a0 a1 a2 a3 a4 a5 a6 a7 : Value} {s0 : Int32} {s1 : Int32} {h : AHp} {h1 : AHp} {v : Int32} (hq : Rf d 71 0 [.int s1, .int s0] [] h = some (some (.int v), h1)) : Rf (d + 1) 70 27 [a0, a1, a2, a3, a4, a5, a6, a7] [.int s0, .int s1] h = Rf (d + 1) 70 30 [a0, a1, a2, a3, a4, a5, a6, a7] [.int v] h1 := clS (as := [.int s1, .int s0]) c70_27 rfl rfl (by simp [isV]) hq
theorem c70_30 : cd 70 30 = some (30, .ifCond .eq 20, 3, [(50, 0)]) := by decide +kernel
theorem x70_30 {d : Nat} {a0 a1 a2 a3 a4 a5 a6 a7 : Value} {s0 : Int32} {h : AHp} : Rf d 70 30 [a0, a1, a2, a3, a4, a5, a6, a7] [.int s0] h = if s0 = 0 then Rf d 70 50 [a0, a1, a2, a3, a4, a5, a6, a7] [] h else Rf d 70 33 [a0, a1, a2, a3, a4, a5, a6, a7] [] h := Rf_brd ((stp_of c70_30).trans rfl)
theorem c70_50 : cd 70 50 = some (50, .iconst 0, 1, []) := by decide +kernel
theorem x70_50 {d : Nat} {a0 a1 a2 a3 a4 a5 a6 a7 : Value} {h : AHp} : Rf d 70 50 [a0, a1, a2, a3, a4, a5, a6, a7] [] h = Rf d 70 51 [a0, a1, a2, a3, a4, a5, a6, a7] [.int 0] h := Rf_go ((stp_of c70_50).trans rfl)
theorem c70_51 : cd 70 51 = some (51, .istore 6, 2, []) := by decide +kernel
theorem x70_51 {d : Nat} {a0 a1 a2 a3 a4 a5 a6 a7 : Value} {s0 : Int32} {h : AHp} : Rf d 70 51 [a0, a1, a2, a3, a4, a5, a6, a7] [.int s0] h = Rf d 70 53 [a0, a1, a2, a3, a4, a5, .int s0, a7] [] h := Rf_go ((stp_of c70_51).trans rfl)
theorem c70_53 : cd 70 53 = some (53, .iload_n 2, 1, []) := by decide +kernel
theorem x70_53 {d : Nat} {a0 a1 a3 a4 a5 a6 a7 : Value} {x : Int32} {h : AHp} : Rf d 70 53 [a0, a1, .int x, a3, a4, a5, a6, a7] [] h = Rf d 70 54 [a0, a1, .int x, a3, a4, a5, a6, a7] [.int x] h := Rf_go ((stp_of c70_53).trans rfl)
theorem c70_54 : cd 70 54 = some (54, .iload_n 1, 1, []) := by decide +kernel
theorem x70_54 {d : Nat} {a0 a2 a3 a4 a5 a6 a7 : Value} {s0 : Int32} {x : Int32} {h : AHp} : Rf d 70 54 [a0, .int x, a2, a3, a4, a5, a6, a7] [.int s0] h = Rf d 70 55 [a0, .int x, a2, a3, a4, a5, a6, a7] [.int x, .int s0] h := Rf_go ((stp_of c70_54).trans rfl)
theorem c70_55 : cd 70 55 = some (55, .iconst (-1), 1, []) := by decide +kernel
theorem x70_55 {d : Nat} {a0 a1 a2 a3 a4 a5 a6 a7 : Value} {s0 : Int32} {s1 : Int32} {h : AHp} : Rf d 70 55 [a0, a1, a2, a3, a4, a5, a6, a7] [.int s0, .int s1] h = Rf d 70 56 [a0, a1, a2, a3, a4, a5, a6, a7] [.int (-1), .int s0, .int s1] h := Rf_go ((stp_of c70_55).trans rfl)
theorem c70_56 : cd 70 56 = some (56, .ixor, 1, []) := by decide +kernel
theorem x70_56 {d : Nat} {a0 a1 a2 a3 a4 a5 a6 a7 : Value} {s0 : Int32} {s1 : Int32} {s2 : Int32} {h : AHp} : Rf d 70 56 [a0, a1, a2, a3, a4, a5, a6, a7] [.int s0, .int s1, .int s2] h = Rf d 70 57 [a0, a1, a2, a3, a4, a5, a6, a7] [.int (s1 ^^^ s0), .int s2] h := Rf_go ((stp_of c70_56).trans rfl)
theorem c70_57 : cd 70 57 = some (57, .iand, 1, []) := by decide +kernel
theorem x70_57 {d : Nat} {a0 a1 a2 a3 a4 a5 a6 a7 : Value} {s0 : Int32} {s1 : Int32} {h : AHp} : Rf d 70 57 [a0, a1, a2, a3, a4, a5, a6, a7] [.int s0, .int s1] h = Rf d 70 58 [a0, a1, a2, a3, a4, a5, a6, a7] [.int (s1 &&& s0)] h := Rf_go ((stp_of c70_57).trans rfl)
theorem c70_58 : cd 70 58 = some (58, .iload 5, 2, []) := by decide +kernel
theorem x70_58 {d : Nat} {a0 a1 a2 a3 a4 a6 a7 : Value} {s0 : Int32} {x : Int32} {h : AHp} : Rf d 70 58 [a0, a1, a2, a3, a4, .int x, a6, a7] [.int s0] h = Rf d 70 60 [a0, a1, a2, a3, a4, .int x, a6, a7] [.int x, .int s0] h := Rf_go ((stp_of c70_58).trans rfl)
theorem c70_60 : cd 70 60 = some (60, .if_icmp .ne 7, 3, [(67, 0)]) := by decide +kernel
theorem x70_60 {d : Nat} {a0 a1 a2 a3 a4 a5 a6 a7 : Value} {s0 : Int32} {s1 : Int32} {h : AHp} : Rf d 70 60 [a0, a1, a2, a3, a4, a5, a6, a7] [.int s0, .int s1] h = if s1 = s0 then Rf d 70 63 [a0, a1, a2, a3, a4, a5, a6, a7] [] h else Rf d 70 67 [a0, a1, a2, a3, a4, a5, a6, a7] [] h := Rf_brn ((stp_of c70_60).trans rfl)
theorem c70_67 : cd 70 67 = some (67, .iconst 0, 1, []) := by decide +kernel
theorem x70_67 {d : Nat} {a0 a1 a2 a3 a4 a5 a6 a7 : Value} {h : AHp} : Rf d 70 67 [a0, a1, a2, a3, a4, a5, a6, a7] [] h = Rf d 70 68 [a0, a1, a2, a3, a4, a5, a6, a7] [.int 0] h := Rf_go ((stp_of c70_67).trans rfl)
theorem c70_68 : cd 70 68 = some (68, .istore 7, 2, []) := by decide +kernel
theorem x70_68 {d : Nat} {a0 a1 a2 a3 a4 a5 a6 a7 : Value} {s0 : Int32} {h : AHp} : Rf d 70 68 [a0, a1, a2, a3, a4, a5, a6, a7] [.int s0] h = Rf d 70 70 [a0, a1, a2, a3, a4, a5, a6, .int s0] [] h := Rf_go ((stp_of c70_68).trans rfl)
theorem c70_70 : cd 70 70 = some (70, .iload_n 1, 1, []) := by decide +kernel
theorem x70_70 {d : Nat} {a0 a2 a3 a4 a5 a6 a7 : Value} {x : Int32} {h : AHp} : Rf d 70 70 [a0, .int x, a2, a3, a4, a5, a6, a7] [] h = Rf d 70 71 [a0, .int x, a2, a3, a4, a5, a6, a7] [.int x] h := Rf_go ((stp_of c70_70).trans rfl)
theorem c70_71 : cd 70 71 = some (71, .iload 5, 2, []) := by decide +kernel
theorem x70_71 {d : Nat} {a0 a1 a2 a3 a4 a6 a7 : Value} {s0 : Int32} {x : Int32} {h : AHp} : Rf d 70 71 [a0, a1, a2, a3, a4, .int x, a6, a7] [.int s0] h = Rf d 70 73 [a0, a1, a2, a3, a4, .int x, a6, a7] [.int x, .int s0] h := Rf_go ((stp_of c70_71).trans rfl)
theorem c70_73 : cd 70 73 = some (73, .iand, 1, []) := by decide +kernel
theorem x70_73 {d : Nat} {a0 a1 a2 a3 a4 a5 a6 a7 : Value} {s0 : Int32} {s1 : Int32} {h : AHp} : Rf d 70 73 [a0, a1, a2, a3, a4, a5, a6, a7] [.int s0, .int s1] h = Rf d 70 74 [a0, a1, a2, a3, a4, a5, a6, a7] [.int (s1 &&& s0)] h := Rf_go ((stp_of c70_73).trans rfl)
theorem c70_74 : cd 70 74 = some (74, .ifCond .ne 18, 3, [(92, 0)]) := by decide +kernel
theorem x70_74 {d : Nat} {a0 a1 a2 a3 a4 a5 a6 a7 : Value} {s0 : Int32} {h : AHp} : Rf d 70 74 [a0, a1, a2, a3, a4, a5, a6, a7] [.int s0] h = if s0 = 0 then Rf d 70 77 [a0, a1, a2, a3, a4, a5, a6, a7] [] h else Rf d 70 92 [a0, a1, a2, a3, a4, a5, a6, a7] [] h := Rf_brn ((stp_of c70_74).trans rfl)
theorem c70_92 : cd 70 92 = some (92, .iinc 4 1, 3, []) := by decide +kernel
theorem x70_92 {d : Nat} {a0 a1 a2 a3 a5 a6 a7 : Value} {x : Int32} {h : AHp} : Rf d 70 92 [a0, a1, a2, a3, .int x, a5, a6, a7] [] h = Rf d 70 95 [a0, a1, a2, a3, .int (x + 1), a5, a6, a7] [] h := Rf_go ((stp_of c70_92).trans rfl)
theorem c70_95 : cd 70 95 = some (95, .goto (-90), 3, [(5, 0)]) := by decide +kernel
theorem x70_95 {d : Nat} {a0 a1 a2 a3 a4 a5 a6 a7 : Value} {h : AHp} : Rf d 70 95 [a0, a1, a2, a3, a4, a5, a6, a7] [] h = Rf d 70 5 [a0, a1, a2, a3, a4, a5, a6, a7] [] h := Rf_go ((stp_of c70_95).trans rfl)
theorem c70_77 : cd 70 77 = some (77, .iload 6, 2, []) := by decide +kernel
theorem x70_77 {d : Nat} {a0 a1 a2 a3 a4 a5 a7 : Value} {x : Int32} {h : AHp} : Rf d 70 77 [a0, a1, a2, a3, a4, a5, .int x, a7] [] h = Rf d 70 79 [a0, a1, a2, a3, a4, a5, .int x, a7] [.int x] h := Rf_go ((stp_of c70_77).trans rfl)
theorem c70_79 : cd 70 79 = some (79, .ifCond .ne 8, 3, [(87, 0)]) := by decide +kernel
theorem x70_79 {d : Nat} {a0 a1 a2 a3 a4 a5 a6 a7 : Value} {s0 : Int32} {h : AHp} : Rf d 70 79 [a0, a1, a2, a3, a4, a5, a6, a7] [.int s0] h = if s0 = 0 then Rf d 70 82 [a0, a1, a2, a3, a4, a5, a6, a7] [] h else Rf d 70 87 [a0, a1, a2, a3, a4, a5, a6, a7] [] h := Rf_brn ((stp_of c70_79).trans rfl)
theorem c70_87 : cd 70 87 = some (87, .iload_n 3, 1, []) := by decide +kernel
theorem x70_87 {d : Nat} {a0 a1 a2 a4 a5 a6 a7 : Value} {x : Int32} {h : AHp} : Rf d 70 87 [a0, a1, a2, .int x, a4, a5, a6, a7] [] h = Rf d 70 88 [a0, a1, a2, .int x, a4, a5, a6, a7] [.int x] h := Rf_go ((stp_of c70_87).trans rfl)
theorem c70_88 : cd 70 88 = some (88, .iload 5, 2, []) := by decide +kernel
theorem x70_88 {d : Nat} {a0 a1 a2 a3 a4 a6 a7 : Value} {s0 : Int32} {x : Int32} {h : AHp} : Rf d 70 88 [a0, a1, a2, a3, a4, .int x, a6, a7] [.int s0] h = Rf d 70 90 [a0, a1, a2, a3, a4, .int x, a6, a7] [.int x, .int s0] h := Rf_go ((stp_of c70_88).trans rfl)
theorem c70_90 : cd 70 90 = some (90, .ior, 1, []) := by decide +kernel
theorem x70_90 {d : Nat} {a0 a1 a2 a3 a4 a5 a6 a7 : Value} {s0 : Int32} {s1 : Int32} {h : AHp} : Rf d 70 90 [a0, a1, a2, a3, a4, a5, a6, a7] [.int s0, .int s1] h = Rf d 70 91 [a0, a1, a2, a3, a4, a5, a6, a7] [.int (s1 ||| s0)] h := Rf_go ((stp_of c70_90).trans rfl)
theorem c70_91 : cd 70 91 = some (91, .istore_n 3, 1, []) := by decide +kernel
theorem x70_91 {d : Nat} {a0 a1 a2 a3 a4 a5 a6 a7 : Value} {s0 : Int32} {h : AHp} : Rf d 70 91 [a0, a1, a2, a3, a4, a5, a6, a7] [.int s0] h = Rf d 70 92 [a0, a1, a2, .int s0, a4, a5, a6, a7] [] h := Rf_go ((stp_of c70_91).trans rfl)
theorem c70_82 : cd 70 82 = some (82, .iload 7, 2, []) := by decide +kernel
theorem x70_82 {d : Nat} {a0 a1 a2 a3 a4 a5 a6 : Value} {x : Int32} {h : AHp} : Rf d 70 82 [a0, a1, a2, a3, a4, a5, a6, .int x] [] h = Rf d 70 84 [a0, a1, a2, a3, a4, a5, a6, .int x] [.int x] h := Rf_go ((stp_of c70_82).trans rfl)
theorem c70_84 : cd 70 84 = some (84, .ifCond .eq 8, 3, [(92, 0)]) := by decide +kernel
theorem x70_84 {d : Nat} {a0 a1 a2 a3 a4 a5 a6 a7 : Value} {s0 : Int32} {h : AHp} : Rf d 70 84 [a0, a1, a2, a3, a4, a5, a6, a7] [.int s0] h = if s0 = 0 then Rf d 70 92 [a0, a1, a2, a3, a4, a5, a6, a7] [] h else Rf d 70 87 [a0, a1, a2, a3, a4, a5, a6, a7] [] h := Rf_brd ((stp_of c70_84).trans rfl)
theorem c70_63 : cd 70 63 = some (63, .iconst 1, 1, []) := by decide +kernel
theorem x70_63 {d : Nat} {a0 a1 a2 a3 a4 a5 a6 a7 : Value} {h : AHp} : Rf d 70 63 [a0, a1, a2, a3, a4, a5, a6, a7] [] h = Rf d 70 64 [a0, a1, a2, a3, a4, a5, a6, a7] [.int 1] h := Rf_go ((stp_of c70_63).trans rfl)
theorem c70_64 : cd 70 64 = some (64, .goto 4, 3, [(68, 0)]) := by decide +kernel
theorem x70_64 {d : Nat} {a0 a1 a2 a3 a4 a5 a6 a7 : Value} {s0 : Int32} {h : AHp} : Rf d 70 64 [a0, a1, a2, a3, a4, a5, a6, a7] [.int s0] h = Rf d 70 68 [a0, a1, a2, a3, a4, a5, a6, a7] [.int s0] h := Rf_go ((stp_of c70_64).trans rfl)
theorem c70_33 : cd 70 33 = some (33, .iload_n 1, 1, []) := by decide +kernel
theorem x70_33 {d : Nat} {a0 a2 a3 a4 a5 a6 a7 : Value} {x : Int32} {h : AHp} : Rf d 70 33 [a0, .int x, a2, a3, a4, a5, a6, a7] [] h = Rf d 70 34 [a0, .int x, a2, a3, a4, a5, a6, a7] [.int x] h := Rf_go ((stp_of c70_33).trans rfl)
theorem c70_34 : cd 70 34 = some (34, .aload_n 0, 1, []) := by decide +kernel
theorem x70_34 {d : Nat} {a1 a2 a3 a4 a5 a6 a7 : Value} {s0 : Int32} {x : Nat} {h : AHp} : Rf d 70 34 [.ref x, a1, a2, a3, a4, a5, a6, a7] [.int s0] h = Rf d 70 35 [.ref x, a1, a2, a3, a4, a5, a6, a7] [.ref x, .int s0] h := Rf_go ((stp_of c70_34).trans rfl)
theorem c70_35 : cd 70 35 = some (35, .iload 4, 2, []) := by decide +kernel
theorem x70_35 {d : Nat} {a0 a1 a2 a3 a5 a6 a7 : Value} {s0 : Nat} {s1 : Int32} {x : Int32} {h : AHp} : Rf d 70 35 [a0, a1, a2, a3, .int x, a5, a6, a7] [.ref s0, .int s1] h = Rf d 70 37 [a0, a1, a2, a3, .int x, a5, a6, a7] [.int x, .ref s0, .int s1] h := Rf_go ((stp_of c70_35).trans rfl)
theorem c70_37 : cd 70 37 = some (37, .invokevirtual 196, 3, [(6, 73)]) := by decide +kernel
theorem xc70_37 {d : Nat} {a0 a1 a2 a3 a4 a5 a6 a7 : Value} {s0 : Int32} {s1 : Nat} {s2 : Int32} {h : AHp} {h1 : AHp} {v : Int32} (hr : cls (h.1 s1) = 6) (hq : Rf d 73 0 [.ref s1, .int s0, noV] [] h = some (some (.int v), h1)) : Rf (d + 1) 70 37 [a0, a1, a2, a3, a4, a5, a6, a7] [.int s0, .ref s1, .int s2] h = Rf (d + 1) 70 40 [a0, a1, a2, a3, a4, a5, a6, a7] [.int v, .int s2] h1 := clV (c := 73) (as := [.int s0]) c70_37 rfl (by simp [isV]) (by rw [hr]; rfl) hq
theorem c70_40 : cd 70 40 = some (40, .invokestatic 192, 3, [(0, 71)]) := by decide +kernel
theorem xc70_40 {d : Nat} {a0 a1 a2 a3 a4 a5 a6 a7 : Value} {s0 : Int32} {s1 : Int32} {h : AHp} {h1 : AHp} {v : Int32} (hq : Rf d 71 0 [.int s1, .int s0] [] h = some (some (.int v), h1)) : Rf (d + 1) 70 40 [a0, a1, a2, a3, a4, a5, a6, a7] [.int s0, .int s1] h = Rf (d + 1) 70 43 [a0, a1, a2, a3, a4, a5, a6, a7] [.int v] h1 := clS (as := [.int s1, .int s0]) c70_40 rfl rfl (by simp [isV]) hq
theorem c70_43 : cd 70 43 = some (43, .ifCond .eq 7, 3, [(50, 0)]) := by decide +kernel
theorem x70_43 {d : Nat} {a0 a1 a2 a3 a4 a5 a6 a7 : Value} {s0 : Int32} {h : AHp} : Rf d 70 43 [a0, a1, a2, a3, a4, a5, a6, a7] [.int s0] h = if s0 = 0 then Rf d 70 50 [a0, a1, a2, a3, a4, a5, a6, a7] [] h else Rf d 70 46 [a0, a1, a2, a3, a4, a5, a6, a7] [] h := Rf_brd ((stp_of c70_43).trans rfl)
theorem c70_46 : cd 70 46 = some (46, .iconst 1, 1, []) := by decide +kernel
theorem x70_46 {d : Nat} {a0 a1 a2 a3 a4 a5 a6 a7 : Value} {h : AHp} : Rf d 70 46 [a0, a1, a2, a3, a4, a5, a6, a7] [] h = Rf d 70 47 [a0, a1, a2, a3, a4, a5, a6, a7] [.int 1] h := Rf_go ((stp_of c70_46).trans rfl)
theorem c70_47 : cd 70 47 = some (47, .goto 4, 3, [(51, 0)]) := by decide +kernel
theorem x70_47 {d : Nat} {a0 a1 a2 a3 a4 a5 a6 a7 : Value} {s0 : Int32} {h : AHp} : Rf d 70 47 [a0, a1, a2, a3, a4, a5, a6, a7] [.int s0] h = Rf d 70 51 [a0, a1, a2, a3, a4, a5, a6, a7] [.int s0] h := Rf_go ((stp_of c70_47).trans rfl)
-- 71: X6_isOneOf
theorem c71_0 : cd 71 0 = some (0, .iload_n 0, 1, []) := by decide +kernel
theorem x71_0 {d : Nat} {a1 : Value} {x : Int32} {h : AHp} : Rf d 71 0 [.int x, a1] [] h = Rf d 71 1 [.int x, a1] [.int x] h := Rf_go ((stp_of c71_0).trans rfl)
theorem c71_1 : cd 71 1 = some (1, .iload_n 1, 1, []) := by decide +kernel
theorem x71_1 {d : Nat} {a0 : Value} {s0 : Int32} {x : Int32} {h : AHp} : Rf d 71 1 [a0, .int x] [.int s0] h = Rf d 71 2 [a0, .int x] [.int x, .int s0] h := Rf_go ((stp_of c71_1).trans rfl)
theorem c71_2 : cd 71 2 = some (2, .ishr, 1, []) := by decide +kernel
theorem x71_2 {d : Nat} {a0 a1 : Value} {s0 : Int32} {s1 : Int32} {h : AHp} : Rf d 71 2 [a0, a1] [.int s0, .int s1] h = Rf d 71 3 [a0, a1] [.int (s1 >>> (s0 &&& 31))] h := Rf_go ((stp_of c71_2).trans rfl)
theorem c71_3 : cd 71 3 = some (3, .iconst 1, 1, []) := by decide +kernel
theorem x71_3 {d : Nat} {a0 a1 : Value} {s0 : Int32} {h : AHp} : Rf d 71 3 [a0, a1] [.int s0] h = Rf d 71 4 [a0, a1] [.int 1, .int s0] h := Rf_go ((stp_of c71_3).trans rfl)
theorem c71_4 : cd 71 4 = some (4, .iand, 1, []) := by decide +kernel
theorem x71_4 {d : Nat} {a0 a1 : Value} {s0 : Int32} {s1 : Int32} {h : AHp} : Rf d 71 4 [a0, a1] [.int s0, .int s1] h = Rf d 71 5 [a0, a1] [.int (s1 &&& s0)] h := Rf_go ((stp_of c71_4).trans rfl)
theorem c71_5 : cd 71 5 = some (5, .ifCond .eq 7, 3, [(12, 0)]) := by decide +kernel
theorem x71_5 {d : Nat} {a0 a1 : Value} {s0 : Int32} {h : AHp} : Rf d 71 5 [a0, a1] [.int s0] h = if s0 = 0 then Rf d 71 12 [a0, a1] [] h else Rf d 71 8 [a0, a1] [] h := Rf_brd ((stp_of c71_5).trans rfl)
theorem c71_12 : cd 71 12 = some (12, .iconst 0, 1, []) := by decide +kernel
theorem x71_12 {d : Nat} {a0 a1 : Value} {h : AHp} : Rf d 71 12 [a0, a1] [] h = Rf d 71 13 [a0, a1] [.int 0] h := Rf_go ((stp_of c71_12).trans rfl)
theorem c71_13 : cd 71 13 = some (13, .ireturn, 1, []) := by decide +kernel
theorem x71_13 {d : Nat} {a0 a1 : Value} {s0 : Int32} {h : AHp} : Rf d 71 13 [a0, a1] [.int s0] h = if retI (some .boolean) s0 = true then some (some (.int s0), h) else Rx d 71 13 [a0, a1] [.int s0] h := Rf_ife (fun hk => by rw [stp_of c71_13]; exact if_pos hk)
theorem c71_8 : cd 71 8 = some (8, .iconst 1, 1, []) := by decide +kernel
theorem x71_8 {d : Nat} {a0 a1 : Value} {h : AHp} : Rf d 71 8 [a0, a1] [] h = Rf d 71 9 [a0, a1] [.int 1] h := Rf_go ((stp_of c71_8).trans rfl)
theorem c71_9 : cd 71 9 = some (9, .goto 4, 3, [(13, 0)]) := by decide +kernel
theorem x71_9 {d : Nat} {a0 a1 : Value} {s0 : Int32} {h : AHp} : Rf d 71 9 [a0, a1] [.int s0] h = Rf d 71 13 [a0, a1] [.int s0] h := Rf_go ((stp_of c71_9).trans rfl)
-- 72: X6_aheadRound
theorem c72_0 : cd 72 0 = some (0, .aload_n 0, 1, []) := by decide +kernel
theorem x72_0 {d : Nat} {a1 a2 : Value} {x : Nat} {h : AHp} : Rf d 72 0 [.ref x, a1, a2] [] h = Rf d 72 1 [.ref x, a1, a2] [.ref x] h := Rf_go ((stp_of c72_0).trans rfl)
theorem c72_1 : cd 72 1 = some (1, .iload_n 1, 1, []) := by decide +kernel
theorem x72_1 {d : Nat} {a0 a2 : Value} {s0 : Nat} {x : Int32} {h : AHp} : Rf d 72 1 [a0, .int x, a2] [.ref s0] h = Rf d 72 2 [a0, .int x, a2] [.int x, .ref s0] h := Rf_go ((stp_of c72_1).trans rfl)
theorem c72_2 : cd 72 2 = some (2, .invokevirtual 113, 3, [(6, 46)]) := by decide +kernel
theorem xc72_2 {d : Nat} {a0 a1 a2 : Value} {s0 : Int32} {s1 : Nat} {h : AHp} {h1 : AHp} {v : Int32} (hr : cls (h.1 s1) = 6) (hq : Rf d 46 0 [.ref s1, .int s0, noV] [] h = some (some (.int v), h1)) : Rf (d + 1) 72 2 [a0, a1, a2] [.int s0, .ref s1] h = Rf (d + 1) 72 5 [a0, a1, a2] [.int v] h1 := clV (c := 46) (as := [.int s0]) c72_2 rfl (by simp [isV]) (by rw [hr]; rfl) hq
theorem c72_5 : cd 72 5 = some (5, .istore_n 2, 1, []) := by decide +kernel
theorem x72_5 {d : Nat} {a0 a1 a2 : Value} {s0 : Int32} {h : AHp} : Rf d 72 5 [a0, a1, a2] [.int s0] h = Rf d 72 6 [a0, a1, .int s0] [] h := Rf_go ((stp_of c72_5).trans rfl)
theorem c72_6 : cd 72 6 = some (6, .iload_n 2, 1, []) := by decide +kernel
theorem x72_6 {d : Nat} {a0 a1 : Value} {x : Int32} {h : AHp} : Rf d 72 6 [a0, a1, .int x] [] h = Rf d 72 7 [a0, a1, .int x] [.int x] h := Rf_go ((stp_of c72_6).trans rfl)
theorem c72_7 : cd 72 7 = some (7, .iconst (-1), 1, []) := by decide +kernel
theorem x72_7 {d : Nat} {a0 a1 a2 : Value} {s0 : Int32} {h : AHp} : Rf d 72 7 [a0, a1, a2] [.int s0] h = Rf d 72 8 [a0, a1, a2] [.int (-1), .int s0] h := Rf_go ((stp_of c72_7).trans rfl)
theorem c72_8 : cd 72 8 = some (8, .if_icmp .eq 7, 3, [(15, 0)]) := by decide +kernel
theorem x72_8 {d : Nat} {a0 a1 a2 : Value} {s0 : Int32} {s1 : Int32} {h : AHp} : Rf d 72 8 [a0, a1, a2] [.int s0, .int s1] h = if s1 = s0 then Rf d 72 15 [a0, a1, a2] [] h else Rf d 72 11 [a0, a1, a2] [] h := Rf_brd ((stp_of c72_8).trans rfl)
theorem c72_15 : cd 72 15 = some (15, .aload_n 0, 1, []) := by decide +kernel
theorem x72_15 {d : Nat} {a1 a2 : Value} {x : Nat} {h : AHp} : Rf d 72 15 [.ref x, a1, a2] [] h = Rf d 72 16 [.ref x, a1, a2] [.ref x] h := Rf_go ((stp_of c72_15).trans rfl)
theorem c72_16 : cd 72 16 = some (16, .invokevirtual 199, 3, [(6, 75)]) := by decide +kernel
theorem xc72_16 {d : Nat} {a0 a1 a2 : Value} {s0 : Nat} {h : AHp} {h1 : AHp} {v : Int32} (hr : cls (h.1 s0) = 6) (hq : Rf d 75 0 [.ref s0, noV] [] h = some (some (.int v), h1)) : Rf (d + 1) 72 16 [a0, a1, a2] [.ref s0] h = Rf (d + 1) 72 19 [a0, a1, a2] [.int v] h1 := clV (c := 75) (as := []) c72_16 rfl (by simp [isV]) (by rw [hr]; rfl) hq
theorem c72_19 : cd 72 19 = some (19, .ireturn, 1, []) := by decide +kernel
theorem x72_19 {d : Nat} {a0 a1 a2 : Value} {s0 : Int32} {h : AHp} : Rf d 72 19 [a0, a1, a2] [.int s0] h = some (some (.int s0), h) := Rf_end (by rw [stp_of c72_19]; simp only [stpI]; rw [if_pos (show retI (mH 72).2.2.1 s0 = true from retI_int)])
theorem c72_11 : cd 72 11 = some (11, .iload_n 2, 1, []) := by decide +kernel
theorem x72_11 {d : Nat} {a0 a1 : Value} {x : Int32} {h : AHp} : Rf d 72 11 [a0, a1, .int x] [] h = Rf d 72 12 [a0, a1, .int x] [.int x] h := Rf_go ((stp_of c72_11).trans rfl)
theorem c72_12 : cd 72 12 = some (12, .goto 7, 3, [(19, 0)]) := by decide +kernel
theorem x72_12 {d : Nat} {a0 a1 a2 : Value} {s0 : Int32} {h : AHp} : Rf d 72 12 [a0, a1, a2] [.int s0] h = Rf d 72 19 [a0, a1, a2] [.int s0] h := Rf_go ((stp_of c72_12).trans rfl)
-- 73: X6_behindRound
theorem c73_0 : cd 73 0 = some (0, .aload_n 0, 1, []) := by decide +kernel
theorem x73_0 {d : Nat} {a1 a2 : Value} {x : Nat} {h : AHp} : Rf d 73 0 [.ref x, a1, a2] [] h = Rf d 73 1 [.ref x, a1, a2] [.ref x] h := Rf_go ((stp_of c73_0).trans rfl)
theorem c73_1 : cd 73 1 = some (1, .iload_n 1, 1, []) := by decide +kernel
theorem x73_1 {d : Nat} {a0 a2 : Value} {s0 : Nat} {x : Int32} {h : AHp} : Rf d 73 1 [a0, .int x, a2] [.ref s0] h = Rf d 73 2 [a0, .int x, a2] [.int x, .ref s0] h := Rf_go ((stp_of c73_1).trans rfl)
theorem c73_2 : cd 73 2 = some (2, .invokevirtual 117, 3, [(6, 47)]) := by decide +kernel
theorem xc73_2 {d : Nat} {a0 a1 a2 : Value} {s0 : Int32} {s1 : Nat} {h : AHp} {h1 : AHp} {v : Int32} (hr : cls (h.1 s1) = 6) (hq : Rf d 47 0 [.ref s1, .int s0, noV] [] h = some (some (.int v), h1)) : Rf (d + 1) 73 2 [a0, a1, a2] [.int s0, .ref s1] h = Rf (d + 1) 73 5 [a0, a1, a2] [.int v] h1 := clV (c := 47) (as := [.int s0]) c73_2 rfl (by simp [isV]) (by rw [hr]; rfl) hq
theorem c73_5 : cd 73 5 = some (5, .istore_n 2, 1, []) := by decide +kernel
theorem x73_5 {d : Nat} {a0 a1 a2 : Value} {s0 : Int32} {h : AHp} : Rf d 73 5 [a0, a1, a2] [.int s0] h = Rf d 73 6 [a0, a1, .int s0] [] h := Rf_go ((stp_of c73_5).trans rfl)
theorem c73_6 : cd 73 6 = some (6, .iload_n 2, 1, []) := by decide +kernel
theorem x73_6 {d : Nat} {a0 a1 : Value} {x : Int32} {h : AHp} : Rf d 73 6 [a0, a1, .int x] [] h = Rf d 73 7 [a0, a1, .int x] [.int x] h := Rf_go ((stp_of c73_6).trans rfl)
theorem c73_7 : cd 73 7 = some (7, .iconst (-1), 1, []) := by decide +kernel
theorem x73_7 {d : Nat} {a0 a1 a2 : Value} {s0 : Int32} {h : AHp} : Rf d 73 7 [a0, a1, a2] [.int s0] h = Rf d 73 8 [a0, a1, a2] [.int (-1), .int s0] h := Rf_go ((stp_of c73_7).trans rfl)
theorem c73_8 : cd 73 8 = some (8, .if_icmp .eq 7, 3, [(15, 0)]) := by decide +kernel
theorem x73_8 {d : Nat} {a0 a1 a2 : Value} {s0 : Int32} {s1 : Int32} {h : AHp} : Rf d 73 8 [a0, a1, a2] [.int s0, .int s1] h = if s1 = s0 then Rf d 73 15 [a0, a1, a2] [] h else Rf d 73 11 [a0, a1, a2] [] h := Rf_brd ((stp_of c73_8).trans rfl)
theorem c73_15 : cd 73 15 = some (15, .aload_n 0, 1, []) := by decide +kernel
theorem x73_15 {d : Nat} {a1 a2 : Value} {x : Nat} {h : AHp} : Rf d 73 15 [.ref x, a1, a2] [] h = Rf d 73 16 [.ref x, a1, a2] [.ref x] h := Rf_go ((stp_of c73_15).trans rfl)
theorem c73_16 : cd 73 16 = some (16, .invokevirtual 202, 3, [(6, 74)]) := by decide +kernel
theorem xc73_16 {d : Nat} {a0 a1 a2 : Value} {s0 : Nat} {h : AHp} {h1 : AHp} {v : Int32} (hr : cls (h.1 s0) = 6) (hq : Rf d 74 0 [.ref s0, noV] [] h = some (some (.int v), h1)) : Rf (d + 1) 73 16 [a0, a1, a2] [.ref s0] h = Rf (d + 1) 73 19 [a0, a1, a2] [.int v] h1 := clV (c := 74) (as := []) c73_16 rfl (by simp [isV]) (by rw [hr]; rfl) hq
theorem c73_19 : cd 73 19 = some (19, .ireturn, 1, []) := by decide +kernel
theorem x73_19 {d : Nat} {a0 a1 a2 : Value} {s0 : Int32} {h : AHp} : Rf d 73 19 [a0, a1, a2] [.int s0] h = some (some (.int s0), h) := Rf_end (by rw [stp_of c73_19]; simp only [stpI]; rw [if_pos (show retI (mH 73).2.2.1 s0 = true from retI_int)])
theorem c73_11 : cd 73 11 = some (11, .iload_n 2, 1, []) := by decide +kernel
theorem x73_11 {d : Nat} {a0 a1 : Value} {x : Int32} {h : AHp} : Rf d 73 11 [a0, a1, .int x] [] h = Rf d 73 12 [a0, a1, .int x] [.int x] h := Rf_go ((stp_of c73_11).trans rfl)
theorem c73_12 : cd 73 12 = some (12, .goto 7, 3, [(19, 0)]) := by decide +kernel
theorem x73_12 {d : Nat} {a0 a1 a2 : Value} {s0 : Int32} {h : AHp} : Rf d 73 12 [a0, a1, a2] [.int s0] h = Rf d 73 19 [a0, a1, a2] [.int s0] h := Rf_go ((stp_of c73_12).trans rfl)
-- 74: X6_firstWorker
theorem c74_0 : cd 74 0 = some (0, .iconst 0, 1, []) := by decide +kernel
theorem x74_0 {d : Nat} {a0 a1 : Value} {h : AHp} : Rf d 74 0 [a0, a1] [] h = Rf d 74 1 [a0, a1] [.int 0] h := Rf_go ((stp_of c74_0).trans rfl)
theorem c74_1 : cd 74 1 = some (1, .istore_n 1, 1, []) := by decide +kernel
theorem x74_1 {d : Nat} {a0 a1 : Value} {s0 : Int32} {h : AHp} : Rf d 74 1 [a0, a1] [.int s0] h = Rf d 74 2 [a0, .int s0] [] h := Rf_go ((stp_of c74_1).trans rfl)
theorem c74_2 : cd 74 2 = some (2, .iload_n 1, 1, []) := by decide +kernel
theorem x74_2 {d : Nat} {a0 : Value} {x : Int32} {h : AHp} : Rf d 74 2 [a0, .int x] [] h = Rf d 74 3 [a0, .int x] [.int x] h := Rf_go ((stp_of c74_2).trans rfl)
theorem c74_3 : cd 74 3 = some (3, .bipush 10, 2, []) := by decide +kernel
theorem x74_3 {d : Nat} {a0 a1 : Value} {s0 : Int32} {h : AHp} : Rf d 74 3 [a0, a1] [.int s0] h = Rf d 74 5 [a0, a1] [.int 10, .int s0] h := Rf_go ((stp_of c74_3).trans rfl)
theorem c74_5 : cd 74 5 = some (5, .if_icmp .ge 26, 3, [(31, 0)]) := by decide +kernel
theorem x74_5 {d : Nat} {a0 a1 : Value} {s0 : Int32} {s1 : Int32} {h : AHp} : Rf d 74 5 [a0, a1] [.int s0, .int s1] h = if s1 < s0 then Rf d 74 8 [a0, a1] [] h else Rf d 74 31 [a0, a1] [] h := Rf_brn ((stp_of c74_5).trans rfl)
theorem c74_31 : cd 74 31 = some (31, .iconst 0, 1, []) := by decide +kernel
theorem x74_31 {d : Nat} {a0 a1 : Value} {h : AHp} : Rf d 74 31 [a0, a1] [] h = Rf d 74 32 [a0, a1] [.int 0] h := Rf_go ((stp_of c74_31).trans rfl)
theorem c74_32 : cd 74 32 = some (32, .ireturn, 1, []) := by decide +kernel
theorem x74_32 {d : Nat} {a0 a1 : Value} {s0 : Int32} {h : AHp} : Rf d 74 32 [a0, a1] [.int s0] h = some (some (.int s0), h) := Rf_end (by rw [stp_of c74_32]; simp only [stpI]; rw [if_pos (show retI (mH 74).2.2.1 s0 = true from retI_int)])
theorem c74_8 : cd 74 8 = some (8, .aload_n 0, 1, []) := by decide +kernel
theorem x74_8 {d : Nat} {a1 : Value} {x : Nat} {h : AHp} : Rf d 74 8 [.ref x, a1] [] h = Rf d 74 9 [.ref x, a1] [.ref x] h := Rf_go ((stp_of c74_8).trans rfl)
theorem c74_9 : cd 74 9 = some (9, .getfield 15, 3, [(6, 2)]) := by decide +kernel
theorem x74_9 {d : Nat} {a0 a1 : Value} {s0 : Nat} {h : AHp} : Rf d 74 9 [a0, a1] [.ref s0] h = if cls (h.1 s0) = 6 ∧ oKr (h.1 s0) 2 = true then Rf d 74 12 [a0, a1] [.ref (oR (h.1 s0) 2)] h else Rx d 74 9 [a0, a1] [.ref s0] h := getR c74_9
theorem c74_12 : cd 74 12 = some (12, .iload_n 1, 1, []) := by decide +kernel
theorem x74_12 {d : Nat} {a0 : Value} {s0 : Nat} {x : Int32} {h : AHp} : Rf d 74 12 [a0, .int x] [.ref s0] h = Rf d 74 13 [a0, .int x] [.int x, .ref s0] h := Rf_go ((stp_of c74_12).trans rfl)
theorem c74_13 : cd 74 13 = some (13, .iaload, 1, []) := by decide +kernel
theorem x74_13 {d : Nat} {a0 a1 : Value} {s0 : Int32} {s1 : Nat} {h : AHp} : Rf d 74 13 [a0, a1] [.int s0, .ref s1] h = if (aT (h.1 s1) = 0 ∨ aT (h.1 s1) = 10) ∧ inB s0 (aN (h.1 s1)) = true then Rf d 74 14 [a0, a1] [.int (aF (h.1 s1) s0.toNatClampNeg)] h else Rx d 74 13 [a0, a1] [.int s0, .ref s1] h := ldI c74_13
theorem c74_14 : cd 74 14 = some (14, .iconst (-1), 1, []) := by decide +kernel
theorem x74_14 {d : Nat} {a0 a1 : Value} {s0 : Int32} {h : AHp} : Rf d 74 14 [a0, a1] [.int s0] h = Rf d 74 15 [a0, a1] [.int (-1), .int s0] h := Rf_go ((stp_of c74_14).trans rfl)
theorem c74_15 : cd 74 15 = some (15, .if_icmp .eq 10, 3, [(25, 0)]) := by decide +kernel
theorem x74_15 {d : Nat} {a0 a1 : Value} {s0 : Int32} {s1 : Int32} {h : AHp} : Rf d 74 15 [a0, a1] [.int s0, .int s1] h = if s1 = s0 then Rf d 74 25 [a0, a1] [] h else Rf d 74 18 [a0, a1] [] h := Rf_brd ((stp_of c74_15).trans rfl)
theorem c74_25 : cd 74 25 = some (25, .iinc 1 1, 3, []) := by decide +kernel
theorem x74_25 {d : Nat} {a0 : Value} {x : Int32} {h : AHp} : Rf d 74 25 [a0, .int x] [] h = Rf d 74 28 [a0, .int (x + 1)] [] h := Rf_go ((stp_of c74_25).trans rfl)
theorem c74_28 : cd 74 28 = some (28, .goto (-26), 3, [(2, 0)]) := by decide +kernel
theorem x74_28 {d : Nat} {a0 a1 : Value} {h : AHp} : Rf d 74 28 [a0, a1] [] h = Rf d 74 2 [a0, a1] [] h := Rf_go ((stp_of c74_28).trans rfl)
theorem c74_18 : cd 74 18 = some (18, .aload_n 0, 1, []) := by decide +kernel
theorem x74_18 {d : Nat} {a1 : Value} {x : Nat} {h : AHp} : Rf d 74 18 [.ref x, a1] [] h = Rf d 74 19 [.ref x, a1] [.ref x] h := Rf_go ((stp_of c74_18).trans rfl)
theorem c74_19 : cd 74 19 = some (19, .getfield 15, 3, [(6, 2)]) := by decide +kernel
theorem x74_19 {d : Nat} {a0 a1 : Value} {s0 : Nat} {h : AHp} : Rf d 74 19 [a0, a1] [.ref s0] h = if cls (h.1 s0) = 6 ∧ oKr (h.1 s0) 2 = true then Rf d 74 22 [a0, a1] [.ref (oR (h.1 s0) 2)] h else Rx d 74 19 [a0, a1] [.ref s0] h := getR c74_19
theorem c74_22 : cd 74 22 = some (22, .iload_n 1, 1, []) := by decide +kernel
theorem x74_22 {d : Nat} {a0 : Value} {s0 : Nat} {x : Int32} {h : AHp} : Rf d 74 22 [a0, .int x] [.ref s0] h = Rf d 74 23 [a0, .int x] [.int x, .ref s0] h := Rf_go ((stp_of c74_22).trans rfl)
theorem c74_23 : cd 74 23 = some (23, .iaload, 1, []) := by decide +kernel
theorem x74_23 {d : Nat} {a0 a1 : Value} {s0 : Int32} {s1 : Nat} {h : AHp} : Rf d 74 23 [a0, a1] [.int s0, .ref s1] h = if (aT (h.1 s1) = 0 ∨ aT (h.1 s1) = 10) ∧ inB s0 (aN (h.1 s1)) = true then Rf d 74 24 [a0, a1] [.int (aF (h.1 s1) s0.toNatClampNeg)] h else Rx d 74 23 [a0, a1] [.int s0, .ref s1] h := ldI c74_23
theorem c74_24 : cd 74 24 = some (24, .ireturn, 1, []) := by decide +kernel
theorem x74_24 {d : Nat} {a0 a1 : Value} {s0 : Int32} {h : AHp} : Rf d 74 24 [a0, a1] [.int s0] h = some (some (.int s0), h) := Rf_end (by rw [stp_of c74_24]; simp only [stpI]; rw [if_pos (show retI (mH 74).2.2.1 s0 = true from retI_int)])
-- 75: X6_lastWorker
theorem c75_0 : cd 75 0 = some (0, .bipush 9, 2, []) := by decide +kernel
theorem x75_0 {d : Nat} {a0 a1 : Value} {h : AHp} : Rf d 75 0 [a0, a1] [] h = Rf d 75 2 [a0, a1] [.int 9] h := Rf_go ((stp_of c75_0).trans rfl)
theorem c75_2 : cd 75 2 = some (2, .istore_n 1, 1, []) := by decide +kernel
theorem x75_2 {d : Nat} {a0 a1 : Value} {s0 : Int32} {h : AHp} : Rf d 75 2 [a0, a1] [.int s0] h = Rf d 75 3 [a0, .int s0] [] h := Rf_go ((stp_of c75_2).trans rfl)
theorem c75_3 : cd 75 3 = some (3, .iload_n 1, 1, []) := by decide +kernel
theorem x75_3 {d : Nat} {a0 : Value} {x : Int32} {h : AHp} : Rf d 75 3 [a0, .int x] [] h = Rf d 75 4 [a0, .int x] [.int x] h := Rf_go ((stp_of c75_3).trans rfl)
theorem c75_4 : cd 75 4 = some (4, .ifCond .lt 26, 3, [(30, 0)]) := by decide +kernel
theorem x75_4 {d : Nat} {a0 a1 : Value} {s0 : Int32} {h : AHp} : Rf d 75 4 [a0, a1] [.int s0] h = if s0 < 0 then Rf d 75 30 [a0, a1] [] h else Rf d 75 7 [a0, a1] [] h := Rf_brd ((stp_of c75_4).trans rfl)
theorem c75_30 : cd 75 30 = some (30, .iconst 0, 1, []) := by decide +kernel
theorem x75_30 {d : Nat} {a0 a1 : Value} {h : AHp} : Rf d 75 30 [a0, a1] [] h = Rf d 75 31 [a0, a1] [.int 0] h := Rf_go ((stp_of c75_30).trans rfl)
theorem c75_31 : cd 75 31 = some (31, .ireturn, 1, []) := by decide +kernel
theorem x75_31 {d : Nat} {a0 a1 : Value} {s0 : Int32} {h : AHp} : Rf d 75 31 [a0, a1] [.int s0] h = some (some (.int s0), h) := Rf_end (by rw [stp_of c75_31]; simp only [stpI]; rw [if_pos (show retI (mH 75).2.2.1 s0 = true from retI_int)])
theorem c75_7 : cd 75 7 = some (7, .aload_n 0, 1, []) := by decide +kernel
theorem x75_7 {d : Nat} {a1 : Value} {x : Nat} {h : AHp} : Rf d 75 7 [.ref x, a1] [] h = Rf d 75 8 [.ref x, a1] [.ref x] h := Rf_go ((stp_of c75_7).trans rfl)
theorem c75_8 : cd 75 8 = some (8, .getfield 15, 3, [(6, 2)]) := by decide +kernel
theorem x75_8 {d : Nat} {a0 a1 : Value} {s0 : Nat} {h : AHp} : Rf d 75 8 [a0, a1] [.ref s0] h = if cls (h.1 s0) = 6 ∧ oKr (h.1 s0) 2 = true then Rf d 75 11 [a0, a1] [.ref (oR (h.1 s0) 2)] h else Rx d 75 8 [a0, a1] [.ref s0] h := getR c75_8
theorem c75_11 : cd 75 11 = some (11, .iload_n 1, 1, []) := by decide +kernel
theorem x75_11 {d : Nat} {a0 : Value} {s0 : Nat} {x : Int32} {h : AHp} : Rf d 75 11 [a0, .int x] [.ref s0] h = Rf d 75 12 [a0, .int x] [.int x, .ref s0] h := Rf_go ((stp_of c75_11).trans rfl)
theorem c75_12 : cd 75 12 = some (12, .iaload, 1, []) := by decide +kernel
theorem x75_12 {d : Nat} {a0 a1 : Value} {s0 : Int32} {s1 : Nat} {h : AHp} : Rf d 75 12 [a0, a1] [.int s0, .ref s1] h = if (aT (h.1 s1) = 0 ∨ aT (h.1 s1) = 10) ∧ inB s0 (aN (h.1 s1)) = true then Rf d 75 13 [a0, a1] [.int (aF (h.1 s1) s0.toNatClampNeg)] h else Rx d 75 12 [a0, a1] [.int s0, .ref s1] h := ldI c75_12
theorem c75_13 : cd 75 13 = some (13, .iconst (-1), 1, []) := by decide +kernel
theorem x75_13 {d : Nat} {a0 a1 : Value} {s0 : Int32} {h : AHp} : Rf d 75 13 [a0, a1] [.int s0] h = Rf d 75 14 [a0, a1] [.int (-1), .int s0] h := Rf_go ((stp_of c75_13).trans rfl)
theorem c75_14 : cd 75 14 = some (14, .if_icmp .eq 10, 3, [(24, 0)]) := by decide +kernel
theorem x75_14 {d : Nat} {a0 a1 : Value} {s0 : Int32} {s1 : Int32} {h : AHp} : Rf d 75 14 [a0, a1] [.int s0, .int s1] h = if s1 = s0 then Rf d 75 24 [a0, a1] [] h else Rf d 75 17 [a0, a1] [] h := Rf_brd ((stp_of c75_14).trans rfl)
theorem c75_24 : cd 75 24 = some (24, .iinc 1 (-1), 3, []) := by decide +kernel
theorem x75_24 {d : Nat} {a0 : Value} {x : Int32} {h : AHp} : Rf d 75 24 [a0, .int x] [] h = Rf d 75 27 [a0, .int (x + (-1))] [] h := Rf_go ((stp_of c75_24).trans rfl)
theorem c75_27 : cd 75 27 = some (27, .goto (-24), 3, [(3, 0)]) := by decide +kernel
theorem x75_27 {d : Nat} {a0 a1 : Value} {h : AHp} : Rf d 75 27 [a0, a1] [] h = Rf d 75 3 [a0, a1] [] h := Rf_go ((stp_of c75_27).trans rfl)
theorem c75_17 : cd 75 17 = some (17, .aload_n 0, 1, []) := by decide +kernel
theorem x75_17 {d : Nat} {a1 : Value} {x : Nat} {h : AHp} : Rf d 75 17 [.ref x, a1] [] h = Rf d 75 18 [.ref x, a1] [.ref x] h := Rf_go ((stp_of c75_17).trans rfl)
theorem c75_18 : cd 75 18 = some (18, .getfield 15, 3, [(6, 2)]) := by decide +kernel
theorem x75_18 {d : Nat} {a0 a1 : Value} {s0 : Nat} {h : AHp} : Rf d 75 18 [a0, a1] [.ref s0] h = if cls (h.1 s0) = 6 ∧ oKr (h.1 s0) 2 = true then Rf d 75 21 [a0, a1] [.ref (oR (h.1 s0) 2)] h else Rx d 75 18 [a0, a1] [.ref s0] h := getR c75_18
theorem c75_21 : cd 75 21 = some (21, .iload_n 1, 1, []) := by decide +kernel
theorem x75_21 {d : Nat} {a0 : Value} {s0 : Nat} {x : Int32} {h : AHp} : Rf d 75 21 [a0, .int x] [.ref s0] h = Rf d 75 22 [a0, .int x] [.int x, .ref s0] h := Rf_go ((stp_of c75_21).trans rfl)
theorem c75_22 : cd 75 22 = some (22, .iaload, 1, []) := by decide +kernel
theorem x75_22 {d : Nat} {a0 a1 : Value} {s0 : Int32} {s1 : Nat} {h : AHp} : Rf d 75 22 [a0, a1] [.int s0, .ref s1] h = if (aT (h.1 s1) = 0 ∨ aT (h.1 s1) = 10) ∧ inB s0 (aN (h.1 s1)) = true then Rf d 75 23 [a0, a1] [.int (aF (h.1 s1) s0.toNatClampNeg)] h else Rx d 75 22 [a0, a1] [.int s0, .ref s1] h := ldI c75_22
theorem c75_23 : cd 75 23 = some (23, .ireturn, 1, []) := by decide +kernel
theorem x75_23 {d : Nat} {a0 a1 : Value} {s0 : Int32} {h : AHp} : Rf d 75 23 [a0, a1] [.int s0] h = some (some (.int s0), h) := Rf_end (by rw [stp_of c75_23]; simp only [stpI]; rw [if_pos (show retI (mH 75).2.2.1 s0 = true from retI_int)])
