-- 76: X7_init
theorem c76_0 : cd 76 0 = some (0, .aload_n 0, 1, []) := by decide +kernel
theorem x76_0 {d : Nat} {x : Nat} {h : AHp} : Rf d 76 0 [.ref x] [] h = Rf d 76 1 [.ref x] [.ref x] h := Rf_go ((stp_of c76_0).trans rfl)
theorem c76_1 : cd 76 1 = some (1, .invokespecial 3, 3, [(1001, 0)]) := by decide +kernel
theorem x76_1 {d : Nat} {a0 : Value} {s0 : Nat} {h : AHp} : Rf d 76 1 [a0] [.ref s0] h = Rf d 76 4 [a0] [] h := Rf_go ((stp_of c76_1).trans rfl)
theorem c76_4 : cd 76 4 = some (4, .aload_n 0, 1, []) := by decide +kernel
theorem x76_4 {d : Nat} {x : Nat} {h : AHp} : Rf d 76 4 [.ref x] [] h = Rf d 76 5 [.ref x] [.ref x] h := Rf_go ((stp_of c76_4).trans rfl)
theorem c76_5 : cd 76 5 = some (5, .bipush 100, 2, []) := by decide +kernel
theorem x76_5 {d : Nat} {a0 : Value} {s0 : Nat} {h : AHp} : Rf d 76 5 [a0] [.ref s0] h = Rf d 76 7 [a0] [.int 100, .ref s0] h := Rf_go ((stp_of c76_5).trans rfl)
theorem c76_7 : cd 76 7 = some (7, .newarray .byte, 2, [(1, 0)]) := by decide +kernel
theorem x76_7 {d : Nat} {a0 : Value} {s0 : Int32} {s1 : Nat} {h : AHp} : Rf d 76 7 [a0] [.int s0, .ref s1] h = if okN s0 = true then Rf d 76 9 [a0] [.ref h.2.1, .ref s1] (hnew h (.inl (1, s0.toNatClampNeg, .inl (fun _ => 0))) s0.toNatClampNeg) else Rx d 76 7 [a0] [.int s0, .ref s1] h := nwA c76_7
theorem c76_9 : cd 76 9 = some (9, .putfield 9, 3, [(7, 0)]) := by decide +kernel
theorem x76_9 {d : Nat} {a0 : Value} {s0 : Nat} {s1 : Nat} {h : AHp} : Rf d 76 9 [a0] [.ref s0, .ref s1] h = if cls (h.1 s1) = 7 ∧ oL (h.1 s1) = 9 then Rf d 76 12 [a0] [] (hset h s1 (oSet (h.1 s1) 0 (.ref s0))) else Rx d 76 9 [a0] [.ref s0, .ref s1] h := putV c76_9 rfl (fMay_a (t := .byte) (by decide +kernel))
theorem c76_12 : cd 76 12 = some (12, .aload_n 0, 1, []) := by decide +kernel
theorem x76_12 {d : Nat} {x : Nat} {h : AHp} : Rf d 76 12 [.ref x] [] h = Rf d 76 13 [.ref x] [.ref x] h := Rf_go ((stp_of c76_12).trans rfl)
theorem c76_13 : cd 76 13 = some (13, .bipush 12, 2, []) := by decide +kernel
theorem x76_13 {d : Nat} {a0 : Value} {s0 : Nat} {h : AHp} : Rf d 76 13 [a0] [.ref s0] h = Rf d 76 15 [a0] [.int 12, .ref s0] h := Rf_go ((stp_of c76_13).trans rfl)
theorem c76_15 : cd 76 15 = some (15, .newarray .int, 2, [(0, 0)]) := by decide +kernel
theorem x76_15 {d : Nat} {a0 : Value} {s0 : Int32} {s1 : Nat} {h : AHp} : Rf d 76 15 [a0] [.int s0, .ref s1] h = if okN s0 = true then Rf d 76 17 [a0] [.ref h.2.1, .ref s1] (hnew h (.inl (0, s0.toNatClampNeg, .inl (fun _ => 0))) s0.toNatClampNeg) else Rx d 76 15 [a0] [.int s0, .ref s1] h := nwA c76_15
theorem c76_17 : cd 76 17 = some (17, .putfield 15, 3, [(7, 3)]) := by decide +kernel
theorem x76_17 {d : Nat} {a0 : Value} {s0 : Nat} {s1 : Nat} {h : AHp} : Rf d 76 17 [a0] [.ref s0, .ref s1] h = if cls (h.1 s1) = 7 ∧ oL (h.1 s1) = 9 then Rf d 76 20 [a0] [] (hset h s1 (oSet (h.1 s1) 3 (.ref s0))) else Rx d 76 17 [a0] [.ref s0, .ref s1] h := putV c76_17 rfl (fMay_a (t := .int) (by decide +kernel))
theorem c76_20 : cd 76 20 = some (20, .aload_n 0, 1, []) := by decide +kernel
theorem x76_20 {d : Nat} {x : Nat} {h : AHp} : Rf d 76 20 [.ref x] [] h = Rf d 76 21 [.ref x] [.ref x] h := Rf_go ((stp_of c76_20).trans rfl)
theorem c76_21 : cd 76 21 = some (21, .bipush 12, 2, []) := by decide +kernel
theorem x76_21 {d : Nat} {a0 : Value} {s0 : Nat} {h : AHp} : Rf d 76 21 [a0] [.ref s0] h = Rf d 76 23 [a0] [.int 12, .ref s0] h := Rf_go ((stp_of c76_21).trans rfl)
theorem c76_23 : cd 76 23 = some (23, .newarray .int, 2, [(0, 0)]) := by decide +kernel
theorem x76_23 {d : Nat} {a0 : Value} {s0 : Int32} {s1 : Nat} {h : AHp} : Rf d 76 23 [a0] [.int s0, .ref s1] h = if okN s0 = true then Rf d 76 25 [a0] [.ref h.2.1, .ref s1] (hnew h (.inl (0, s0.toNatClampNeg, .inl (fun _ => 0))) s0.toNatClampNeg) else Rx d 76 23 [a0] [.int s0, .ref s1] h := nwA c76_23
theorem c76_25 : cd 76 25 = some (25, .putfield 19, 3, [(7, 4)]) := by decide +kernel
theorem x76_25 {d : Nat} {a0 : Value} {s0 : Nat} {s1 : Nat} {h : AHp} : Rf d 76 25 [a0] [.ref s0, .ref s1] h = if cls (h.1 s1) = 7 ∧ oL (h.1 s1) = 9 then Rf d 76 28 [a0] [] (hset h s1 (oSet (h.1 s1) 4 (.ref s0))) else Rx d 76 25 [a0] [.ref s0, .ref s1] h := putV c76_25 rfl (fMay_a (t := .int) (by decide +kernel))
theorem c76_28 : cd 76 28 = some (28, .aload_n 0, 1, []) := by decide +kernel
theorem x76_28 {d : Nat} {x : Nat} {h : AHp} : Rf d 76 28 [.ref x] [] h = Rf d 76 29 [.ref x] [.ref x] h := Rf_go ((stp_of c76_28).trans rfl)
theorem c76_29 : cd 76 29 = some (29, .bipush 12, 2, []) := by decide +kernel
theorem x76_29 {d : Nat} {a0 : Value} {s0 : Nat} {h : AHp} : Rf d 76 29 [a0] [.ref s0] h = Rf d 76 31 [a0] [.int 12, .ref s0] h := Rf_go ((stp_of c76_29).trans rfl)
theorem c76_31 : cd 76 31 = some (31, .newarray .int, 2, [(0, 0)]) := by decide +kernel
theorem x76_31 {d : Nat} {a0 : Value} {s0 : Int32} {s1 : Nat} {h : AHp} : Rf d 76 31 [a0] [.int s0, .ref s1] h = if okN s0 = true then Rf d 76 33 [a0] [.ref h.2.1, .ref s1] (hnew h (.inl (0, s0.toNatClampNeg, .inl (fun _ => 0))) s0.toNatClampNeg) else Rx d 76 31 [a0] [.int s0, .ref s1] h := nwA c76_31
theorem c76_33 : cd 76 33 = some (33, .putfield 22, 3, [(7, 5)]) := by decide +kernel
theorem x76_33 {d : Nat} {a0 : Value} {s0 : Nat} {s1 : Nat} {h : AHp} : Rf d 76 33 [a0] [.ref s0, .ref s1] h = if cls (h.1 s1) = 7 ∧ oL (h.1 s1) = 9 then Rf d 76 36 [a0] [] (hset h s1 (oSet (h.1 s1) 5 (.ref s0))) else Rx d 76 33 [a0] [.ref s0, .ref s1] h := putV c76_33 rfl (fMay_a (t := .int) (by decide +kernel))
theorem c76_36 : cd 76 36 = some (36, .aload_n 0, 1, []) := by decide +kernel
theorem x76_36 {d : Nat} {x : Nat} {h : AHp} : Rf d 76 36 [.ref x] [] h = Rf d 76 37 [.ref x] [.ref x] h := Rf_go ((stp_of c76_36).trans rfl)
theorem c76_37 : cd 76 37 = some (37, .bipush 10, 2, []) := by decide +kernel
theorem x76_37 {d : Nat} {a0 : Value} {s0 : Nat} {h : AHp} : Rf d 76 37 [a0] [.ref s0] h = Rf d 76 39 [a0] [.int 10, .ref s0] h := Rf_go ((stp_of c76_37).trans rfl)
theorem c76_39 : cd 76 39 = some (39, .newarray .int, 2, [(0, 0)]) := by decide +kernel
theorem x76_39 {d : Nat} {a0 : Value} {s0 : Int32} {s1 : Nat} {h : AHp} : Rf d 76 39 [a0] [.int s0, .ref s1] h = if okN s0 = true then Rf d 76 41 [a0] [.ref h.2.1, .ref s1] (hnew h (.inl (0, s0.toNatClampNeg, .inl (fun _ => 0))) s0.toNatClampNeg) else Rx d 76 39 [a0] [.int s0, .ref s1] h := nwA c76_39
theorem c76_41 : cd 76 41 = some (41, .putfield 25, 3, [(7, 7)]) := by decide +kernel
theorem x76_41 {d : Nat} {a0 : Value} {s0 : Nat} {s1 : Nat} {h : AHp} : Rf d 76 41 [a0] [.ref s0, .ref s1] h = if cls (h.1 s1) = 7 ∧ oL (h.1 s1) = 9 then Rf d 76 44 [a0] [] (hset h s1 (oSet (h.1 s1) 7 (.ref s0))) else Rx d 76 41 [a0] [.ref s0, .ref s1] h := putV c76_41 rfl (fMay_a (t := .int) (by decide +kernel))
theorem c76_44 : cd 76 44 = some (44, .return_, 1, []) := by decide +kernel
theorem x76_44 {d : Nat} {a0 : Value} {h : AHp} : Rf d 76 44 [a0] [] h = some (none, h) := Rf_end (endV c76_44 (by decide +kernel))
-- 77: X7_copyFrom
theorem c77_0 : cd 77 0 = some (0, .aload_n 1, 1, []) := by decide +kernel
theorem x77_0 {d : Nat} {a0 : Value} {x : Nat} {h : AHp} : Rf d 77 0 [a0, .ref x] [] h = Rf d 77 1 [a0, .ref x] [.ref x] h := Rf_go ((stp_of c77_0).trans rfl)
theorem c77_1 : cd 77 1 = some (1, .getfield 9, 3, [(7, 0)]) := by decide +kernel
theorem x77_1 {d : Nat} {a0 a1 : Value} {s0 : Nat} {h : AHp} : Rf d 77 1 [a0, a1] [.ref s0] h = if cls (h.1 s0) = 7 ∧ oKr (h.1 s0) 0 = true then Rf d 77 4 [a0, a1] [.ref (oR (h.1 s0) 0)] h else Rx d 77 1 [a0, a1] [.ref s0] h := getR c77_1
theorem c77_4 : cd 77 4 = some (4, .iconst 0, 1, []) := by decide +kernel
theorem x77_4 {d : Nat} {a0 a1 : Value} {s0 : Nat} {h : AHp} : Rf d 77 4 [a0, a1] [.ref s0] h = Rf d 77 5 [a0, a1] [.int 0, .ref s0] h := Rf_go ((stp_of c77_4).trans rfl)
theorem c77_5 : cd 77 5 = some (5, .aload_n 0, 1, []) := by decide +kernel
theorem x77_5 {d : Nat} {a1 : Value} {s0 : Int32} {s1 : Nat} {x : Nat} {h : AHp} : Rf d 77 5 [.ref x, a1] [.int s0, .ref s1] h = Rf d 77 6 [.ref x, a1] [.ref x, .int s0, .ref s1] h := Rf_go ((stp_of c77_5).trans rfl)
theorem c77_6 : cd 77 6 = some (6, .getfield 9, 3, [(7, 0)]) := by decide +kernel
theorem x77_6 {d : Nat} {a0 a1 : Value} {s0 : Nat} {s1 : Int32} {s2 : Nat} {h : AHp} : Rf d 77 6 [a0, a1] [.ref s0, .int s1, .ref s2] h = if cls (h.1 s0) = 7 ∧ oKr (h.1 s0) 0 = true then Rf d 77 9 [a0, a1] [.ref (oR (h.1 s0) 0), .int s1, .ref s2] h else Rx d 77 6 [a0, a1] [.ref s0, .int s1, .ref s2] h := getR c77_6
theorem c77_9 : cd 77 9 = some (9, .iconst 0, 1, []) := by decide +kernel
theorem x77_9 {d : Nat} {a0 a1 : Value} {s0 : Nat} {s1 : Int32} {s2 : Nat} {h : AHp} : Rf d 77 9 [a0, a1] [.ref s0, .int s1, .ref s2] h = Rf d 77 10 [a0, a1] [.int 0, .ref s0, .int s1, .ref s2] h := Rf_go ((stp_of c77_9).trans rfl)
theorem c77_10 : cd 77 10 = some (10, .bipush 100, 2, []) := by decide +kernel
theorem x77_10 {d : Nat} {a0 a1 : Value} {s0 : Int32} {s1 : Nat} {s2 : Int32} {s3 : Nat} {h : AHp} : Rf d 77 10 [a0, a1] [.int s0, .ref s1, .int s2, .ref s3] h = Rf d 77 12 [a0, a1] [.int 100, .int s0, .ref s1, .int s2, .ref s3] h := Rf_go ((stp_of c77_10).trans rfl)
theorem c77_12 : cd 77 12 = some (12, .invokestatic 28, 3, [(1000, 0)]) := by decide +kernel
theorem x77_12 {d : Nat} {a0 a1 : Value} {s0 : Int32} {s1 : Int32} {s2 : Nat} {s3 : Int32} {s4 : Nat} {h : AHp} : Rf d 77 12 [a0, a1] [.int s0, .int s1, .ref s2, .int s3, .ref s4] h = if (copyC (h.1 s4) (h.1 s2) s3 s1 s0).isSome = true then Rf d 77 15 [a0, a1] [] (hset h s2 ((copyC (h.1 s4) (h.1 s2) s3 s1 s0).getD noC)) else Rx d 77 12 [a0, a1] [.int s0, .int s1, .ref s2, .int s3, .ref s4] h := cpA c77_12 (by simp)
theorem c77_15 : cd 77 15 = some (15, .aload_n 0, 1, []) := by decide +kernel
theorem x77_15 {d : Nat} {a1 : Value} {x : Nat} {h : AHp} : Rf d 77 15 [.ref x, a1] [] h = Rf d 77 16 [.ref x, a1] [.ref x] h := Rf_go ((stp_of c77_15).trans rfl)
theorem c77_16 : cd 77 16 = some (16, .aload_n 1, 1, []) := by decide +kernel
theorem x77_16 {d : Nat} {a0 : Value} {s0 : Nat} {x : Nat} {h : AHp} : Rf d 77 16 [a0, .ref x] [.ref s0] h = Rf d 77 17 [a0, .ref x] [.ref x, .ref s0] h := Rf_go ((stp_of c77_16).trans rfl)
theorem c77_17 : cd 77 17 = some (17, .getfield 34, 3, [(7, 1)]) := by decide +kernel
theorem x77_17 {d : Nat} {a0 a1 : Value} {s0 : Nat} {s1 : Nat} {h : AHp} : Rf d 77 17 [a0, a1] [.ref s0, .ref s1] h = if cls (h.1 s0) = 7 ∧ oKi (h.1 s0) 1 = true then Rf d 77 20 [a0, a1] [.int (oN (h.1 s0) 1), .ref s1] h else Rx d 77 17 [a0, a1] [.ref s0, .ref s1] h := getI c77_17
theorem c77_20 : cd 77 20 = some (20, .putfield 34, 3, [(7, 1)]) := by decide +kernel
theorem x77_20 {d : Nat} {a0 a1 : Value} {s0 : Int32} {s1 : Nat} {h : AHp} : Rf d 77 20 [a0, a1] [.int s0, .ref s1] h = if cls (h.1 s1) = 7 ∧ oL (h.1 s1) = 9 then Rf d 77 23 [a0, a1] [] (hset h s1 (oSet (h.1 s1) 1 (.int s0))) else Rx d 77 20 [a0, a1] [.int s0, .ref s1] h := putV c77_20 rfl (fMay_i (by decide +kernel))
theorem c77_23 : cd 77 23 = some (23, .aload_n 0, 1, []) := by decide +kernel
theorem x77_23 {d : Nat} {a1 : Value} {x : Nat} {h : AHp} : Rf d 77 23 [.ref x, a1] [] h = Rf d 77 24 [.ref x, a1] [.ref x] h := Rf_go ((stp_of c77_23).trans rfl)
theorem c77_24 : cd 77 24 = some (24, .aload_n 1, 1, []) := by decide +kernel
theorem x77_24 {d : Nat} {a0 : Value} {s0 : Nat} {x : Nat} {h : AHp} : Rf d 77 24 [a0, .ref x] [.ref s0] h = Rf d 77 25 [a0, .ref x] [.ref x, .ref s0] h := Rf_go ((stp_of c77_24).trans rfl)
theorem c77_25 : cd 77 25 = some (25, .getfield 38, 3, [(7, 2)]) := by decide +kernel
theorem x77_25 {d : Nat} {a0 a1 : Value} {s0 : Nat} {s1 : Nat} {h : AHp} : Rf d 77 25 [a0, a1] [.ref s0, .ref s1] h = if cls (h.1 s0) = 7 ∧ oKi (h.1 s0) 2 = true then Rf d 77 28 [a0, a1] [.int (oN (h.1 s0) 2), .ref s1] h else Rx d 77 25 [a0, a1] [.ref s0, .ref s1] h := getI c77_25
theorem c77_28 : cd 77 28 = some (28, .putfield 38, 3, [(7, 2)]) := by decide +kernel
theorem x77_28 {d : Nat} {a0 a1 : Value} {s0 : Int32} {s1 : Nat} {h : AHp} : Rf d 77 28 [a0, a1] [.int s0, .ref s1] h = if cls (h.1 s1) = 7 ∧ oL (h.1 s1) = 9 then Rf d 77 31 [a0, a1] [] (hset h s1 (oSet (h.1 s1) 2 (.int s0))) else Rx d 77 28 [a0, a1] [.int s0, .ref s1] h := putV c77_28 rfl (fMay_i (by decide +kernel))
theorem c77_31 : cd 77 31 = some (31, .aload_n 1, 1, []) := by decide +kernel
theorem x77_31 {d : Nat} {a0 : Value} {x : Nat} {h : AHp} : Rf d 77 31 [a0, .ref x] [] h = Rf d 77 32 [a0, .ref x] [.ref x] h := Rf_go ((stp_of c77_31).trans rfl)
theorem c77_32 : cd 77 32 = some (32, .getfield 15, 3, [(7, 3)]) := by decide +kernel
theorem x77_32 {d : Nat} {a0 a1 : Value} {s0 : Nat} {h : AHp} : Rf d 77 32 [a0, a1] [.ref s0] h = if cls (h.1 s0) = 7 ∧ oKr (h.1 s0) 3 = true then Rf d 77 35 [a0, a1] [.ref (oR (h.1 s0) 3)] h else Rx d 77 32 [a0, a1] [.ref s0] h := getR c77_32
theorem c77_35 : cd 77 35 = some (35, .iconst 0, 1, []) := by decide +kernel
theorem x77_35 {d : Nat} {a0 a1 : Value} {s0 : Nat} {h : AHp} : Rf d 77 35 [a0, a1] [.ref s0] h = Rf d 77 36 [a0, a1] [.int 0, .ref s0] h := Rf_go ((stp_of c77_35).trans rfl)
theorem c77_36 : cd 77 36 = some (36, .aload_n 0, 1, []) := by decide +kernel
theorem x77_36 {d : Nat} {a1 : Value} {s0 : Int32} {s1 : Nat} {x : Nat} {h : AHp} : Rf d 77 36 [.ref x, a1] [.int s0, .ref s1] h = Rf d 77 37 [.ref x, a1] [.ref x, .int s0, .ref s1] h := Rf_go ((stp_of c77_36).trans rfl)
theorem c77_37 : cd 77 37 = some (37, .getfield 15, 3, [(7, 3)]) := by decide +kernel
theorem x77_37 {d : Nat} {a0 a1 : Value} {s0 : Nat} {s1 : Int32} {s2 : Nat} {h : AHp} : Rf d 77 37 [a0, a1] [.ref s0, .int s1, .ref s2] h = if cls (h.1 s0) = 7 ∧ oKr (h.1 s0) 3 = true then Rf d 77 40 [a0, a1] [.ref (oR (h.1 s0) 3), .int s1, .ref s2] h else Rx d 77 37 [a0, a1] [.ref s0, .int s1, .ref s2] h := getR c77_37
theorem c77_40 : cd 77 40 = some (40, .iconst 0, 1, []) := by decide +kernel
theorem x77_40 {d : Nat} {a0 a1 : Value} {s0 : Nat} {s1 : Int32} {s2 : Nat} {h : AHp} : Rf d 77 40 [a0, a1] [.ref s0, .int s1, .ref s2] h = Rf d 77 41 [a0, a1] [.int 0, .ref s0, .int s1, .ref s2] h := Rf_go ((stp_of c77_40).trans rfl)
theorem c77_41 : cd 77 41 = some (41, .bipush 12, 2, []) := by decide +kernel
theorem x77_41 {d : Nat} {a0 a1 : Value} {s0 : Int32} {s1 : Nat} {s2 : Int32} {s3 : Nat} {h : AHp} : Rf d 77 41 [a0, a1] [.int s0, .ref s1, .int s2, .ref s3] h = Rf d 77 43 [a0, a1] [.int 12, .int s0, .ref s1, .int s2, .ref s3] h := Rf_go ((stp_of c77_41).trans rfl)
theorem c77_43 : cd 77 43 = some (43, .invokestatic 28, 3, [(1000, 0)]) := by decide +kernel
theorem x77_43 {d : Nat} {a0 a1 : Value} {s0 : Int32} {s1 : Int32} {s2 : Nat} {s3 : Int32} {s4 : Nat} {h : AHp} : Rf d 77 43 [a0, a1] [.int s0, .int s1, .ref s2, .int s3, .ref s4] h = if (copyC (h.1 s4) (h.1 s2) s3 s1 s0).isSome = true then Rf d 77 46 [a0, a1] [] (hset h s2 ((copyC (h.1 s4) (h.1 s2) s3 s1 s0).getD noC)) else Rx d 77 43 [a0, a1] [.int s0, .int s1, .ref s2, .int s3, .ref s4] h := cpA c77_43 (by simp)
theorem c77_46 : cd 77 46 = some (46, .aload_n 1, 1, []) := by decide +kernel
theorem x77_46 {d : Nat} {a0 : Value} {x : Nat} {h : AHp} : Rf d 77 46 [a0, .ref x] [] h = Rf d 77 47 [a0, .ref x] [.ref x] h := Rf_go ((stp_of c77_46).trans rfl)
theorem c77_47 : cd 77 47 = some (47, .getfield 19, 3, [(7, 4)]) := by decide +kernel
theorem x77_47 {d : Nat} {a0 a1 : Value} {s0 : Nat} {h : AHp} : Rf d 77 47 [a0, a1] [.ref s0] h = if cls (h.1 s0) = 7 ∧ oKr (h.1 s0) 4 = true then Rf d 77 50 [a0, a1] [.ref (oR (h.1 s0) 4)] h else Rx d 77 47 [a0, a1] [.ref s0] h := getR c77_47
theorem c77_50 : cd 77 50 = some (50, .iconst 0, 1, []) := by decide +kernel
theorem x77_50 {d : Nat} {a0 a1 : Value} {s0 : Nat} {h : AHp} : Rf d 77 50 [a0, a1] [.ref s0] h = Rf d 77 51 [a0, a1] [.int 0, .ref s0] h := Rf_go ((stp_of c77_50).trans rfl)
theorem c77_51 : cd 77 51 = some (51, .aload_n 0, 1, []) := by decide +kernel
theorem x77_51 {d : Nat} {a1 : Value} {s0 : Int32} {s1 : Nat} {x : Nat} {h : AHp} : Rf d 77 51 [.ref x, a1] [.int s0, .ref s1] h = Rf d 77 52 [.ref x, a1] [.ref x, .int s0, .ref s1] h := Rf_go ((stp_of c77_51).trans rfl)
theorem c77_52 : cd 77 52 = some (52, .getfield 19, 3, [(7, 4)]) := by decide +kernel
theorem x77_52 {d : Nat} {a0 a1 : Value} {s0 : Nat} {s1 : Int32} {s2 : Nat} {h : AHp} : Rf d 77 52 [a0, a1] [.ref s0, .int s1, .ref s2] h = if cls (h.1 s0) = 7 ∧ oKr (h.1 s0) 4 = true then Rf d 77 55 [a0, a1] [.ref (oR (h.1 s0) 4), .int s1, .ref s2] h else Rx d 77 52 [a0, a1] [.ref s0, .int s1, .ref s2] h := getR c77_52
theorem c77_55 : cd 77 55 = some (55, .iconst 0, 1, []) := by decide +kernel
theorem x77_55 {d : Nat} {a0 a1 : Value} {s0 : Nat} {s1 : Int32} {s2 : Nat} {h : AHp} : Rf d 77 55 [a0, a1] [.ref s0, .int s1, .ref s2] h = Rf d 77 56 [a0, a1] [.int 0, .ref s0, .int s1, .ref s2] h := Rf_go ((stp_of c77_55).trans rfl)
theorem c77_56 : cd 77 56 = some (56, .bipush 12, 2, []) := by decide +kernel
theorem x77_56 {d : Nat} {a0 a1 : Value} {s0 : Int32} {s1 : Nat} {s2 : Int32} {s3 : Nat} {h : AHp} : Rf d 77 56 [a0, a1] [.int s0, .ref s1, .int s2, .ref s3] h = Rf d 77 58 [a0, a1] [.int 12, .int s0, .ref s1, .int s2, .ref s3] h := Rf_go ((stp_of c77_56).trans rfl)
theorem c77_58 : cd 77 58 = some (58, .invokestatic 28, 3, [(1000, 0)]) := by decide +kernel
theorem x77_58 {d : Nat} {a0 a1 : Value} {s0 : Int32} {s1 : Int32} {s2 : Nat} {s3 : Int32} {s4 : Nat} {h : AHp} : Rf d 77 58 [a0, a1] [.int s0, .int s1, .ref s2, .int s3, .ref s4] h = if (copyC (h.1 s4) (h.1 s2) s3 s1 s0).isSome = true then Rf d 77 61 [a0, a1] [] (hset h s2 ((copyC (h.1 s4) (h.1 s2) s3 s1 s0).getD noC)) else Rx d 77 58 [a0, a1] [.int s0, .int s1, .ref s2, .int s3, .ref s4] h := cpA c77_58 (by simp)
theorem c77_61 : cd 77 61 = some (61, .aload_n 1, 1, []) := by decide +kernel
theorem x77_61 {d : Nat} {a0 : Value} {x : Nat} {h : AHp} : Rf d 77 61 [a0, .ref x] [] h = Rf d 77 62 [a0, .ref x] [.ref x] h := Rf_go ((stp_of c77_61).trans rfl)
theorem c77_62 : cd 77 62 = some (62, .getfield 22, 3, [(7, 5)]) := by decide +kernel
theorem x77_62 {d : Nat} {a0 a1 : Value} {s0 : Nat} {h : AHp} : Rf d 77 62 [a0, a1] [.ref s0] h = if cls (h.1 s0) = 7 ∧ oKr (h.1 s0) 5 = true then Rf d 77 65 [a0, a1] [.ref (oR (h.1 s0) 5)] h else Rx d 77 62 [a0, a1] [.ref s0] h := getR c77_62
theorem c77_65 : cd 77 65 = some (65, .iconst 0, 1, []) := by decide +kernel
theorem x77_65 {d : Nat} {a0 a1 : Value} {s0 : Nat} {h : AHp} : Rf d 77 65 [a0, a1] [.ref s0] h = Rf d 77 66 [a0, a1] [.int 0, .ref s0] h := Rf_go ((stp_of c77_65).trans rfl)
theorem c77_66 : cd 77 66 = some (66, .aload_n 0, 1, []) := by decide +kernel
theorem x77_66 {d : Nat} {a1 : Value} {s0 : Int32} {s1 : Nat} {x : Nat} {h : AHp} : Rf d 77 66 [.ref x, a1] [.int s0, .ref s1] h = Rf d 77 67 [.ref x, a1] [.ref x, .int s0, .ref s1] h := Rf_go ((stp_of c77_66).trans rfl)
theorem c77_67 : cd 77 67 = some (67, .getfield 22, 3, [(7, 5)]) := by decide +kernel
theorem x77_67 {d : Nat} {a0 a1 : Value} {s0 : Nat} {s1 : Int32} {s2 : Nat} {h : AHp} : Rf d 77 67 [a0, a1] [.ref s0, .int s1, .ref s2] h = if cls (h.1 s0) = 7 ∧ oKr (h.1 s0) 5 = true then Rf d 77 70 [a0, a1] [.ref (oR (h.1 s0) 5), .int s1, .ref s2] h else Rx d 77 67 [a0, a1] [.ref s0, .int s1, .ref s2] h := getR c77_67
theorem c77_70 : cd 77 70 = some (70, .iconst 0, 1, []) := by decide +kernel
theorem x77_70 {d : Nat} {a0 a1 : Value} {s0 : Nat} {s1 : Int32} {s2 : Nat} {h : AHp} : Rf d 77 70 [a0, a1] [.ref s0, .int s1, .ref s2] h = Rf d 77 71 [a0, a1] [.int 0, .ref s0, .int s1, .ref s2] h := Rf_go ((stp_of c77_70).trans rfl)
theorem c77_71 : cd 77 71 = some (71, .bipush 12, 2, []) := by decide +kernel
theorem x77_71 {d : Nat} {a0 a1 : Value} {s0 : Int32} {s1 : Nat} {s2 : Int32} {s3 : Nat} {h : AHp} : Rf d 77 71 [a0, a1] [.int s0, .ref s1, .int s2, .ref s3] h = Rf d 77 73 [a0, a1] [.int 12, .int s0, .ref s1, .int s2, .ref s3] h := Rf_go ((stp_of c77_71).trans rfl)
theorem c77_73 : cd 77 73 = some (73, .invokestatic 28, 3, [(1000, 0)]) := by decide +kernel
theorem x77_73 {d : Nat} {a0 a1 : Value} {s0 : Int32} {s1 : Int32} {s2 : Nat} {s3 : Int32} {s4 : Nat} {h : AHp} : Rf d 77 73 [a0, a1] [.int s0, .int s1, .ref s2, .int s3, .ref s4] h = if (copyC (h.1 s4) (h.1 s2) s3 s1 s0).isSome = true then Rf d 77 76 [a0, a1] [] (hset h s2 ((copyC (h.1 s4) (h.1 s2) s3 s1 s0).getD noC)) else Rx d 77 73 [a0, a1] [.int s0, .int s1, .ref s2, .int s3, .ref s4] h := cpA c77_73 (by simp)
theorem c77_76 : cd 77 76 = some (76, .aload_n 0, 1, []) := by decide +kernel
theorem x77_76 {d : Nat} {a1 : Value} {x : Nat} {h : AHp} : Rf d 77 76 [.ref x, a1] [] h = Rf d 77 77 [.ref x, a1] [.ref x] h := Rf_go ((stp_of c77_76).trans rfl)
theorem c77_77 : cd 77 77 = some (77, .aload_n 1, 1, []) := by decide +kernel
theorem x77_77 {d : Nat} {a0 : Value} {s0 : Nat} {x : Nat} {h : AHp} : Rf d 77 77 [a0, .ref x] [.ref s0] h = Rf d 77 78 [a0, .ref x] [.ref x, .ref s0] h := Rf_go ((stp_of c77_77).trans rfl)
theorem c77_78 : cd 77 78 = some (78, .getfield 41, 3, [(7, 6)]) := by decide +kernel
theorem x77_78 {d : Nat} {a0 a1 : Value} {s0 : Nat} {s1 : Nat} {h : AHp} : Rf d 77 78 [a0, a1] [.ref s0, .ref s1] h = if cls (h.1 s0) = 7 ∧ oKi (h.1 s0) 6 = true then Rf d 77 81 [a0, a1] [.int (oN (h.1 s0) 6), .ref s1] h else Rx d 77 78 [a0, a1] [.ref s0, .ref s1] h := getI c77_78
theorem c77_81 : cd 77 81 = some (81, .putfield 41, 3, [(7, 6)]) := by decide +kernel
theorem x77_81 {d : Nat} {a0 a1 : Value} {s0 : Int32} {s1 : Nat} {h : AHp} : Rf d 77 81 [a0, a1] [.int s0, .ref s1] h = if cls (h.1 s1) = 7 ∧ oL (h.1 s1) = 9 then Rf d 77 84 [a0, a1] [] (hset h s1 (oSet (h.1 s1) 6 (.int s0))) else Rx d 77 81 [a0, a1] [.int s0, .ref s1] h := putV c77_81 rfl (fMay_i (by decide +kernel))
theorem c77_84 : cd 77 84 = some (84, .aload_n 1, 1, []) := by decide +kernel
theorem x77_84 {d : Nat} {a0 : Value} {x : Nat} {h : AHp} : Rf d 77 84 [a0, .ref x] [] h = Rf d 77 85 [a0, .ref x] [.ref x] h := Rf_go ((stp_of c77_84).trans rfl)
theorem c77_85 : cd 77 85 = some (85, .getfield 25, 3, [(7, 7)]) := by decide +kernel
theorem x77_85 {d : Nat} {a0 a1 : Value} {s0 : Nat} {h : AHp} : Rf d 77 85 [a0, a1] [.ref s0] h = if cls (h.1 s0) = 7 ∧ oKr (h.1 s0) 7 = true then Rf d 77 88 [a0, a1] [.ref (oR (h.1 s0) 7)] h else Rx d 77 85 [a0, a1] [.ref s0] h := getR c77_85
theorem c77_88 : cd 77 88 = some (88, .iconst 0, 1, []) := by decide +kernel
theorem x77_88 {d : Nat} {a0 a1 : Value} {s0 : Nat} {h : AHp} : Rf d 77 88 [a0, a1] [.ref s0] h = Rf d 77 89 [a0, a1] [.int 0, .ref s0] h := Rf_go ((stp_of c77_88).trans rfl)
theorem c77_89 : cd 77 89 = some (89, .aload_n 0, 1, []) := by decide +kernel
theorem x77_89 {d : Nat} {a1 : Value} {s0 : Int32} {s1 : Nat} {x : Nat} {h : AHp} : Rf d 77 89 [.ref x, a1] [.int s0, .ref s1] h = Rf d 77 90 [.ref x, a1] [.ref x, .int s0, .ref s1] h := Rf_go ((stp_of c77_89).trans rfl)
theorem c77_90 : cd 77 90 = some (90, .getfield 25, 3, [(7, 7)]) := by decide +kernel
theorem x77_90 {d : Nat} {a0 a1 : Value} {s0 : Nat} {s1 : Int32} {s2 : Nat} {h : AHp} : Rf d 77 90 [a0, a1] [.ref s0, .int s1, .ref s2] h = if cls (h.1 s0) = 7 ∧ oKr (h.1 s0) 7 = true then Rf d 77 93 [a0, a1] [.ref (oR (h.1 s0) 7), .int s1, .ref s2] h else Rx d 77 90 [a0, a1] [.ref s0, .int s1, .ref s2] h := getR c77_90
theorem c77_93 : cd 77 93 = some (93, .iconst 0, 1, []) := by decide +kernel
theorem x77_93 {d : Nat} {a0 a1 : Value} {s0 : Nat} {s1 : Int32} {s2 : Nat} {h : AHp} : Rf d 77 93 [a0, a1] [.ref s0, .int s1, .ref s2] h = Rf d 77 94 [a0, a1] [.int 0, .ref s0, .int s1, .ref s2] h := Rf_go ((stp_of c77_93).trans rfl)
theorem c77_94 : cd 77 94 = some (94, .bipush 10, 2, []) := by decide +kernel
theorem x77_94 {d : Nat} {a0 a1 : Value} {s0 : Int32} {s1 : Nat} {s2 : Int32} {s3 : Nat} {h : AHp} : Rf d 77 94 [a0, a1] [.int s0, .ref s1, .int s2, .ref s3] h = Rf d 77 96 [a0, a1] [.int 10, .int s0, .ref s1, .int s2, .ref s3] h := Rf_go ((stp_of c77_94).trans rfl)
theorem c77_96 : cd 77 96 = some (96, .invokestatic 28, 3, [(1000, 0)]) := by decide +kernel
theorem x77_96 {d : Nat} {a0 a1 : Value} {s0 : Int32} {s1 : Int32} {s2 : Nat} {s3 : Int32} {s4 : Nat} {h : AHp} : Rf d 77 96 [a0, a1] [.int s0, .int s1, .ref s2, .int s3, .ref s4] h = if (copyC (h.1 s4) (h.1 s2) s3 s1 s0).isSome = true then Rf d 77 99 [a0, a1] [] (hset h s2 ((copyC (h.1 s4) (h.1 s2) s3 s1 s0).getD noC)) else Rx d 77 96 [a0, a1] [.int s0, .int s1, .ref s2, .int s3, .ref s4] h := cpA c77_96 (by simp)
theorem c77_99 : cd 77 99 = some (99, .aload_n 0, 1, []) := by decide +kernel
theorem x77_99 {d : Nat} {a1 : Value} {x : Nat} {h : AHp} : Rf d 77 99 [.ref x, a1] [] h = Rf d 77 100 [.ref x, a1] [.ref x] h := Rf_go ((stp_of c77_99).trans rfl)
theorem c77_100 : cd 77 100 = some (100, .aload_n 1, 1, []) := by decide +kernel
theorem x77_100 {d : Nat} {a0 : Value} {s0 : Nat} {x : Nat} {h : AHp} : Rf d 77 100 [a0, .ref x] [.ref s0] h = Rf d 77 101 [a0, .ref x] [.ref x, .ref s0] h := Rf_go ((stp_of c77_100).trans rfl)
theorem c77_101 : cd 77 101 = some (101, .getfield 44, 3, [(7, 8)]) := by decide +kernel
theorem x77_101 {d : Nat} {a0 a1 : Value} {s0 : Nat} {s1 : Nat} {h : AHp} : Rf d 77 101 [a0, a1] [.ref s0, .ref s1] h = if cls (h.1 s0) = 7 ∧ oKi (h.1 s0) 8 = true then Rf d 77 104 [a0, a1] [.int (oN (h.1 s0) 8), .ref s1] h else Rx d 77 101 [a0, a1] [.ref s0, .ref s1] h := getI c77_101
theorem c77_104 : cd 77 104 = some (104, .putfield 44, 3, [(7, 8)]) := by decide +kernel
theorem x77_104 {d : Nat} {a0 a1 : Value} {s0 : Int32} {s1 : Nat} {h : AHp} : Rf d 77 104 [a0, a1] [.int s0, .ref s1] h = if cls (h.1 s1) = 7 ∧ oL (h.1 s1) = 9 then Rf d 77 107 [a0, a1] [] (hset h s1 (oSet (h.1 s1) 8 (.int s0))) else Rx d 77 104 [a0, a1] [.int s0, .ref s1] h := putV c77_104 rfl (fMay_i (by decide +kernel))
theorem c77_107 : cd 77 107 = some (107, .return_, 1, []) := by decide +kernel
theorem x77_107 {d : Nat} {a0 a1 : Value} {h : AHp} : Rf d 77 107 [a0, a1] [] h = some (none, h) := Rf_end (endV c77_107 (by decide +kernel))
-- 78: X7_write
theorem c78_0 : cd 78 0 = some (0, .aload_n 0, 1, []) := by decide +kernel
theorem x78_0 {d : Nat} {a1 : Value} {x : Nat} {h : AHp} : Rf d 78 0 [.ref x, a1] [] h = Rf d 78 1 [.ref x, a1] [.ref x] h := Rf_go ((stp_of c78_0).trans rfl)
theorem c78_1 : cd 78 1 = some (1, .getfield 9, 3, [(7, 0)]) := by decide +kernel
theorem x78_1 {d : Nat} {a0 a1 : Value} {s0 : Nat} {h : AHp} : Rf d 78 1 [a0, a1] [.ref s0] h = if cls (h.1 s0) = 7 ∧ oKr (h.1 s0) 0 = true then Rf d 78 4 [a0, a1] [.ref (oR (h.1 s0) 0)] h else Rx d 78 1 [a0, a1] [.ref s0] h := getR c78_1
theorem c78_4 : cd 78 4 = some (4, .aload_n 0, 1, []) := by decide +kernel
theorem x78_4 {d : Nat} {a1 : Value} {s0 : Nat} {x : Nat} {h : AHp} : Rf d 78 4 [.ref x, a1] [.ref s0] h = Rf d 78 5 [.ref x, a1] [.ref x, .ref s0] h := Rf_go ((stp_of c78_4).trans rfl)
theorem c78_5 : cd 78 5 = some (5, .getfield 34, 3, [(7, 1)]) := by decide +kernel
theorem x78_5 {d : Nat} {a0 a1 : Value} {s0 : Nat} {s1 : Nat} {h : AHp} : Rf d 78 5 [a0, a1] [.ref s0, .ref s1] h = if cls (h.1 s0) = 7 ∧ oKi (h.1 s0) 1 = true then Rf d 78 8 [a0, a1] [.int (oN (h.1 s0) 1), .ref s1] h else Rx d 78 5 [a0, a1] [.ref s0, .ref s1] h := getI c78_5
theorem c78_8 : cd 78 8 = some (8, .iload_n 1, 1, []) := by decide +kernel
theorem x78_8 {d : Nat} {a0 : Value} {s0 : Int32} {s1 : Nat} {x : Int32} {h : AHp} : Rf d 78 8 [a0, .int x] [.int s0, .ref s1] h = Rf d 78 9 [a0, .int x] [.int x, .int s0, .ref s1] h := Rf_go ((stp_of c78_8).trans rfl)
theorem c78_9 : cd 78 9 = some (9, .bastore, 1, []) := by decide +kernel
theorem x78_9 {d : Nat} {a0 a1 : Value} {s0 : Int32} {s1 : Int32} {s2 : Nat} {h : AHp} : Rf d 78 9 [a0, a1] [.int s0, .int s1, .ref s2] h = if aT (h.1 s2) = 1 ∧ inB s1 (aN (h.1 s2)) = true then Rf d 78 10 [a0, a1] [] (hset h s2 (.inl (1, aN (h.1 s2), .inl (upd (aF (h.1 s2)) s1.toNatClampNeg (vp_nar .byte s0))))) else if aT (h.1 s2) = 2 ∧ inB s1 (aN (h.1 s2)) = true then Rf d 78 10 [a0, a1] [] (hset h s2 (.inl (2, aN (h.1 s2), .inl (upd (aF (h.1 s2)) s1.toNatClampNeg (vp_nar .boolean s0))))) else Rx d 78 9 [a0, a1] [.int s0, .int s1, .ref s2] h := stB c78_9
theorem c78_10 : cd 78 10 = some (10, .aload_n 0, 1, []) := by decide +kernel
theorem x78_10 {d : Nat} {a1 : Value} {x : Nat} {h : AHp} : Rf d 78 10 [.ref x, a1] [] h = Rf d 78 11 [.ref x, a1] [.ref x] h := Rf_go ((stp_of c78_10).trans rfl)
theorem c78_11 : cd 78 11 = some (11, .dup, 1, []) := by decide +kernel
theorem x78_11 {d : Nat} {a0 a1 : Value} {s0 : Nat} {h : AHp} : Rf d 78 11 [a0, a1] [.ref s0] h = Rf d 78 12 [a0, a1] [.ref s0, .ref s0] h := Rf_go ((stp_of c78_11).trans rfl)
theorem c78_12 : cd 78 12 = some (12, .getfield 34, 3, [(7, 1)]) := by decide +kernel
theorem x78_12 {d : Nat} {a0 a1 : Value} {s0 : Nat} {s1 : Nat} {h : AHp} : Rf d 78 12 [a0, a1] [.ref s0, .ref s1] h = if cls (h.1 s0) = 7 ∧ oKi (h.1 s0) 1 = true then Rf d 78 15 [a0, a1] [.int (oN (h.1 s0) 1), .ref s1] h else Rx d 78 12 [a0, a1] [.ref s0, .ref s1] h := getI c78_12
theorem c78_15 : cd 78 15 = some (15, .iconst 1, 1, []) := by decide +kernel
theorem x78_15 {d : Nat} {a0 a1 : Value} {s0 : Int32} {s1 : Nat} {h : AHp} : Rf d 78 15 [a0, a1] [.int s0, .ref s1] h = Rf d 78 16 [a0, a1] [.int 1, .int s0, .ref s1] h := Rf_go ((stp_of c78_15).trans rfl)
theorem c78_16 : cd 78 16 = some (16, .iadd, 1, []) := by decide +kernel
theorem x78_16 {d : Nat} {a0 a1 : Value} {s0 : Int32} {s1 : Int32} {s2 : Nat} {h : AHp} : Rf d 78 16 [a0, a1] [.int s0, .int s1, .ref s2] h = Rf d 78 17 [a0, a1] [.int (s1 + s0), .ref s2] h := Rf_go ((stp_of c78_16).trans rfl)
theorem c78_17 : cd 78 17 = some (17, .putfield 34, 3, [(7, 1)]) := by decide +kernel
theorem x78_17 {d : Nat} {a0 a1 : Value} {s0 : Int32} {s1 : Nat} {h : AHp} : Rf d 78 17 [a0, a1] [.int s0, .ref s1] h = if cls (h.1 s1) = 7 ∧ oL (h.1 s1) = 9 then Rf d 78 20 [a0, a1] [] (hset h s1 (oSet (h.1 s1) 1 (.int s0))) else Rx d 78 17 [a0, a1] [.int s0, .ref s1] h := putV c78_17 rfl (fMay_i (by decide +kernel))
theorem c78_20 : cd 78 20 = some (20, .aload_n 0, 1, []) := by decide +kernel
theorem x78_20 {d : Nat} {a1 : Value} {x : Nat} {h : AHp} : Rf d 78 20 [.ref x, a1] [] h = Rf d 78 21 [.ref x, a1] [.ref x] h := Rf_go ((stp_of c78_20).trans rfl)
theorem c78_21 : cd 78 21 = some (21, .getfield 34, 3, [(7, 1)]) := by decide +kernel
theorem x78_21 {d : Nat} {a0 a1 : Value} {s0 : Nat} {h : AHp} : Rf d 78 21 [a0, a1] [.ref s0] h = if cls (h.1 s0) = 7 ∧ oKi (h.1 s0) 1 = true then Rf d 78 24 [a0, a1] [.int (oN (h.1 s0) 1)] h else Rx d 78 21 [a0, a1] [.ref s0] h := getI c78_21
theorem c78_24 : cd 78 24 = some (24, .ireturn, 1, []) := by decide +kernel
theorem x78_24 {d : Nat} {a0 a1 : Value} {s0 : Int32} {h : AHp} : Rf d 78 24 [a0, a1] [.int s0] h = some (some (.int s0), h) := Rf_end (by rw [stp_of c78_24]; simp only [stpI]; rw [if_pos (show retI (mH 78).2.2.1 s0 = true from retI_int)])
-- 79: X7_takeTape
theorem c79_0 : cd 79 0 = some (0, .aload_n 0, 1, []) := by decide +kernel
theorem x79_0 {d : Nat} {a1 : Value} {x : Nat} {h : AHp} : Rf d 79 0 [.ref x, a1] [] h = Rf d 79 1 [.ref x, a1] [.ref x] h := Rf_go ((stp_of c79_0).trans rfl)
theorem c79_1 : cd 79 1 = some (1, .getfield 9, 3, [(7, 0)]) := by decide +kernel
theorem x79_1 {d : Nat} {a0 a1 : Value} {s0 : Nat} {h : AHp} : Rf d 79 1 [a0, a1] [.ref s0] h = if cls (h.1 s0) = 7 ∧ oKr (h.1 s0) 0 = true then Rf d 79 4 [a0, a1] [.ref (oR (h.1 s0) 0)] h else Rx d 79 1 [a0, a1] [.ref s0] h := getR c79_1
theorem c79_4 : cd 79 4 = some (4, .aload_n 0, 1, []) := by decide +kernel
theorem x79_4 {d : Nat} {a1 : Value} {s0 : Nat} {x : Nat} {h : AHp} : Rf d 79 4 [.ref x, a1] [.ref s0] h = Rf d 79 5 [.ref x, a1] [.ref x, .ref s0] h := Rf_go ((stp_of c79_4).trans rfl)
theorem c79_5 : cd 79 5 = some (5, .getfield 34, 3, [(7, 1)]) := by decide +kernel
theorem x79_5 {d : Nat} {a0 a1 : Value} {s0 : Nat} {s1 : Nat} {h : AHp} : Rf d 79 5 [a0, a1] [.ref s0, .ref s1] h = if cls (h.1 s0) = 7 ∧ oKi (h.1 s0) 1 = true then Rf d 79 8 [a0, a1] [.int (oN (h.1 s0) 1), .ref s1] h else Rx d 79 5 [a0, a1] [.ref s0, .ref s1] h := getI c79_5
theorem c79_8 : cd 79 8 = some (8, .invokestatic 47, 3, [(0, 215)]) := by decide +kernel
theorem xc79_8 {d : Nat} {a0 a1 : Value} {s0 : Int32} {s1 : Nat} {h : AHp} {h1 : AHp} {v : Nat} (hq : Rf d 215 0 [.ref s1, .int s0, noV] [] h = some (some (.ref v), h1)) : Rf (d + 1) 79 8 [a0, a1] [.int s0, .ref s1] h = Rf (d + 1) 79 11 [a0, a1] [.ref v] h1 := clS (as := [.ref s1, .int s0]) c79_8 rfl rfl (by simp [isV]) hq
theorem c79_11 : cd 79 11 = some (11, .astore_n 1, 1, []) := by decide +kernel
theorem x79_11 {d : Nat} {a0 a1 : Value} {s0 : Nat} {h : AHp} : Rf d 79 11 [a0, a1] [.ref s0] h = Rf d 79 12 [a0, .ref s0] [] h := Rf_go ((stp_of c79_11).trans rfl)
theorem c79_12 : cd 79 12 = some (12, .aload_n 0, 1, []) := by decide +kernel
theorem x79_12 {d : Nat} {a1 : Value} {x : Nat} {h : AHp} : Rf d 79 12 [.ref x, a1] [] h = Rf d 79 13 [.ref x, a1] [.ref x] h := Rf_go ((stp_of c79_12).trans rfl)
theorem c79_13 : cd 79 13 = some (13, .iconst 0, 1, []) := by decide +kernel
theorem x79_13 {d : Nat} {a0 a1 : Value} {s0 : Nat} {h : AHp} : Rf d 79 13 [a0, a1] [.ref s0] h = Rf d 79 14 [a0, a1] [.int 0, .ref s0] h := Rf_go ((stp_of c79_13).trans rfl)
theorem c79_14 : cd 79 14 = some (14, .putfield 34, 3, [(7, 1)]) := by decide +kernel
theorem x79_14 {d : Nat} {a0 a1 : Value} {s0 : Int32} {s1 : Nat} {h : AHp} : Rf d 79 14 [a0, a1] [.int s0, .ref s1] h = if cls (h.1 s1) = 7 ∧ oL (h.1 s1) = 9 then Rf d 79 17 [a0, a1] [] (hset h s1 (oSet (h.1 s1) 1 (.int s0))) else Rx d 79 14 [a0, a1] [.int s0, .ref s1] h := putV c79_14 rfl (fMay_i (by decide +kernel))
theorem c79_17 : cd 79 17 = some (17, .aload_n 1, 1, []) := by decide +kernel
theorem x79_17 {d : Nat} {a0 : Value} {x : Nat} {h : AHp} : Rf d 79 17 [a0, .ref x] [] h = Rf d 79 18 [a0, .ref x] [.ref x] h := Rf_go ((stp_of c79_17).trans rfl)
theorem c79_18 : cd 79 18 = some (18, .areturn, 1, []) := by decide +kernel
theorem x79_18 {d : Nat} {a0 a1 : Value} {s0 : Nat} {h : AHp} : Rf d 79 18 [a0, a1] [.ref s0] h = some (some (.ref s0), h) := Rf_end (endA c79_18 (by decide +kernel))
-- 80: X7_addAdvert
theorem c80_0 : cd 80 0 = some (0, .aload_n 0, 1, []) := by decide +kernel
theorem x80_0 {d : Nat} {a1 a2 a3 : Value} {x : Nat} {h : AHp} : Rf d 80 0 [.ref x, a1, a2, a3] [] h = Rf d 80 1 [.ref x, a1, a2, a3] [.ref x] h := Rf_go ((stp_of c80_0).trans rfl)
theorem c80_1 : cd 80 1 = some (1, .getfield 15, 3, [(7, 3)]) := by decide +kernel
theorem x80_1 {d : Nat} {a0 a1 a2 a3 : Value} {s0 : Nat} {h : AHp} : Rf d 80 1 [a0, a1, a2, a3] [.ref s0] h = if cls (h.1 s0) = 7 ∧ oKr (h.1 s0) 3 = true then Rf d 80 4 [a0, a1, a2, a3] [.ref (oR (h.1 s0) 3)] h else Rx d 80 1 [a0, a1, a2, a3] [.ref s0] h := getR c80_1
theorem c80_4 : cd 80 4 = some (4, .aload_n 0, 1, []) := by decide +kernel
theorem x80_4 {d : Nat} {a1 a2 a3 : Value} {s0 : Nat} {x : Nat} {h : AHp} : Rf d 80 4 [.ref x, a1, a2, a3] [.ref s0] h = Rf d 80 5 [.ref x, a1, a2, a3] [.ref x, .ref s0] h := Rf_go ((stp_of c80_4).trans rfl)
theorem c80_5 : cd 80 5 = some (5, .getfield 41, 3, [(7, 6)]) := by decide +kernel
theorem x80_5 {d : Nat} {a0 a1 a2 a3 : Value} {s0 : Nat} {s1 : Nat} {h : AHp} : Rf d 80 5 [a0, a1, a2, a3] [.ref s0, .ref s1] h = if cls (h.1 s0) = 7 ∧ oKi (h.1 s0) 6 = true then Rf d 80 8 [a0, a1, a2, a3] [.int (oN (h.1 s0) 6), .ref s1] h else Rx d 80 5 [a0, a1, a2, a3] [.ref s0, .ref s1] h := getI c80_5
theorem c80_8 : cd 80 8 = some (8, .iload_n 1, 1, []) := by decide +kernel
theorem x80_8 {d : Nat} {a0 a2 a3 : Value} {s0 : Int32} {s1 : Nat} {x : Int32} {h : AHp} : Rf d 80 8 [a0, .int x, a2, a3] [.int s0, .ref s1] h = Rf d 80 9 [a0, .int x, a2, a3] [.int x, .int s0, .ref s1] h := Rf_go ((stp_of c80_8).trans rfl)
theorem c80_9 : cd 80 9 = some (9, .iastore, 1, []) := by decide +kernel
theorem x80_9 {d : Nat} {a0 a1 a2 a3 : Value} {s0 : Int32} {s1 : Int32} {s2 : Nat} {h : AHp} : Rf d 80 9 [a0, a1, a2, a3] [.int s0, .int s1, .ref s2] h = if aT (h.1 s2) = 0 ∧ inB s1 (aN (h.1 s2)) = true then Rf d 80 10 [a0, a1, a2, a3] [] (hset h s2 (.inl (0, aN (h.1 s2), .inl (upd (aF (h.1 s2)) s1.toNatClampNeg s0)))) else Rx d 80 9 [a0, a1, a2, a3] [.int s0, .int s1, .ref s2] h := stI c80_9
theorem c80_10 : cd 80 10 = some (10, .aload_n 0, 1, []) := by decide +kernel
theorem x80_10 {d : Nat} {a1 a2 a3 : Value} {x : Nat} {h : AHp} : Rf d 80 10 [.ref x, a1, a2, a3] [] h = Rf d 80 11 [.ref x, a1, a2, a3] [.ref x] h := Rf_go ((stp_of c80_10).trans rfl)
theorem c80_11 : cd 80 11 = some (11, .getfield 19, 3, [(7, 4)]) := by decide +kernel
theorem x80_11 {d : Nat} {a0 a1 a2 a3 : Value} {s0 : Nat} {h : AHp} : Rf d 80 11 [a0, a1, a2, a3] [.ref s0] h = if cls (h.1 s0) = 7 ∧ oKr (h.1 s0) 4 = true then Rf d 80 14 [a0, a1, a2, a3] [.ref (oR (h.1 s0) 4)] h else Rx d 80 11 [a0, a1, a2, a3] [.ref s0] h := getR c80_11
theorem c80_14 : cd 80 14 = some (14, .aload_n 0, 1, []) := by decide +kernel
theorem x80_14 {d : Nat} {a1 a2 a3 : Value} {s0 : Nat} {x : Nat} {h : AHp} : Rf d 80 14 [.ref x, a1, a2, a3] [.ref s0] h = Rf d 80 15 [.ref x, a1, a2, a3] [.ref x, .ref s0] h := Rf_go ((stp_of c80_14).trans rfl)
theorem c80_15 : cd 80 15 = some (15, .getfield 41, 3, [(7, 6)]) := by decide +kernel
theorem x80_15 {d : Nat} {a0 a1 a2 a3 : Value} {s0 : Nat} {s1 : Nat} {h : AHp} : Rf d 80 15 [a0, a1, a2, a3] [.ref s0, .ref s1] h = if cls (h.1 s0) = 7 ∧ oKi (h.1 s0) 6 = true then Rf d 80 18 [a0, a1, a2, a3] [.int (oN (h.1 s0) 6), .ref s1] h else Rx d 80 15 [a0, a1, a2, a3] [.ref s0, .ref s1] h := getI c80_15
theorem c80_18 : cd 80 18 = some (18, .iload_n 2, 1, []) := by decide +kernel
theorem x80_18 {d : Nat} {a0 a1 a3 : Value} {s0 : Int32} {s1 : Nat} {x : Int32} {h : AHp} : Rf d 80 18 [a0, a1, .int x, a3] [.int s0, .ref s1] h = Rf d 80 19 [a0, a1, .int x, a3] [.int x, .int s0, .ref s1] h := Rf_go ((stp_of c80_18).trans rfl)
theorem c80_19 : cd 80 19 = some (19, .iastore, 1, []) := by decide +kernel
theorem x80_19 {d : Nat} {a0 a1 a2 a3 : Value} {s0 : Int32} {s1 : Int32} {s2 : Nat} {h : AHp} : Rf d 80 19 [a0, a1, a2, a3] [.int s0, .int s1, .ref s2] h = if aT (h.1 s2) = 0 ∧ inB s1 (aN (h.1 s2)) = true then Rf d 80 20 [a0, a1, a2, a3] [] (hset h s2 (.inl (0, aN (h.1 s2), .inl (upd (aF (h.1 s2)) s1.toNatClampNeg s0)))) else Rx d 80 19 [a0, a1, a2, a3] [.int s0, .int s1, .ref s2] h := stI c80_19
theorem c80_20 : cd 80 20 = some (20, .aload_n 0, 1, []) := by decide +kernel
theorem x80_20 {d : Nat} {a1 a2 a3 : Value} {x : Nat} {h : AHp} : Rf d 80 20 [.ref x, a1, a2, a3] [] h = Rf d 80 21 [.ref x, a1, a2, a3] [.ref x] h := Rf_go ((stp_of c80_20).trans rfl)
theorem c80_21 : cd 80 21 = some (21, .getfield 22, 3, [(7, 5)]) := by decide +kernel
theorem x80_21 {d : Nat} {a0 a1 a2 a3 : Value} {s0 : Nat} {h : AHp} : Rf d 80 21 [a0, a1, a2, a3] [.ref s0] h = if cls (h.1 s0) = 7 ∧ oKr (h.1 s0) 5 = true then Rf d 80 24 [a0, a1, a2, a3] [.ref (oR (h.1 s0) 5)] h else Rx d 80 21 [a0, a1, a2, a3] [.ref s0] h := getR c80_21
theorem c80_24 : cd 80 24 = some (24, .aload_n 0, 1, []) := by decide +kernel
theorem x80_24 {d : Nat} {a1 a2 a3 : Value} {s0 : Nat} {x : Nat} {h : AHp} : Rf d 80 24 [.ref x, a1, a2, a3] [.ref s0] h = Rf d 80 25 [.ref x, a1, a2, a3] [.ref x, .ref s0] h := Rf_go ((stp_of c80_24).trans rfl)
theorem c80_25 : cd 80 25 = some (25, .getfield 41, 3, [(7, 6)]) := by decide +kernel
theorem x80_25 {d : Nat} {a0 a1 a2 a3 : Value} {s0 : Nat} {s1 : Nat} {h : AHp} : Rf d 80 25 [a0, a1, a2, a3] [.ref s0, .ref s1] h = if cls (h.1 s0) = 7 ∧ oKi (h.1 s0) 6 = true then Rf d 80 28 [a0, a1, a2, a3] [.int (oN (h.1 s0) 6), .ref s1] h else Rx d 80 25 [a0, a1, a2, a3] [.ref s0, .ref s1] h := getI c80_25
theorem c80_28 : cd 80 28 = some (28, .iload_n 3, 1, []) := by decide +kernel
theorem x80_28 {d : Nat} {a0 a1 a2 : Value} {s0 : Int32} {s1 : Nat} {x : Int32} {h : AHp} : Rf d 80 28 [a0, a1, a2, .int x] [.int s0, .ref s1] h = Rf d 80 29 [a0, a1, a2, .int x] [.int x, .int s0, .ref s1] h := Rf_go ((stp_of c80_28).trans rfl)
theorem c80_29 : cd 80 29 = some (29, .iastore, 1, []) := by decide +kernel
theorem x80_29 {d : Nat} {a0 a1 a2 a3 : Value} {s0 : Int32} {s1 : Int32} {s2 : Nat} {h : AHp} : Rf d 80 29 [a0, a1, a2, a3] [.int s0, .int s1, .ref s2] h = if aT (h.1 s2) = 0 ∧ inB s1 (aN (h.1 s2)) = true then Rf d 80 30 [a0, a1, a2, a3] [] (hset h s2 (.inl (0, aN (h.1 s2), .inl (upd (aF (h.1 s2)) s1.toNatClampNeg s0)))) else Rx d 80 29 [a0, a1, a2, a3] [.int s0, .int s1, .ref s2] h := stI c80_29
theorem c80_30 : cd 80 30 = some (30, .aload_n 0, 1, []) := by decide +kernel
theorem x80_30 {d : Nat} {a1 a2 a3 : Value} {x : Nat} {h : AHp} : Rf d 80 30 [.ref x, a1, a2, a3] [] h = Rf d 80 31 [.ref x, a1, a2, a3] [.ref x] h := Rf_go ((stp_of c80_30).trans rfl)
theorem c80_31 : cd 80 31 = some (31, .dup, 1, []) := by decide +kernel
theorem x80_31 {d : Nat} {a0 a1 a2 a3 : Value} {s0 : Nat} {h : AHp} : Rf d 80 31 [a0, a1, a2, a3] [.ref s0] h = Rf d 80 32 [a0, a1, a2, a3] [.ref s0, .ref s0] h := Rf_go ((stp_of c80_31).trans rfl)
theorem c80_32 : cd 80 32 = some (32, .getfield 41, 3, [(7, 6)]) := by decide +kernel
theorem x80_32 {d : Nat} {a0 a1 a2 a3 : Value} {s0 : Nat} {s1 : Nat} {h : AHp} : Rf d 80 32 [a0, a1, a2, a3] [.ref s0, .ref s1] h = if cls (h.1 s0) = 7 ∧ oKi (h.1 s0) 6 = true then Rf d 80 35 [a0, a1, a2, a3] [.int (oN (h.1 s0) 6), .ref s1] h else Rx d 80 32 [a0, a1, a2, a3] [.ref s0, .ref s1] h := getI c80_32
theorem c80_35 : cd 80 35 = some (35, .iconst 1, 1, []) := by decide +kernel
theorem x80_35 {d : Nat} {a0 a1 a2 a3 : Value} {s0 : Int32} {s1 : Nat} {h : AHp} : Rf d 80 35 [a0, a1, a2, a3] [.int s0, .ref s1] h = Rf d 80 36 [a0, a1, a2, a3] [.int 1, .int s0, .ref s1] h := Rf_go ((stp_of c80_35).trans rfl)
theorem c80_36 : cd 80 36 = some (36, .iadd, 1, []) := by decide +kernel
theorem x80_36 {d : Nat} {a0 a1 a2 a3 : Value} {s0 : Int32} {s1 : Int32} {s2 : Nat} {h : AHp} : Rf d 80 36 [a0, a1, a2, a3] [.int s0, .int s1, .ref s2] h = Rf d 80 37 [a0, a1, a2, a3] [.int (s1 + s0), .ref s2] h := Rf_go ((stp_of c80_36).trans rfl)
theorem c80_37 : cd 80 37 = some (37, .putfield 41, 3, [(7, 6)]) := by decide +kernel
theorem x80_37 {d : Nat} {a0 a1 a2 a3 : Value} {s0 : Int32} {s1 : Nat} {h : AHp} : Rf d 80 37 [a0, a1, a2, a3] [.int s0, .ref s1] h = if cls (h.1 s1) = 7 ∧ oL (h.1 s1) = 9 then Rf d 80 40 [a0, a1, a2, a3] [] (hset h s1 (oSet (h.1 s1) 6 (.int s0))) else Rx d 80 37 [a0, a1, a2, a3] [.int s0, .ref s1] h := putV c80_37 rfl (fMay_i (by decide +kernel))
theorem c80_40 : cd 80 40 = some (40, .aload_n 0, 1, []) := by decide +kernel
theorem x80_40 {d : Nat} {a1 a2 a3 : Value} {x : Nat} {h : AHp} : Rf d 80 40 [.ref x, a1, a2, a3] [] h = Rf d 80 41 [.ref x, a1, a2, a3] [.ref x] h := Rf_go ((stp_of c80_40).trans rfl)
theorem c80_41 : cd 80 41 = some (41, .getfield 41, 3, [(7, 6)]) := by decide +kernel
theorem x80_41 {d : Nat} {a0 a1 a2 a3 : Value} {s0 : Nat} {h : AHp} : Rf d 80 41 [a0, a1, a2, a3] [.ref s0] h = if cls (h.1 s0) = 7 ∧ oKi (h.1 s0) 6 = true then Rf d 80 44 [a0, a1, a2, a3] [.int (oN (h.1 s0) 6)] h else Rx d 80 41 [a0, a1, a2, a3] [.ref s0] h := getI c80_41
theorem c80_44 : cd 80 44 = some (44, .ireturn, 1, []) := by decide +kernel
theorem x80_44 {d : Nat} {a0 a1 a2 a3 : Value} {s0 : Int32} {h : AHp} : Rf d 80 44 [a0, a1, a2, a3] [.int s0] h = some (some (.int s0), h) := Rf_end (by rw [stp_of c80_44]; simp only [stpI]; rw [if_pos (show retI (mH 80).2.2.1 s0 = true from retI_int)])
-- 81: X7_spanOf
theorem c81_0 : cd 81 0 = some (0, .iconst 0, 1, []) := by decide +kernel
theorem x81_0 {d : Nat} {a0 a1 a2 a3 a4 a5 : Value} {h : AHp} : Rf d 81 0 [a0, a1, a2, a3, a4, a5] [] h = Rf d 81 1 [a0, a1, a2, a3, a4, a5] [.int 0] h := Rf_go ((stp_of c81_0).trans rfl)
theorem c81_1 : cd 81 1 = some (1, .istore_n 3, 1, []) := by decide +kernel
theorem x81_1 {d : Nat} {a0 a1 a2 a3 a4 a5 : Value} {s0 : Int32} {h : AHp} : Rf d 81 1 [a0, a1, a2, a3, a4, a5] [.int s0] h = Rf d 81 2 [a0, a1, a2, .int s0, a4, a5] [] h := Rf_go ((stp_of c81_1).trans rfl)
theorem c81_2 : cd 81 2 = some (2, .sipush 999, 3, []) := by decide +kernel
theorem x81_2 {d : Nat} {a0 a1 a2 a3 a4 a5 : Value} {h : AHp} : Rf d 81 2 [a0, a1, a2, a3, a4, a5] [] h = Rf d 81 5 [a0, a1, a2, a3, a4, a5] [.int 999] h := Rf_go ((stp_of c81_2).trans rfl)
theorem c81_5 : cd 81 5 = some (5, .istore 4, 2, []) := by decide +kernel
theorem x81_5 {d : Nat} {a0 a1 a2 a3 a4 a5 : Value} {s0 : Int32} {h : AHp} : Rf d 81 5 [a0, a1, a2, a3, a4, a5] [.int s0] h = Rf d 81 7 [a0, a1, a2, a3, .int s0, a5] [] h := Rf_go ((stp_of c81_5).trans rfl)
theorem c81_7 : cd 81 7 = some (7, .iconst 0, 1, []) := by decide +kernel
theorem x81_7 {d : Nat} {a0 a1 a2 a3 a4 a5 : Value} {h : AHp} : Rf d 81 7 [a0, a1, a2, a3, a4, a5] [] h = Rf d 81 8 [a0, a1, a2, a3, a4, a5] [.int 0] h := Rf_go ((stp_of c81_7).trans rfl)
theorem c81_8 : cd 81 8 = some (8, .istore 5, 2, []) := by decide +kernel
theorem x81_8 {d : Nat} {a0 a1 a2 a3 a4 a5 : Value} {s0 : Int32} {h : AHp} : Rf d 81 8 [a0, a1, a2, a3, a4, a5] [.int s0] h = Rf d 81 10 [a0, a1, a2, a3, a4, .int s0] [] h := Rf_go ((stp_of c81_8).trans rfl)
theorem c81_10 : cd 81 10 = some (10, .iload 5, 2, []) := by decide +kernel
theorem x81_10 {d : Nat} {a0 a1 a2 a3 a4 : Value} {x : Int32} {h : AHp} : Rf d 81 10 [a0, a1, a2, a3, a4, .int x] [] h = Rf d 81 12 [a0, a1, a2, a3, a4, .int x] [.int x] h := Rf_go ((stp_of c81_10).trans rfl)
theorem c81_12 : cd 81 12 = some (12, .aload_n 0, 1, []) := by decide +kernel
theorem x81_12 {d : Nat} {a1 a2 a3 a4 a5 : Value} {s0 : Int32} {x : Nat} {h : AHp} : Rf d 81 12 [.ref x, a1, a2, a3, a4, a5] [.int s0] h = Rf d 81 13 [.ref x, a1, a2, a3, a4, a5] [.ref x, .int s0] h := Rf_go ((stp_of c81_12).trans rfl)
theorem c81_13 : cd 81 13 = some (13, .getfield 41, 3, [(7, 6)]) := by decide +kernel
theorem x81_13 {d : Nat} {a0 a1 a2 a3 a4 a5 : Value} {s0 : Nat} {s1 : Int32} {h : AHp} : Rf d 81 13 [a0, a1, a2, a3, a4, a5] [.ref s0, .int s1] h = if cls (h.1 s0) = 7 ∧ oKi (h.1 s0) 6 = true then Rf d 81 16 [a0, a1, a2, a3, a4, a5] [.int (oN (h.1 s0) 6), .int s1] h else Rx d 81 13 [a0, a1, a2, a3, a4, a5] [.ref s0, .int s1] h := getI c81_13
theorem c81_16 : cd 81 16 = some (16, .if_icmp .ge 46, 3, [(62, 0)]) := by decide +kernel
theorem x81_16 {d : Nat} {a0 a1 a2 a3 a4 a5 : Value} {s0 : Int32} {s1 : Int32} {h : AHp} : Rf d 81 16 [a0, a1, a2, a3, a4, a5] [.int s0, .int s1] h = if s1 < s0 then Rf d 81 19 [a0, a1, a2, a3, a4, a5] [] h else Rf d 81 62 [a0, a1, a2, a3, a4, a5] [] h := Rf_brn ((stp_of c81_16).trans rfl)
theorem c81_62 : cd 81 62 = some (62, .iload_n 3, 1, []) := by decide +kernel
theorem x81_62 {d : Nat} {a0 a1 a2 a4 a5 : Value} {x : Int32} {h : AHp} : Rf d 81 62 [a0, a1, a2, .int x, a4, a5] [] h = Rf d 81 63 [a0, a1, a2, .int x, a4, a5] [.int x] h := Rf_go ((stp_of c81_62).trans rfl)
theorem c81_63 : cd 81 63 = some (63, .iload 4, 2, []) := by decide +kernel
theorem x81_63 {d : Nat} {a0 a1 a2 a3 a5 : Value} {s0 : Int32} {x : Int32} {h : AHp} : Rf d 81 63 [a0, a1, a2, a3, .int x, a5] [.int s0] h = Rf d 81 65 [a0, a1, a2, a3, .int x, a5] [.int x, .int s0] h := Rf_go ((stp_of c81_63).trans rfl)
theorem c81_65 : cd 81 65 = some (65, .if_icmp .le 6, 3, [(71, 0)]) := by decide +kernel
theorem x81_65 {d : Nat} {a0 a1 a2 a3 a4 a5 : Value} {s0 : Int32} {s1 : Int32} {h : AHp} : Rf d 81 65 [a0, a1, a2, a3, a4, a5] [.int s0, .int s1] h = if s0 < s1 then Rf d 81 68 [a0, a1, a2, a3, a4, a5] [] h else Rf d 81 71 [a0, a1, a2, a3, a4, a5] [] h := Rf_brn ((stp_of c81_65).trans rfl)
theorem c81_71 : cd 81 71 = some (71, .iload_n 2, 1, []) := by decide +kernel
theorem x81_71 {d : Nat} {a0 a1 a3 a4 a5 : Value} {x : Int32} {h : AHp} : Rf d 81 71 [a0, a1, .int x, a3, a4, a5] [] h = Rf d 81 72 [a0, a1, .int x, a3, a4, a5] [.int x] h := Rf_go ((stp_of c81_71).trans rfl)
theorem c81_72 : cd 81 72 = some (72, .ifCond .ne 7, 3, [(79, 0)]) := by decide +kernel
theorem x81_72 {d : Nat} {a0 a1 a2 a3 a4 a5 : Value} {s0 : Int32} {h : AHp} : Rf d 81 72 [a0, a1, a2, a3, a4, a5] [.int s0] h = if s0 = 0 then Rf d 81 75 [a0, a1, a2, a3, a4, a5] [] h else Rf d 81 79 [a0, a1, a2, a3, a4, a5] [] h := Rf_brn ((stp_of c81_72).trans rfl)
theorem c81_79 : cd 81 79 = some (79, .iload 4, 2, []) := by decide +kernel
theorem x81_79 {d : Nat} {a0 a1 a2 a3 a5 : Value} {x : Int32} {h : AHp} : Rf d 81 79 [a0, a1, a2, a3, .int x, a5] [] h = Rf d 81 81 [a0, a1, a2, a3, .int x, a5] [.int x] h := Rf_go ((stp_of c81_79).trans rfl)
theorem c81_81 : cd 81 81 = some (81, .ireturn, 1, []) := by decide +kernel
theorem x81_81 {d : Nat} {a0 a1 a2 a3 a4 a5 : Value} {s0 : Int32} {h : AHp} : Rf d 81 81 [a0, a1, a2, a3, a4, a5] [.int s0] h = some (some (.int s0), h) := Rf_end (by rw [stp_of c81_81]; simp only [stpI]; rw [if_pos (show retI (mH 81).2.2.1 s0 = true from retI_int)])
theorem c81_75 : cd 81 75 = some (75, .iload_n 3, 1, []) := by decide +kernel
theorem x81_75 {d : Nat} {a0 a1 a2 a4 a5 : Value} {x : Int32} {h : AHp} : Rf d 81 75 [a0, a1, a2, .int x, a4, a5] [] h = Rf d 81 76 [a0, a1, a2, .int x, a4, a5] [.int x] h := Rf_go ((stp_of c81_75).trans rfl)
theorem c81_76 : cd 81 76 = some (76, .goto 5, 3, [(81, 0)]) := by decide +kernel
theorem x81_76 {d : Nat} {a0 a1 a2 a3 a4 a5 : Value} {s0 : Int32} {h : AHp} : Rf d 81 76 [a0, a1, a2, a3, a4, a5] [.int s0] h = Rf d 81 81 [a0, a1, a2, a3, a4, a5] [.int s0] h := Rf_go ((stp_of c81_76).trans rfl)
theorem c81_68 : cd 81 68 = some (68, .bipush (-5), 2, []) := by decide +kernel
theorem x81_68 {d : Nat} {a0 a1 a2 a3 a4 a5 : Value} {h : AHp} : Rf d 81 68 [a0, a1, a2, a3, a4, a5] [] h = Rf d 81 70 [a0, a1, a2, a3, a4, a5] [.int (-5)] h := Rf_go ((stp_of c81_68).trans rfl)
theorem c81_70 : cd 81 70 = some (70, .ireturn, 1, []) := by decide +kernel
theorem x81_70 {d : Nat} {a0 a1 a2 a3 a4 a5 : Value} {s0 : Int32} {h : AHp} : Rf d 81 70 [a0, a1, a2, a3, a4, a5] [.int s0] h = some (some (.int s0), h) := Rf_end (by rw [stp_of c81_70]; simp only [stpI]; rw [if_pos (show retI (mH 81).2.2.1 s0 = true from retI_int)])
theorem c81_19 : cd 81 19 = some (19, .aload_n 0, 1, []) := by decide +kernel
theorem x81_19 {d : Nat} {a1 a2 a3 a4 a5 : Value} {x : Nat} {h : AHp} : Rf d 81 19 [.ref x, a1, a2, a3, a4, a5] [] h = Rf d 81 20 [.ref x, a1, a2, a3, a4, a5] [.ref x] h := Rf_go ((stp_of c81_19).trans rfl)
theorem c81_20 : cd 81 20 = some (20, .getfield 15, 3, [(7, 3)]) := by decide +kernel
theorem x81_20 {d : Nat} {a0 a1 a2 a3 a4 a5 : Value} {s0 : Nat} {h : AHp} : Rf d 81 20 [a0, a1, a2, a3, a4, a5] [.ref s0] h = if cls (h.1 s0) = 7 ∧ oKr (h.1 s0) 3 = true then Rf d 81 23 [a0, a1, a2, a3, a4, a5] [.ref (oR (h.1 s0) 3)] h else Rx d 81 20 [a0, a1, a2, a3, a4, a5] [.ref s0] h := getR c81_20
theorem c81_23 : cd 81 23 = some (23, .iload 5, 2, []) := by decide +kernel
theorem x81_23 {d : Nat} {a0 a1 a2 a3 a4 : Value} {s0 : Nat} {x : Int32} {h : AHp} : Rf d 81 23 [a0, a1, a2, a3, a4, .int x] [.ref s0] h = Rf d 81 25 [a0, a1, a2, a3, a4, .int x] [.int x, .ref s0] h := Rf_go ((stp_of c81_23).trans rfl)
theorem c81_25 : cd 81 25 = some (25, .iaload, 1, []) := by decide +kernel
theorem x81_25 {d : Nat} {a0 a1 a2 a3 a4 a5 : Value} {s0 : Int32} {s1 : Nat} {h : AHp} : Rf d 81 25 [a0, a1, a2, a3, a4, a5] [.int s0, .ref s1] h = if (aT (h.1 s1) = 0 ∨ aT (h.1 s1) = 10) ∧ inB s0 (aN (h.1 s1)) = true then Rf d 81 26 [a0, a1, a2, a3, a4, a5] [.int (aF (h.1 s1) s0.toNatClampNeg)] h else Rx d 81 25 [a0, a1, a2, a3, a4, a5] [.int s0, .ref s1] h := ldI c81_25
theorem c81_26 : cd 81 26 = some (26, .iload_n 1, 1, []) := by decide +kernel
theorem x81_26 {d : Nat} {a0 a2 a3 a4 a5 : Value} {s0 : Int32} {x : Int32} {h : AHp} : Rf d 81 26 [a0, .int x, a2, a3, a4, a5] [.int s0] h = Rf d 81 27 [a0, .int x, a2, a3, a4, a5] [.int x, .int s0] h := Rf_go ((stp_of c81_26).trans rfl)
theorem c81_27 : cd 81 27 = some (27, .if_icmp .ne 29, 3, [(56, 0)]) := by decide +kernel
theorem x81_27 {d : Nat} {a0 a1 a2 a3 a4 a5 : Value} {s0 : Int32} {s1 : Int32} {h : AHp} : Rf d 81 27 [a0, a1, a2, a3, a4, a5] [.int s0, .int s1] h = if s1 = s0 then Rf d 81 30 [a0, a1, a2, a3, a4, a5] [] h else Rf d 81 56 [a0, a1, a2, a3, a4, a5] [] h := Rf_brn ((stp_of c81_27).trans rfl)
theorem c81_56 : cd 81 56 = some (56, .iinc 5 1, 3, []) := by decide +kernel
theorem x81_56 {d : Nat} {a0 a1 a2 a3 a4 : Value} {x : Int32} {h : AHp} : Rf d 81 56 [a0, a1, a2, a3, a4, .int x] [] h = Rf d 81 59 [a0, a1, a2, a3, a4, .int (x + 1)] [] h := Rf_go ((stp_of c81_56).trans rfl)
theorem c81_59 : cd 81 59 = some (59, .goto (-49), 3, [(10, 0)]) := by decide +kernel
theorem x81_59 {d : Nat} {a0 a1 a2 a3 a4 a5 : Value} {h : AHp} : Rf d 81 59 [a0, a1, a2, a3, a4, a5] [] h = Rf d 81 10 [a0, a1, a2, a3, a4, a5] [] h := Rf_go ((stp_of c81_59).trans rfl)
theorem c81_30 : cd 81 30 = some (30, .iload_n 3, 1, []) := by decide +kernel
theorem x81_30 {d : Nat} {a0 a1 a2 a4 a5 : Value} {x : Int32} {h : AHp} : Rf d 81 30 [a0, a1, a2, .int x, a4, a5] [] h = Rf d 81 31 [a0, a1, a2, .int x, a4, a5] [.int x] h := Rf_go ((stp_of c81_30).trans rfl)
theorem c81_31 : cd 81 31 = some (31, .aload_n 0, 1, []) := by decide +kernel
theorem x81_31 {d : Nat} {a1 a2 a3 a4 a5 : Value} {s0 : Int32} {x : Nat} {h : AHp} : Rf d 81 31 [.ref x, a1, a2, a3, a4, a5] [.int s0] h = Rf d 81 32 [.ref x, a1, a2, a3, a4, a5] [.ref x, .int s0] h := Rf_go ((stp_of c81_31).trans rfl)
theorem c81_32 : cd 81 32 = some (32, .getfield 19, 3, [(7, 4)]) := by decide +kernel
theorem x81_32 {d : Nat} {a0 a1 a2 a3 a4 a5 : Value} {s0 : Nat} {s1 : Int32} {h : AHp} : Rf d 81 32 [a0, a1, a2, a3, a4, a5] [.ref s0, .int s1] h = if cls (h.1 s0) = 7 ∧ oKr (h.1 s0) 4 = true then Rf d 81 35 [a0, a1, a2, a3, a4, a5] [.ref (oR (h.1 s0) 4), .int s1] h else Rx d 81 32 [a0, a1, a2, a3, a4, a5] [.ref s0, .int s1] h := getR c81_32
theorem c81_35 : cd 81 35 = some (35, .iload 5, 2, []) := by decide +kernel
theorem x81_35 {d : Nat} {a0 a1 a2 a3 a4 : Value} {s0 : Nat} {s1 : Int32} {x : Int32} {h : AHp} : Rf d 81 35 [a0, a1, a2, a3, a4, .int x] [.ref s0, .int s1] h = Rf d 81 37 [a0, a1, a2, a3, a4, .int x] [.int x, .ref s0, .int s1] h := Rf_go ((stp_of c81_35).trans rfl)
theorem c81_37 : cd 81 37 = some (37, .iaload, 1, []) := by decide +kernel
theorem x81_37 {d : Nat} {a0 a1 a2 a3 a4 a5 : Value} {s0 : Int32} {s1 : Nat} {s2 : Int32} {h : AHp} : Rf d 81 37 [a0, a1, a2, a3, a4, a5] [.int s0, .ref s1, .int s2] h = if (aT (h.1 s1) = 0 ∨ aT (h.1 s1) = 10) ∧ inB s0 (aN (h.1 s1)) = true then Rf d 81 38 [a0, a1, a2, a3, a4, a5] [.int (aF (h.1 s1) s0.toNatClampNeg), .int s2] h else Rx d 81 37 [a0, a1, a2, a3, a4, a5] [.int s0, .ref s1, .int s2] h := ldI c81_37
theorem c81_38 : cd 81 38 = some (38, .invokestatic 53, 3, [(0, 201)]) := by decide +kernel
theorem xc81_38 {d : Nat} {a0 a1 a2 a3 a4 a5 : Value} {s0 : Int32} {s1 : Int32} {h : AHp} {h1 : AHp} {v : Int32} (hq : Rf d 201 0 [.int s1, .int s0] [] h = some (some (.int v), h1)) : Rf (d + 1) 81 38 [a0, a1, a2, a3, a4, a5] [.int s0, .int s1] h = Rf (d + 1) 81 41 [a0, a1, a2, a3, a4, a5] [.int v] h1 := clS (as := [.int s1, .int s0]) c81_38 rfl rfl (by simp [isV]) hq
theorem c81_41 : cd 81 41 = some (41, .istore_n 3, 1, []) := by decide +kernel
theorem x81_41 {d : Nat} {a0 a1 a2 a3 a4 a5 : Value} {s0 : Int32} {h : AHp} : Rf d 81 41 [a0, a1, a2, a3, a4, a5] [.int s0] h = Rf d 81 42 [a0, a1, a2, .int s0, a4, a5] [] h := Rf_go ((stp_of c81_41).trans rfl)
theorem c81_42 : cd 81 42 = some (42, .iload 4, 2, []) := by decide +kernel
theorem x81_42 {d : Nat} {a0 a1 a2 a3 a5 : Value} {x : Int32} {h : AHp} : Rf d 81 42 [a0, a1, a2, a3, .int x, a5] [] h = Rf d 81 44 [a0, a1, a2, a3, .int x, a5] [.int x] h := Rf_go ((stp_of c81_42).trans rfl)
theorem c81_44 : cd 81 44 = some (44, .aload_n 0, 1, []) := by decide +kernel
theorem x81_44 {d : Nat} {a1 a2 a3 a4 a5 : Value} {s0 : Int32} {x : Nat} {h : AHp} : Rf d 81 44 [.ref x, a1, a2, a3, a4, a5] [.int s0] h = Rf d 81 45 [.ref x, a1, a2, a3, a4, a5] [.ref x, .int s0] h := Rf_go ((stp_of c81_44).trans rfl)
theorem c81_45 : cd 81 45 = some (45, .getfield 22, 3, [(7, 5)]) := by decide +kernel
theorem x81_45 {d : Nat} {a0 a1 a2 a3 a4 a5 : Value} {s0 : Nat} {s1 : Int32} {h : AHp} : Rf d 81 45 [a0, a1, a2, a3, a4, a5] [.ref s0, .int s1] h = if cls (h.1 s0) = 7 ∧ oKr (h.1 s0) 5 = true then Rf d 81 48 [a0, a1, a2, a3, a4, a5] [.ref (oR (h.1 s0) 5), .int s1] h else Rx d 81 45 [a0, a1, a2, a3, a4, a5] [.ref s0, .int s1] h := getR c81_45
theorem c81_48 : cd 81 48 = some (48, .iload 5, 2, []) := by decide +kernel
theorem x81_48 {d : Nat} {a0 a1 a2 a3 a4 : Value} {s0 : Nat} {s1 : Int32} {x : Int32} {h : AHp} : Rf d 81 48 [a0, a1, a2, a3, a4, .int x] [.ref s0, .int s1] h = Rf d 81 50 [a0, a1, a2, a3, a4, .int x] [.int x, .ref s0, .int s1] h := Rf_go ((stp_of c81_48).trans rfl)
theorem c81_50 : cd 81 50 = some (50, .iaload, 1, []) := by decide +kernel
theorem x81_50 {d : Nat} {a0 a1 a2 a3 a4 a5 : Value} {s0 : Int32} {s1 : Nat} {s2 : Int32} {h : AHp} : Rf d 81 50 [a0, a1, a2, a3, a4, a5] [.int s0, .ref s1, .int s2] h = if (aT (h.1 s1) = 0 ∨ aT (h.1 s1) = 10) ∧ inB s0 (aN (h.1 s1)) = true then Rf d 81 51 [a0, a1, a2, a3, a4, a5] [.int (aF (h.1 s1) s0.toNatClampNeg), .int s2] h else Rx d 81 50 [a0, a1, a2, a3, a4, a5] [.int s0, .ref s1, .int s2] h := ldI c81_50
theorem c81_51 : cd 81 51 = some (51, .invokestatic 59, 3, [(0, 202)]) := by decide +kernel
theorem xc81_51 {d : Nat} {a0 a1 a2 a3 a4 a5 : Value} {s0 : Int32} {s1 : Int32} {h : AHp} {h1 : AHp} {v : Int32} (hq : Rf d 202 0 [.int s1, .int s0] [] h = some (some (.int v), h1)) : Rf (d + 1) 81 51 [a0, a1, a2, a3, a4, a5] [.int s0, .int s1] h = Rf (d + 1) 81 54 [a0, a1, a2, a3, a4, a5] [.int v] h1 := clS (as := [.int s1, .int s0]) c81_51 rfl rfl (by simp [isV]) hq
theorem c81_54 : cd 81 54 = some (54, .istore 4, 2, []) := by decide +kernel
theorem x81_54 {d : Nat} {a0 a1 a2 a3 a4 a5 : Value} {s0 : Int32} {h : AHp} : Rf d 81 54 [a0, a1, a2, a3, a4, a5] [.int s0] h = Rf d 81 56 [a0, a1, a2, a3, .int s0, a5] [] h := Rf_go ((stp_of c81_54).trans rfl)
-- 82: X7_meanOfSpans
theorem c82_0 : cd 82 0 = some (0, .iconst 0, 1, []) := by decide +kernel
theorem x82_0 {d : Nat} {a0 a1 a2 a3 a4 a5 : Value} {h : AHp} : Rf d 82 0 [a0, a1, a2, a3, a4, a5] [] h = Rf d 82 1 [a0, a1, a2, a3, a4, a5] [.int 0] h := Rf_go ((stp_of c82_0).trans rfl)
theorem c82_1 : cd 82 1 = some (1, .istore_n 3, 1, []) := by decide +kernel
theorem x82_1 {d : Nat} {a0 a1 a2 a3 a4 a5 : Value} {s0 : Int32} {h : AHp} : Rf d 82 1 [a0, a1, a2, a3, a4, a5] [.int s0] h = Rf d 82 2 [a0, a1, a2, .int s0, a4, a5] [] h := Rf_go ((stp_of c82_1).trans rfl)
theorem c82_2 : cd 82 2 = some (2, .iconst 0, 1, []) := by decide +kernel
theorem x82_2 {d : Nat} {a0 a1 a2 a3 a4 a5 : Value} {h : AHp} : Rf d 82 2 [a0, a1, a2, a3, a4, a5] [] h = Rf d 82 3 [a0, a1, a2, a3, a4, a5] [.int 0] h := Rf_go ((stp_of c82_2).trans rfl)
theorem c82_3 : cd 82 3 = some (3, .istore 4, 2, []) := by decide +kernel
theorem x82_3 {d : Nat} {a0 a1 a2 a3 a4 a5 : Value} {s0 : Int32} {h : AHp} : Rf d 82 3 [a0, a1, a2, a3, a4, a5] [.int s0] h = Rf d 82 5 [a0, a1, a2, a3, .int s0, a5] [] h := Rf_go ((stp_of c82_3).trans rfl)
theorem c82_5 : cd 82 5 = some (5, .iload 4, 2, []) := by decide +kernel
theorem x82_5 {d : Nat} {a0 a1 a2 a3 a5 : Value} {x : Int32} {h : AHp} : Rf d 82 5 [a0, a1, a2, a3, .int x, a5] [] h = Rf d 82 7 [a0, a1, a2, a3, .int x, a5] [.int x] h := Rf_go ((stp_of c82_5).trans rfl)
theorem c82_7 : cd 82 7 = some (7, .iload_n 1, 1, []) := by decide +kernel
theorem x82_7 {d : Nat} {a0 a2 a3 a4 a5 : Value} {s0 : Int32} {x : Int32} {h : AHp} : Rf d 82 7 [a0, .int x, a2, a3, a4, a5] [.int s0] h = Rf d 82 8 [a0, .int x, a2, a3, a4, a5] [.int x, .int s0] h := Rf_go ((stp_of c82_7).trans rfl)
theorem c82_8 : cd 82 8 = some (8, .if_icmp .ge 33, 3, [(41, 0)]) := by decide +kernel
theorem x82_8 {d : Nat} {a0 a1 a2 a3 a4 a5 : Value} {s0 : Int32} {s1 : Int32} {h : AHp} : Rf d 82 8 [a0, a1, a2, a3, a4, a5] [.int s0, .int s1] h = if s1 < s0 then Rf d 82 11 [a0, a1, a2, a3, a4, a5] [] h else Rf d 82 41 [a0, a1, a2, a3, a4, a5] [] h := Rf_brn ((stp_of c82_8).trans rfl)
theorem c82_41 : cd 82 41 = some (41, .iload_n 1, 1, []) := by decide +kernel
theorem x82_41 {d : Nat} {a0 a2 a3 a4 a5 : Value} {x : Int32} {h : AHp} : Rf d 82 41 [a0, .int x, a2, a3, a4, a5] [] h = Rf d 82 42 [a0, .int x, a2, a3, a4, a5] [.int x] h := Rf_go ((stp_of c82_41).trans rfl)
theorem c82_42 : cd 82 42 = some (42, .ifCond .ne 7, 3, [(49, 0)]) := by decide +kernel
theorem x82_42 {d : Nat} {a0 a1 a2 a3 a4 a5 : Value} {s0 : Int32} {h : AHp} : Rf d 82 42 [a0, a1, a2, a3, a4, a5] [.int s0] h = if s0 = 0 then Rf d 82 45 [a0, a1, a2, a3, a4, a5] [] h else Rf d 82 49 [a0, a1, a2, a3, a4, a5] [] h := Rf_brn ((stp_of c82_42).trans rfl)
theorem c82_49 : cd 82 49 = some (49, .iload_n 3, 1, []) := by decide +kernel
theorem x82_49 {d : Nat} {a0 a1 a2 a4 a5 : Value} {x : Int32} {h : AHp} : Rf d 82 49 [a0, a1, a2, .int x, a4, a5] [] h = Rf d 82 50 [a0, a1, a2, .int x, a4, a5] [.int x] h := Rf_go ((stp_of c82_49).trans rfl)
theorem c82_50 : cd 82 50 = some (50, .iload_n 1, 1, []) := by decide +kernel
theorem x82_50 {d : Nat} {a0 a2 a3 a4 a5 : Value} {s0 : Int32} {x : Int32} {h : AHp} : Rf d 82 50 [a0, .int x, a2, a3, a4, a5] [.int s0] h = Rf d 82 51 [a0, .int x, a2, a3, a4, a5] [.int x, .int s0] h := Rf_go ((stp_of c82_50).trans rfl)
theorem c82_51 : cd 82 51 = some (51, .idiv, 1, []) := by decide +kernel
theorem x82_51 {d : Nat} {a0 a1 a2 a3 a4 a5 : Value} {s0 : Int32} {s1 : Int32} {h : AHp} : Rf d 82 51 [a0, a1, a2, a3, a4, a5] [.int s0, .int s1] h = if ¬ s0 = 0 then Rf d 82 52 [a0, a1, a2, a3, a4, a5] [.int (s1 / s0)] h else Rx d 82 51 [a0, a1, a2, a3, a4, a5] [.int s0, .int s1] h := divE c82_51 (fun _ _ _ => rfl)
theorem c82_52 : cd 82 52 = some (52, .ireturn, 1, []) := by decide +kernel
theorem x82_52 {d : Nat} {a0 a1 a2 a3 a4 a5 : Value} {s0 : Int32} {h : AHp} : Rf d 82 52 [a0, a1, a2, a3, a4, a5] [.int s0] h = some (some (.int s0), h) := Rf_end (by rw [stp_of c82_52]; simp only [stpI]; rw [if_pos (show retI (mH 82).2.2.1 s0 = true from retI_int)])
theorem c82_45 : cd 82 45 = some (45, .iconst 0, 1, []) := by decide +kernel
theorem x82_45 {d : Nat} {a0 a1 a2 a3 a4 a5 : Value} {h : AHp} : Rf d 82 45 [a0, a1, a2, a3, a4, a5] [] h = Rf d 82 46 [a0, a1, a2, a3, a4, a5] [.int 0] h := Rf_go ((stp_of c82_45).trans rfl)
theorem c82_46 : cd 82 46 = some (46, .goto 6, 3, [(52, 0)]) := by decide +kernel
theorem x82_46 {d : Nat} {a0 a1 a2 a3 a4 a5 : Value} {s0 : Int32} {h : AHp} : Rf d 82 46 [a0, a1, a2, a3, a4, a5] [.int s0] h = Rf d 82 52 [a0, a1, a2, a3, a4, a5] [.int s0] h := Rf_go ((stp_of c82_46).trans rfl)
theorem c82_11 : cd 82 11 = some (11, .aload_n 0, 1, []) := by decide +kernel
theorem x82_11 {d : Nat} {a1 a2 a3 a4 a5 : Value} {x : Nat} {h : AHp} : Rf d 82 11 [.ref x, a1, a2, a3, a4, a5] [] h = Rf d 82 12 [.ref x, a1, a2, a3, a4, a5] [.ref x] h := Rf_go ((stp_of c82_11).trans rfl)
theorem c82_12 : cd 82 12 = some (12, .iload 4, 2, []) := by decide +kernel
theorem x82_12 {d : Nat} {a0 a1 a2 a3 a5 : Value} {s0 : Nat} {x : Int32} {h : AHp} : Rf d 82 12 [a0, a1, a2, a3, .int x, a5] [.ref s0] h = Rf d 82 14 [a0, a1, a2, a3, .int x, a5] [.int x, .ref s0] h := Rf_go ((stp_of c82_12).trans rfl)
theorem c82_14 : cd 82 14 = some (14, .iload_n 2, 1, []) := by decide +kernel
theorem x82_14 {d : Nat} {a0 a1 a3 a4 a5 : Value} {s0 : Int32} {s1 : Nat} {x : Int32} {h : AHp} : Rf d 82 14 [a0, a1, .int x, a3, a4, a5] [.int s0, .ref s1] h = Rf d 82 15 [a0, a1, .int x, a3, a4, a5] [.int x, .int s0, .ref s1] h := Rf_go ((stp_of c82_14).trans rfl)
theorem c82_15 : cd 82 15 = some (15, .invokevirtual 62, 3, [(7, 81)]) := by decide +kernel
theorem xc82_15 {d : Nat} {a0 a1 a2 a3 a4 a5 : Value} {s0 : Int32} {s1 : Int32} {s2 : Nat} {h : AHp} {h1 : AHp} {v : Int32} (hr : cls (h.1 s2) = 7) (hq : Rf d 81 0 [.ref s2, .int s1, .int s0, noV, noV, noV] [] h = some (some (.int v), h1)) : Rf (d + 1) 82 15 [a0, a1, a2, a3, a4, a5] [.int s0, .int s1, .ref s2] h = Rf (d + 1) 82 18 [a0, a1, a2, a3, a4, a5] [.int v] h1 := clV (c := 81) (as := [.int s1, .int s0]) c82_15 rfl (by simp [isV]) (by rw [hr]; rfl) hq
theorem c82_18 : cd 82 18 = some (18, .istore 5, 2, []) := by decide +kernel
theorem x82_18 {d : Nat} {a0 a1 a2 a3 a4 a5 : Value} {s0 : Int32} {h : AHp} : Rf d 82 18 [a0, a1, a2, a3, a4, a5] [.int s0] h = Rf d 82 20 [a0, a1, a2, a3, a4, .int s0] [] h := Rf_go ((stp_of c82_18).trans rfl)
theorem c82_20 : cd 82 20 = some (20, .iload 5, 2, []) := by decide +kernel
theorem x82_20 {d : Nat} {a0 a1 a2 a3 a4 : Value} {x : Int32} {h : AHp} : Rf d 82 20 [a0, a1, a2, a3, a4, .int x] [] h = Rf d 82 22 [a0, a1, a2, a3, a4, .int x] [.int x] h := Rf_go ((stp_of c82_20).trans rfl)
theorem c82_22 : cd 82 22 = some (22, .bipush (-5), 2, []) := by decide +kernel
theorem x82_22 {d : Nat} {a0 a1 a2 a3 a4 a5 : Value} {s0 : Int32} {h : AHp} : Rf d 82 22 [a0, a1, a2, a3, a4, a5] [.int s0] h = Rf d 82 24 [a0, a1, a2, a3, a4, a5] [.int (-5), .int s0] h := Rf_go ((stp_of c82_22).trans rfl)
theorem c82_24 : cd 82 24 = some (24, .if_icmp .ne 6, 3, [(30, 0)]) := by decide +kernel
theorem x82_24 {d : Nat} {a0 a1 a2 a3 a4 a5 : Value} {s0 : Int32} {s1 : Int32} {h : AHp} : Rf d 82 24 [a0, a1, a2, a3, a4, a5] [.int s0, .int s1] h = if s1 = s0 then Rf d 82 27 [a0, a1, a2, a3, a4, a5] [] h else Rf d 82 30 [a0, a1, a2, a3, a4, a5] [] h := Rf_brn ((stp_of c82_24).trans rfl)
theorem c82_30 : cd 82 30 = some (30, .iload_n 3, 1, []) := by decide +kernel
theorem x82_30 {d : Nat} {a0 a1 a2 a4 a5 : Value} {x : Int32} {h : AHp} : Rf d 82 30 [a0, a1, a2, .int x, a4, a5] [] h = Rf d 82 31 [a0, a1, a2, .int x, a4, a5] [.int x] h := Rf_go ((stp_of c82_30).trans rfl)
theorem c82_31 : cd 82 31 = some (31, .iload 5, 2, []) := by decide +kernel
theorem x82_31 {d : Nat} {a0 a1 a2 a3 a4 : Value} {s0 : Int32} {x : Int32} {h : AHp} : Rf d 82 31 [a0, a1, a2, a3, a4, .int x] [.int s0] h = Rf d 82 33 [a0, a1, a2, a3, a4, .int x] [.int x, .int s0] h := Rf_go ((stp_of c82_31).trans rfl)
theorem c82_33 : cd 82 33 = some (33, .iadd, 1, []) := by decide +kernel
theorem x82_33 {d : Nat} {a0 a1 a2 a3 a4 a5 : Value} {s0 : Int32} {s1 : Int32} {h : AHp} : Rf d 82 33 [a0, a1, a2, a3, a4, a5] [.int s0, .int s1] h = Rf d 82 34 [a0, a1, a2, a3, a4, a5] [.int (s1 + s0)] h := Rf_go ((stp_of c82_33).trans rfl)
theorem c82_34 : cd 82 34 = some (34, .istore_n 3, 1, []) := by decide +kernel
theorem x82_34 {d : Nat} {a0 a1 a2 a3 a4 a5 : Value} {s0 : Int32} {h : AHp} : Rf d 82 34 [a0, a1, a2, a3, a4, a5] [.int s0] h = Rf d 82 35 [a0, a1, a2, .int s0, a4, a5] [] h := Rf_go ((stp_of c82_34).trans rfl)
theorem c82_35 : cd 82 35 = some (35, .iinc 4 1, 3, []) := by decide +kernel
theorem x82_35 {d : Nat} {a0 a1 a2 a3 a5 : Value} {x : Int32} {h : AHp} : Rf d 82 35 [a0, a1, a2, a3, .int x, a5] [] h = Rf d 82 38 [a0, a1, a2, a3, .int (x + 1), a5] [] h := Rf_go ((stp_of c82_35).trans rfl)
theorem c82_38 : cd 82 38 = some (38, .goto (-33), 3, [(5, 0)]) := by decide +kernel
theorem x82_38 {d : Nat} {a0 a1 a2 a3 a4 a5 : Value} {h : AHp} : Rf d 82 38 [a0, a1, a2, a3, a4, a5] [] h = Rf d 82 5 [a0, a1, a2, a3, a4, a5] [] h := Rf_go ((stp_of c82_38).trans rfl)
theorem c82_27 : cd 82 27 = some (27, .bipush (-5), 2, []) := by decide +kernel
theorem x82_27 {d : Nat} {a0 a1 a2 a3 a4 a5 : Value} {h : AHp} : Rf d 82 27 [a0, a1, a2, a3, a4, a5] [] h = Rf d 82 29 [a0, a1, a2, a3, a4, a5] [.int (-5)] h := Rf_go ((stp_of c82_27).trans rfl)
theorem c82_29 : cd 82 29 = some (29, .ireturn, 1, []) := by decide +kernel
theorem x82_29 {d : Nat} {a0 a1 a2 a3 a4 a5 : Value} {s0 : Int32} {h : AHp} : Rf d 82 29 [a0, a1, a2, a3, a4, a5] [.int s0] h = some (some (.int s0), h) := Rf_end (by rw [stp_of c82_29]; simp only [stpI]; rw [if_pos (show retI (mH 82).2.2.1 s0 = true from retI_int)])
-- 83: X7_addListed
theorem c83_0 : cd 83 0 = some (0, .aload_n 0, 1, []) := by decide +kernel
theorem x83_0 {d : Nat} {a1 : Value} {x : Nat} {h : AHp} : Rf d 83 0 [.ref x, a1] [] h = Rf d 83 1 [.ref x, a1] [.ref x] h := Rf_go ((stp_of c83_0).trans rfl)
theorem c83_1 : cd 83 1 = some (1, .getfield 25, 3, [(7, 7)]) := by decide +kernel
theorem x83_1 {d : Nat} {a0 a1 : Value} {s0 : Nat} {h : AHp} : Rf d 83 1 [a0, a1] [.ref s0] h = if cls (h.1 s0) = 7 ∧ oKr (h.1 s0) 7 = true then Rf d 83 4 [a0, a1] [.ref (oR (h.1 s0) 7)] h else Rx d 83 1 [a0, a1] [.ref s0] h := getR c83_1
theorem c83_4 : cd 83 4 = some (4, .aload_n 0, 1, []) := by decide +kernel
theorem x83_4 {d : Nat} {a1 : Value} {s0 : Nat} {x : Nat} {h : AHp} : Rf d 83 4 [.ref x, a1] [.ref s0] h = Rf d 83 5 [.ref x, a1] [.ref x, .ref s0] h := Rf_go ((stp_of c83_4).trans rfl)
theorem c83_5 : cd 83 5 = some (5, .getfield 44, 3, [(7, 8)]) := by decide +kernel
theorem x83_5 {d : Nat} {a0 a1 : Value} {s0 : Nat} {s1 : Nat} {h : AHp} : Rf d 83 5 [a0, a1] [.ref s0, .ref s1] h = if cls (h.1 s0) = 7 ∧ oKi (h.1 s0) 8 = true then Rf d 83 8 [a0, a1] [.int (oN (h.1 s0) 8), .ref s1] h else Rx d 83 5 [a0, a1] [.ref s0, .ref s1] h := getI c83_5
theorem c83_8 : cd 83 8 = some (8, .iload_n 1, 1, []) := by decide +kernel
theorem x83_8 {d : Nat} {a0 : Value} {s0 : Int32} {s1 : Nat} {x : Int32} {h : AHp} : Rf d 83 8 [a0, .int x] [.int s0, .ref s1] h = Rf d 83 9 [a0, .int x] [.int x, .int s0, .ref s1] h := Rf_go ((stp_of c83_8).trans rfl)
theorem c83_9 : cd 83 9 = some (9, .iastore, 1, []) := by decide +kernel
theorem x83_9 {d : Nat} {a0 a1 : Value} {s0 : Int32} {s1 : Int32} {s2 : Nat} {h : AHp} : Rf d 83 9 [a0, a1] [.int s0, .int s1, .ref s2] h = if aT (h.1 s2) = 0 ∧ inB s1 (aN (h.1 s2)) = true then Rf d 83 10 [a0, a1] [] (hset h s2 (.inl (0, aN (h.1 s2), .inl (upd (aF (h.1 s2)) s1.toNatClampNeg s0)))) else Rx d 83 9 [a0, a1] [.int s0, .int s1, .ref s2] h := stI c83_9
theorem c83_10 : cd 83 10 = some (10, .aload_n 0, 1, []) := by decide +kernel
theorem x83_10 {d : Nat} {a1 : Value} {x : Nat} {h : AHp} : Rf d 83 10 [.ref x, a1] [] h = Rf d 83 11 [.ref x, a1] [.ref x] h := Rf_go ((stp_of c83_10).trans rfl)
theorem c83_11 : cd 83 11 = some (11, .dup, 1, []) := by decide +kernel
theorem x83_11 {d : Nat} {a0 a1 : Value} {s0 : Nat} {h : AHp} : Rf d 83 11 [a0, a1] [.ref s0] h = Rf d 83 12 [a0, a1] [.ref s0, .ref s0] h := Rf_go ((stp_of c83_11).trans rfl)
theorem c83_12 : cd 83 12 = some (12, .getfield 44, 3, [(7, 8)]) := by decide +kernel
theorem x83_12 {d : Nat} {a0 a1 : Value} {s0 : Nat} {s1 : Nat} {h : AHp} : Rf d 83 12 [a0, a1] [.ref s0, .ref s1] h = if cls (h.1 s0) = 7 ∧ oKi (h.1 s0) 8 = true then Rf d 83 15 [a0, a1] [.int (oN (h.1 s0) 8), .ref s1] h else Rx d 83 12 [a0, a1] [.ref s0, .ref s1] h := getI c83_12
theorem c83_15 : cd 83 15 = some (15, .iconst 1, 1, []) := by decide +kernel
theorem x83_15 {d : Nat} {a0 a1 : Value} {s0 : Int32} {s1 : Nat} {h : AHp} : Rf d 83 15 [a0, a1] [.int s0, .ref s1] h = Rf d 83 16 [a0, a1] [.int 1, .int s0, .ref s1] h := Rf_go ((stp_of c83_15).trans rfl)
theorem c83_16 : cd 83 16 = some (16, .iadd, 1, []) := by decide +kernel
theorem x83_16 {d : Nat} {a0 a1 : Value} {s0 : Int32} {s1 : Int32} {s2 : Nat} {h : AHp} : Rf d 83 16 [a0, a1] [.int s0, .int s1, .ref s2] h = Rf d 83 17 [a0, a1] [.int (s1 + s0), .ref s2] h := Rf_go ((stp_of c83_16).trans rfl)
theorem c83_17 : cd 83 17 = some (17, .putfield 44, 3, [(7, 8)]) := by decide +kernel
theorem x83_17 {d : Nat} {a0 a1 : Value} {s0 : Int32} {s1 : Nat} {h : AHp} : Rf d 83 17 [a0, a1] [.int s0, .ref s1] h = if cls (h.1 s1) = 7 ∧ oL (h.1 s1) = 9 then Rf d 83 20 [a0, a1] [] (hset h s1 (oSet (h.1 s1) 8 (.int s0))) else Rx d 83 17 [a0, a1] [.int s0, .ref s1] h := putV c83_17 rfl (fMay_i (by decide +kernel))
theorem c83_20 : cd 83 20 = some (20, .aload_n 0, 1, []) := by decide +kernel
theorem x83_20 {d : Nat} {a1 : Value} {x : Nat} {h : AHp} : Rf d 83 20 [.ref x, a1] [] h = Rf d 83 21 [.ref x, a1] [.ref x] h := Rf_go ((stp_of c83_20).trans rfl)
theorem c83_21 : cd 83 21 = some (21, .getfield 44, 3, [(7, 8)]) := by decide +kernel
theorem x83_21 {d : Nat} {a0 a1 : Value} {s0 : Nat} {h : AHp} : Rf d 83 21 [a0, a1] [.ref s0] h = if cls (h.1 s0) = 7 ∧ oKi (h.1 s0) 8 = true then Rf d 83 24 [a0, a1] [.int (oN (h.1 s0) 8)] h else Rx d 83 21 [a0, a1] [.ref s0] h := getI c83_21
theorem c83_24 : cd 83 24 = some (24, .ireturn, 1, []) := by decide +kernel
theorem x83_24 {d : Nat} {a0 a1 : Value} {s0 : Int32} {h : AHp} : Rf d 83 24 [a0, a1] [.int s0] h = some (some (.int s0), h) := Rf_end (by rw [stp_of c83_24]; simp only [stpI]; rw [if_pos (show retI (mH 83).2.2.1 s0 = true from retI_int)])
