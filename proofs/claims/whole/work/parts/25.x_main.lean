-- 94: X11_init
theorem c94_0 : cd 94 0 = some (0, .aload_n 0, 1, []) := by decide +kernel
theorem x94_0 {d : Nat} {x : Nat} {h : AHp} : Rf d 94 0 [.ref x] [] h = Rf d 94 1 [.ref x] [.ref x] h := Rf_go ((stp_of c94_0).trans rfl)
theorem c94_1 : cd 94 1 = some (1, .invokespecial 1, 3, [(1001, 0)]) := by decide +kernel
theorem x94_1 {d : Nat} {a0 : Value} {s0 : Nat} {h : AHp} : Rf d 94 1 [a0] [.ref s0] h = Rf d 94 4 [a0] [] h := Rf_go ((stp_of c94_1).trans rfl)
theorem c94_4 : cd 94 4 = some (4, .aload_n 0, 1, []) := by decide +kernel
theorem x94_4 {d : Nat} {x : Nat} {h : AHp} : Rf d 94 4 [.ref x] [] h = Rf d 94 5 [.ref x] [.ref x] h := Rf_go ((stp_of c94_4).trans rfl)
theorem c94_5 : cd 94 5 = some (5, .new 7, 3, [(6, 15)]) := by decide +kernel
theorem x94_5 {d : Nat} {a0 : Value} {s0 : Nat} {h : AHp} : Rf d 94 5 [a0] [.ref s0] h = Rf d 94 8 [a0] [.ref h.2.1, .ref s0] (hnew h (.inr (6, [.int 0, .null, .null, .null, .null, .null, .null, .null, .int 0, .int 0, .int 0, .null, .null, .null, .null])) 15) := (Rf_go ((stp_of c94_5).trans rfl)).trans (by rw [df6])
theorem c94_8 : cd 94 8 = some (8, .dup, 1, []) := by decide +kernel
theorem x94_8 {d : Nat} {a0 : Value} {s0 : Nat} {s1 : Nat} {h : AHp} : Rf d 94 8 [a0] [.ref s0, .ref s1] h = Rf d 94 9 [a0] [.ref s0, .ref s0, .ref s1] h := Rf_go ((stp_of c94_8).trans rfl)
theorem c94_9 : cd 94 9 = some (9, .invokespecial 9, 3, [(1003, 39)]) := by decide +kernel
theorem xc94_9 {d : Nat} {a0 : Value} {s0 : Nat} {s1 : Nat} {s2 : Nat} {h : AHp} {h1 : AHp} (hr : cls (h.1 s0) < 13) (hq : Rf d 39 0 [.ref s0, noV] [] h = some (none, h1)) : Rf (d + 1) 94 9 [a0] [.ref s0, .ref s1, .ref s2] h = Rf (d + 1) 94 12 [a0] [.ref s1, .ref s2] h1 := clP (as := []) c94_9 rfl rfl (by simp [isV]) hr hq
theorem c94_12 : cd 94 12 = some (12, .putfield 10, 3, [(11, 0)]) := by decide +kernel
theorem x94_12 {d : Nat} {a0 : Value} {s0 : Nat} {s1 : Nat} {h : AHp} : Rf d 94 12 [a0] [.ref s0, .ref s1] h = if cls (h.1 s1) = 11 ∧ oL (h.1 s1) = 7 then Rf d 94 15 [a0] [] (hset h s1 (oSet (h.1 s1) 0 (.ref s0))) else Rx d 94 12 [a0] [.ref s0, .ref s1] h := putV c94_12 rfl (fMay_o (C := "PayUntold$Office") (by decide +kernel))
theorem c94_15 : cd 94 15 = some (15, .aload_n 0, 1, []) := by decide +kernel
theorem x94_15 {d : Nat} {x : Nat} {h : AHp} : Rf d 94 15 [.ref x] [] h = Rf d 94 16 [.ref x] [.ref x] h := Rf_go ((stp_of c94_15).trans rfl)
theorem c94_16 : cd 94 16 = some (16, .new 16, 3, [(7, 9)]) := by decide +kernel
theorem x94_16 {d : Nat} {a0 : Value} {s0 : Nat} {h : AHp} : Rf d 94 16 [a0] [.ref s0] h = Rf d 94 19 [a0] [.ref h.2.1, .ref s0] (hnew h (.inr (7, [.null, .int 0, .int 0, .null, .null, .null, .int 0, .null, .int 0])) 9) := (Rf_go ((stp_of c94_16).trans rfl)).trans (by rw [df7])
theorem c94_19 : cd 94 19 = some (19, .dup, 1, []) := by decide +kernel
theorem x94_19 {d : Nat} {a0 : Value} {s0 : Nat} {s1 : Nat} {h : AHp} : Rf d 94 19 [a0] [.ref s0, .ref s1] h = Rf d 94 20 [a0] [.ref s0, .ref s0, .ref s1] h := Rf_go ((stp_of c94_19).trans rfl)
theorem c94_20 : cd 94 20 = some (20, .invokespecial 18, 3, [(1006, 76)]) := by decide +kernel
theorem xc94_20 {d : Nat} {a0 : Value} {s0 : Nat} {s1 : Nat} {s2 : Nat} {h : AHp} {h1 : AHp} (hr : cls (h.1 s0) < 13) (hq : Rf d 76 0 [.ref s0] [] h = some (none, h1)) : Rf (d + 1) 94 20 [a0] [.ref s0, .ref s1, .ref s2] h = Rf (d + 1) 94 23 [a0] [.ref s1, .ref s2] h1 := clP (as := []) c94_20 rfl rfl (by simp [isV]) hr hq
theorem c94_23 : cd 94 23 = some (23, .putfield 19, 3, [(11, 1)]) := by decide +kernel
theorem x94_23 {d : Nat} {a0 : Value} {s0 : Nat} {s1 : Nat} {h : AHp} : Rf d 94 23 [a0] [.ref s0, .ref s1] h = if cls (h.1 s1) = 11 ∧ oL (h.1 s1) = 7 then Rf d 94 26 [a0] [] (hset h s1 (oSet (h.1 s1) 1 (.ref s0))) else Rx d 94 23 [a0] [.ref s0, .ref s1] h := putV c94_23 rfl (fMay_o (C := "PayUntold$Papers") (by decide +kernel))
theorem c94_26 : cd 94 26 = some (26, .aload_n 0, 1, []) := by decide +kernel
theorem x94_26 {d : Nat} {x : Nat} {h : AHp} : Rf d 94 26 [.ref x] [] h = Rf d 94 27 [.ref x] [.ref x] h := Rf_go ((stp_of c94_26).trans rfl)
theorem c94_27 : cd 94 27 = some (27, .new 7, 3, [(6, 15)]) := by decide +kernel
theorem x94_27 {d : Nat} {a0 : Value} {s0 : Nat} {h : AHp} : Rf d 94 27 [a0] [.ref s0] h = Rf d 94 30 [a0] [.ref h.2.1, .ref s0] (hnew h (.inr (6, [.int 0, .null, .null, .null, .null, .null, .null, .null, .int 0, .int 0, .int 0, .null, .null, .null, .null])) 15) := (Rf_go ((stp_of c94_27).trans rfl)).trans (by rw [df6])
theorem c94_30 : cd 94 30 = some (30, .dup, 1, []) := by decide +kernel
theorem x94_30 {d : Nat} {a0 : Value} {s0 : Nat} {s1 : Nat} {h : AHp} : Rf d 94 30 [a0] [.ref s0, .ref s1] h = Rf d 94 31 [a0] [.ref s0, .ref s0, .ref s1] h := Rf_go ((stp_of c94_30).trans rfl)
theorem c94_31 : cd 94 31 = some (31, .invokespecial 9, 3, [(1003, 39)]) := by decide +kernel
theorem xc94_31 {d : Nat} {a0 : Value} {s0 : Nat} {s1 : Nat} {s2 : Nat} {h : AHp} {h1 : AHp} (hr : cls (h.1 s0) < 13) (hq : Rf d 39 0 [.ref s0, noV] [] h = some (none, h1)) : Rf (d + 1) 94 31 [a0] [.ref s0, .ref s1, .ref s2] h = Rf (d + 1) 94 34 [a0] [.ref s1, .ref s2] h1 := clP (as := []) c94_31 rfl rfl (by simp [isV]) hr hq
theorem c94_34 : cd 94 34 = some (34, .putfield 23, 3, [(11, 2)]) := by decide +kernel
theorem x94_34 {d : Nat} {a0 : Value} {s0 : Nat} {s1 : Nat} {h : AHp} : Rf d 94 34 [a0] [.ref s0, .ref s1] h = if cls (h.1 s1) = 11 ∧ oL (h.1 s1) = 7 then Rf d 94 37 [a0] [] (hset h s1 (oSet (h.1 s1) 2 (.ref s0))) else Rx d 94 34 [a0] [.ref s0, .ref s1] h := putV c94_34 rfl (fMay_o (C := "PayUntold$Office") (by decide +kernel))
theorem c94_37 : cd 94 37 = some (37, .aload_n 0, 1, []) := by decide +kernel
theorem x94_37 {d : Nat} {x : Nat} {h : AHp} : Rf d 94 37 [.ref x] [] h = Rf d 94 38 [.ref x] [.ref x] h := Rf_go ((stp_of c94_37).trans rfl)
theorem c94_38 : cd 94 38 = some (38, .new 16, 3, [(7, 9)]) := by decide +kernel
theorem x94_38 {d : Nat} {a0 : Value} {s0 : Nat} {h : AHp} : Rf d 94 38 [a0] [.ref s0] h = Rf d 94 41 [a0] [.ref h.2.1, .ref s0] (hnew h (.inr (7, [.null, .int 0, .int 0, .null, .null, .null, .int 0, .null, .int 0])) 9) := (Rf_go ((stp_of c94_38).trans rfl)).trans (by rw [df7])
theorem c94_41 : cd 94 41 = some (41, .dup, 1, []) := by decide +kernel
theorem x94_41 {d : Nat} {a0 : Value} {s0 : Nat} {s1 : Nat} {h : AHp} : Rf d 94 41 [a0] [.ref s0, .ref s1] h = Rf d 94 42 [a0] [.ref s0, .ref s0, .ref s1] h := Rf_go ((stp_of c94_41).trans rfl)
theorem c94_42 : cd 94 42 = some (42, .invokespecial 18, 3, [(1006, 76)]) := by decide +kernel
theorem xc94_42 {d : Nat} {a0 : Value} {s0 : Nat} {s1 : Nat} {s2 : Nat} {h : AHp} {h1 : AHp} (hr : cls (h.1 s0) < 13) (hq : Rf d 76 0 [.ref s0] [] h = some (none, h1)) : Rf (d + 1) 94 42 [a0] [.ref s0, .ref s1, .ref s2] h = Rf (d + 1) 94 45 [a0] [.ref s1, .ref s2] h1 := clP (as := []) c94_42 rfl rfl (by simp [isV]) hr hq
theorem c94_45 : cd 94 45 = some (45, .putfield 26, 3, [(11, 3)]) := by decide +kernel
theorem x94_45 {d : Nat} {a0 : Value} {s0 : Nat} {s1 : Nat} {h : AHp} : Rf d 94 45 [a0] [.ref s0, .ref s1] h = if cls (h.1 s1) = 11 ∧ oL (h.1 s1) = 7 then Rf d 94 48 [a0] [] (hset h s1 (oSet (h.1 s1) 3 (.ref s0))) else Rx d 94 45 [a0] [.ref s0, .ref s1] h := putV c94_45 rfl (fMay_o (C := "PayUntold$Papers") (by decide +kernel))
theorem c94_48 : cd 94 48 = some (48, .aload_n 0, 1, []) := by decide +kernel
theorem x94_48 {d : Nat} {x : Nat} {h : AHp} : Rf d 94 48 [.ref x] [] h = Rf d 94 49 [.ref x] [.ref x] h := Rf_go ((stp_of c94_48).trans rfl)
theorem c94_49 : cd 94 49 = some (49, .new 7, 3, [(6, 15)]) := by decide +kernel
theorem x94_49 {d : Nat} {a0 : Value} {s0 : Nat} {h : AHp} : Rf d 94 49 [a0] [.ref s0] h = Rf d 94 52 [a0] [.ref h.2.1, .ref s0] (hnew h (.inr (6, [.int 0, .null, .null, .null, .null, .null, .null, .null, .int 0, .int 0, .int 0, .null, .null, .null, .null])) 15) := (Rf_go ((stp_of c94_49).trans rfl)).trans (by rw [df6])
theorem c94_52 : cd 94 52 = some (52, .dup, 1, []) := by decide +kernel
theorem x94_52 {d : Nat} {a0 : Value} {s0 : Nat} {s1 : Nat} {h : AHp} : Rf d 94 52 [a0] [.ref s0, .ref s1] h = Rf d 94 53 [a0] [.ref s0, .ref s0, .ref s1] h := Rf_go ((stp_of c94_52).trans rfl)
theorem c94_53 : cd 94 53 = some (53, .invokespecial 9, 3, [(1003, 39)]) := by decide +kernel
theorem xc94_53 {d : Nat} {a0 : Value} {s0 : Nat} {s1 : Nat} {s2 : Nat} {h : AHp} {h1 : AHp} (hr : cls (h.1 s0) < 13) (hq : Rf d 39 0 [.ref s0, noV] [] h = some (none, h1)) : Rf (d + 1) 94 53 [a0] [.ref s0, .ref s1, .ref s2] h = Rf (d + 1) 94 56 [a0] [.ref s1, .ref s2] h1 := clP (as := []) c94_53 rfl rfl (by simp [isV]) hr hq
theorem c94_56 : cd 94 56 = some (56, .putfield 29, 3, [(11, 4)]) := by decide +kernel
theorem x94_56 {d : Nat} {a0 : Value} {s0 : Nat} {s1 : Nat} {h : AHp} : Rf d 94 56 [a0] [.ref s0, .ref s1] h = if cls (h.1 s1) = 11 ∧ oL (h.1 s1) = 7 then Rf d 94 59 [a0] [] (hset h s1 (oSet (h.1 s1) 4 (.ref s0))) else Rx d 94 56 [a0] [.ref s0, .ref s1] h := putV c94_56 rfl (fMay_o (C := "PayUntold$Office") (by decide +kernel))
theorem c94_59 : cd 94 59 = some (59, .aload_n 0, 1, []) := by decide +kernel
theorem x94_59 {d : Nat} {x : Nat} {h : AHp} : Rf d 94 59 [.ref x] [] h = Rf d 94 60 [.ref x] [.ref x] h := Rf_go ((stp_of c94_59).trans rfl)
theorem c94_60 : cd 94 60 = some (60, .new 32, 3, [(10, 2)]) := by decide +kernel
theorem x94_60 {d : Nat} {a0 : Value} {s0 : Nat} {h : AHp} : Rf d 94 60 [a0] [.ref s0] h = Rf d 94 63 [a0] [.ref h.2.1, .ref s0] (hnew h (.inr (10, [.null, .int 0])) 2) := (Rf_go ((stp_of c94_60).trans rfl)).trans (by rw [df10])
theorem c94_63 : cd 94 63 = some (63, .dup, 1, []) := by decide +kernel
theorem x94_63 {d : Nat} {a0 : Value} {s0 : Nat} {s1 : Nat} {h : AHp} : Rf d 94 63 [a0] [.ref s0, .ref s1] h = Rf d 94 64 [a0] [.ref s0, .ref s0, .ref s1] h := Rf_go ((stp_of c94_63).trans rfl)
theorem c94_64 : cd 94 64 = some (64, .invokespecial 34, 3, [(1006, 92)]) := by decide +kernel
theorem xc94_64 {d : Nat} {a0 : Value} {s0 : Nat} {s1 : Nat} {s2 : Nat} {h : AHp} {h1 : AHp} (hr : cls (h.1 s0) < 13) (hq : Rf d 92 0 [.ref s0] [] h = some (none, h1)) : Rf (d + 1) 94 64 [a0] [.ref s0, .ref s1, .ref s2] h = Rf (d + 1) 94 67 [a0] [.ref s1, .ref s2] h1 := clP (as := []) c94_64 rfl rfl (by simp [isV]) hr hq
theorem c94_67 : cd 94 67 = some (67, .putfield 35, 3, [(11, 5)]) := by decide +kernel
theorem x94_67 {d : Nat} {a0 : Value} {s0 : Nat} {s1 : Nat} {h : AHp} : Rf d 94 67 [a0] [.ref s0, .ref s1] h = if cls (h.1 s1) = 11 ∧ oL (h.1 s1) = 7 then Rf d 94 70 [a0] [] (hset h s1 (oSet (h.1 s1) 5 (.ref s0))) else Rx d 94 67 [a0] [.ref s0, .ref s1] h := putV c94_67 rfl (fMay_o (C := "PayUntold$Trace") (by decide +kernel))
theorem c94_70 : cd 94 70 = some (70, .return_, 1, []) := by decide +kernel
theorem x94_70 {d : Nat} {a0 : Value} {h : AHp} : Rf d 94 70 [a0] [] h = some (none, h) := Rf_end (endV c94_70 (by decide +kernel))
-- 95: X11_feed
theorem c95_0 : cd 95 0 = some (0, .iload_n 1, 1, []) := by decide +kernel
theorem x95_0 {d : Nat} {a0 : Value} {x : Int32} {h : AHp} : Rf d 95 0 [a0, .int x] [] h = Rf d 95 1 [a0, .int x] [.int x] h := Rf_go ((stp_of c95_0).trans rfl)
theorem c95_1 : cd 95 1 = some (1, .bipush 127, 2, []) := by decide +kernel
theorem x95_1 {d : Nat} {a0 a1 : Value} {s0 : Int32} {h : AHp} : Rf d 95 1 [a0, a1] [.int s0] h = Rf d 95 3 [a0, a1] [.int 127, .int s0] h := Rf_go ((stp_of c95_1).trans rfl)
theorem c95_3 : cd 95 3 = some (3, .invokestatic 39, 3, [(0, 129)]) := by decide +kernel
theorem xc95_3 {d : Nat} {a0 a1 : Value} {s0 : Int32} {s1 : Int32} {h : AHp} {h1 : AHp} {v : Int32} (hq : Rf d 129 0 [.int s1, .int s0] [] h = some (some (.int v), h1)) : Rf (d + 1) 95 3 [a0, a1] [.int s0, .int s1] h = Rf (d + 1) 95 6 [a0, a1] [.int v] h1 := clS (as := [.int s1, .int s0]) c95_3 rfl rfl (by simp [isV]) hq
theorem c95_6 : cd 95 6 = some (6, .ifCond .ne 6, 3, [(12, 0)]) := by decide +kernel
theorem x95_6 {d : Nat} {a0 a1 : Value} {s0 : Int32} {h : AHp} : Rf d 95 6 [a0, a1] [.int s0] h = if s0 = 0 then Rf d 95 9 [a0, a1] [] h else Rf d 95 12 [a0, a1] [] h := Rf_brn ((stp_of c95_6).trans rfl)
theorem c95_12 : cd 95 12 = some (12, .aload_n 0, 1, []) := by decide +kernel
theorem x95_12 {d : Nat} {a1 : Value} {x : Nat} {h : AHp} : Rf d 95 12 [.ref x, a1] [] h = Rf d 95 13 [.ref x, a1] [.ref x] h := Rf_go ((stp_of c95_12).trans rfl)
theorem c95_13 : cd 95 13 = some (13, .getfield 19, 3, [(11, 1)]) := by decide +kernel
theorem x95_13 {d : Nat} {a0 a1 : Value} {s0 : Nat} {h : AHp} : Rf d 95 13 [a0, a1] [.ref s0] h = if cls (h.1 s0) = 11 ∧ oKr (h.1 s0) 1 = true then Rf d 95 16 [a0, a1] [.ref (oR (h.1 s0) 1)] h else Rx d 95 13 [a0, a1] [.ref s0] h := getR c95_13
theorem c95_16 : cd 95 16 = some (16, .getfield 43, 3, [(7, 1)]) := by decide +kernel
theorem x95_16 {d : Nat} {a0 a1 : Value} {s0 : Nat} {h : AHp} : Rf d 95 16 [a0, a1] [.ref s0] h = if cls (h.1 s0) = 7 ∧ oKi (h.1 s0) 1 = true then Rf d 95 19 [a0, a1] [.int (oN (h.1 s0) 1)] h else Rx d 95 16 [a0, a1] [.ref s0] h := getI c95_16
theorem c95_19 : cd 95 19 = some (19, .bipush 100, 2, []) := by decide +kernel
theorem x95_19 {d : Nat} {a0 a1 : Value} {s0 : Int32} {h : AHp} : Rf d 95 19 [a0, a1] [.int s0] h = Rf d 95 21 [a0, a1] [.int 100, .int s0] h := Rf_go ((stp_of c95_19).trans rfl)
theorem c95_21 : cd 95 21 = some (21, .if_icmp .lt 8, 3, [(29, 0)]) := by decide +kernel
theorem x95_21 {d : Nat} {a0 a1 : Value} {s0 : Int32} {s1 : Int32} {h : AHp} : Rf d 95 21 [a0, a1] [.int s0, .int s1] h = if s1 < s0 then Rf d 95 29 [a0, a1] [] h else Rf d 95 24 [a0, a1] [] h := Rf_brd ((stp_of c95_21).trans rfl)
theorem c95_29 : cd 95 29 = some (29, .aload_n 0, 1, []) := by decide +kernel
theorem x95_29 {d : Nat} {a1 : Value} {x : Nat} {h : AHp} : Rf d 95 29 [.ref x, a1] [] h = Rf d 95 30 [.ref x, a1] [.ref x] h := Rf_go ((stp_of c95_29).trans rfl)
theorem c95_30 : cd 95 30 = some (30, .getfield 19, 3, [(11, 1)]) := by decide +kernel
theorem x95_30 {d : Nat} {a0 a1 : Value} {s0 : Nat} {h : AHp} : Rf d 95 30 [a0, a1] [.ref s0] h = if cls (h.1 s0) = 11 ∧ oKr (h.1 s0) 1 = true then Rf d 95 33 [a0, a1] [.ref (oR (h.1 s0) 1)] h else Rx d 95 30 [a0, a1] [.ref s0] h := getR c95_30
theorem c95_33 : cd 95 33 = some (33, .iload_n 1, 1, []) := by decide +kernel
theorem x95_33 {d : Nat} {a0 : Value} {s0 : Nat} {x : Int32} {h : AHp} : Rf d 95 33 [a0, .int x] [.ref s0] h = Rf d 95 34 [a0, .int x] [.int x, .ref s0] h := Rf_go ((stp_of c95_33).trans rfl)
theorem c95_34 : cd 95 34 = some (34, .i2b, 1, []) := by decide +kernel
theorem x95_34 {d : Nat} {a0 a1 : Value} {s0 : Int32} {s1 : Nat} {h : AHp} : Rf d 95 34 [a0, a1] [.int s0, .ref s1] h = Rf d 95 35 [a0, a1] [.int (s0.toInt8.toInt32), .ref s1] h := Rf_go ((stp_of c95_34).trans rfl)
theorem c95_35 : cd 95 35 = some (35, .invokevirtual 47, 3, [(7, 78)]) := by decide +kernel
theorem xc95_35 {d : Nat} {a0 a1 : Value} {s0 : Int32} {s1 : Nat} {h : AHp} {h1 : AHp} {v : Int32} (hr : cls (h.1 s1) = 7) (hq : Rf d 78 0 [.ref s1, .int s0] [] h = some (some (.int v), h1)) : Rf (d + 1) 95 35 [a0, a1] [.int s0, .ref s1] h = Rf (d + 1) 95 38 [a0, a1] [.int v] h1 := clV (c := 78) (as := [.int s0]) c95_35 rfl (by simp [isV]) (by rw [hr]; rfl) hq
theorem c95_38 : cd 95 38 = some (38, .ireturn, 1, []) := by decide +kernel
theorem x95_38 {d : Nat} {a0 a1 : Value} {s0 : Int32} {h : AHp} : Rf d 95 38 [a0, a1] [.int s0] h = some (some (.int s0), h) := Rf_end (by rw [stp_of c95_38]; simp only [stpI]; rw [if_pos (show retI (mH 95).2.2.1 s0 = true from retI_int)])
theorem c95_24 : cd 95 24 = some (24, .bipush (-4), 2, []) := by decide +kernel
theorem x95_24 {d : Nat} {a0 a1 : Value} {h : AHp} : Rf d 95 24 [a0, a1] [] h = Rf d 95 26 [a0, a1] [.int (-4)] h := Rf_go ((stp_of c95_24).trans rfl)
theorem c95_26 : cd 95 26 = some (26, .goto 12, 3, [(38, 0)]) := by decide +kernel
theorem x95_26 {d : Nat} {a0 a1 : Value} {s0 : Int32} {h : AHp} : Rf d 95 26 [a0, a1] [.int s0] h = Rf d 95 38 [a0, a1] [.int s0] h := Rf_go ((stp_of c95_26).trans rfl)
theorem c95_9 : cd 95 9 = some (9, .bipush (-2), 2, []) := by decide +kernel
theorem x95_9 {d : Nat} {a0 a1 : Value} {h : AHp} : Rf d 95 9 [a0, a1] [] h = Rf d 95 11 [a0, a1] [.int (-2)] h := Rf_go ((stp_of c95_9).trans rfl)
theorem c95_11 : cd 95 11 = some (11, .ireturn, 1, []) := by decide +kernel
theorem x95_11 {d : Nat} {a0 a1 : Value} {s0 : Int32} {h : AHp} : Rf d 95 11 [a0, a1] [.int s0] h = some (some (.int s0), h) := Rf_end (by rw [stp_of c95_11]; simp only [stpI]; rw [if_pos (show retI (mH 95).2.2.1 s0 = true from retI_int)])
-- 96: X11_house
theorem c96_0 : cd 96 0 = some (0, .aload_n 0, 1, []) := by decide +kernel
theorem x96_0 {d : Nat} {a1 a2 : Value} {x : Nat} {h : AHp} : Rf d 96 0 [.ref x, a1, a2] [] h = Rf d 96 1 [.ref x, a1, a2] [.ref x] h := Rf_go ((stp_of c96_0).trans rfl)
theorem c96_1 : cd 96 1 = some (1, .getfield 10, 3, [(11, 0)]) := by decide +kernel
theorem x96_1 {d : Nat} {a0 a1 a2 : Value} {s0 : Nat} {h : AHp} : Rf d 96 1 [a0, a1, a2] [.ref s0] h = if cls (h.1 s0) = 11 ∧ oKr (h.1 s0) 0 = true then Rf d 96 4 [a0, a1, a2] [.ref (oR (h.1 s0) 0)] h else Rx d 96 1 [a0, a1, a2] [.ref s0] h := getR c96_1
theorem c96_4 : cd 96 4 = some (4, .getfield 51, 3, [(6, 10)]) := by decide +kernel
theorem x96_4 {d : Nat} {a0 a1 a2 : Value} {s0 : Nat} {h : AHp} : Rf d 96 4 [a0, a1, a2] [.ref s0] h = if cls (h.1 s0) = 6 ∧ oKi (h.1 s0) 10 = true then Rf d 96 7 [a0, a1, a2] [.int (oN (h.1 s0) 10)] h else Rx d 96 4 [a0, a1, a2] [.ref s0] h := getI c96_4
theorem c96_7 : cd 96 7 = some (7, .iconst 5, 1, []) := by decide +kernel
theorem x96_7 {d : Nat} {a0 a1 a2 : Value} {s0 : Int32} {h : AHp} : Rf d 96 7 [a0, a1, a2] [.int s0] h = Rf d 96 8 [a0, a1, a2] [.int 5, .int s0] h := Rf_go ((stp_of c96_7).trans rfl)
theorem c96_8 : cd 96 8 = some (8, .if_icmp .lt 6, 3, [(14, 0)]) := by decide +kernel
theorem x96_8 {d : Nat} {a0 a1 a2 : Value} {s0 : Int32} {s1 : Int32} {h : AHp} : Rf d 96 8 [a0, a1, a2] [.int s0, .int s1] h = if s1 < s0 then Rf d 96 14 [a0, a1, a2] [] h else Rf d 96 11 [a0, a1, a2] [] h := Rf_brd ((stp_of c96_8).trans rfl)
theorem c96_14 : cd 96 14 = some (14, .new 54, 3, [(3, 10)]) := by decide +kernel
theorem x96_14 {d : Nat} {a0 a1 a2 : Value} {h : AHp} : Rf d 96 14 [a0, a1, a2] [] h = Rf d 96 17 [a0, a1, a2] [.ref h.2.1] (hnew h (.inr (3, [.int 0, .int 0, .null, .int 0, .int 0, .null, .null, .null, .null, .int 0])) 10) := (Rf_go ((stp_of c96_14).trans rfl)).trans (by rw [df3])
theorem c96_17 : cd 96 17 = some (17, .dup, 1, []) := by decide +kernel
theorem x96_17 {d : Nat} {a0 a1 a2 : Value} {s0 : Nat} {h : AHp} : Rf d 96 17 [a0, a1, a2] [.ref s0] h = Rf d 96 18 [a0, a1, a2] [.ref s0, .ref s0] h := Rf_go ((stp_of c96_17).trans rfl)
theorem c96_18 : cd 96 18 = some (18, .aload_n 0, 1, []) := by decide +kernel
theorem x96_18 {d : Nat} {a1 a2 : Value} {s0 : Nat} {s1 : Nat} {x : Nat} {h : AHp} : Rf d 96 18 [.ref x, a1, a2] [.ref s0, .ref s1] h = Rf d 96 19 [.ref x, a1, a2] [.ref x, .ref s0, .ref s1] h := Rf_go ((stp_of c96_18).trans rfl)
theorem c96_19 : cd 96 19 = some (19, .getfield 19, 3, [(11, 1)]) := by decide +kernel
theorem x96_19 {d : Nat} {a0 a1 a2 : Value} {s0 : Nat} {s1 : Nat} {s2 : Nat} {h : AHp} : Rf d 96 19 [a0, a1, a2] [.ref s0, .ref s1, .ref s2] h = if cls (h.1 s0) = 11 ∧ oKr (h.1 s0) 1 = true then Rf d 96 22 [a0, a1, a2] [.ref (oR (h.1 s0) 1), .ref s1, .ref s2] h else Rx d 96 19 [a0, a1, a2] [.ref s0, .ref s1, .ref s2] h := getR c96_19
theorem c96_22 : cd 96 22 = some (22, .invokevirtual 56, 3, [(7, 79)]) := by decide +kernel
theorem xc96_22 {d : Nat} {a0 a1 a2 : Value} {s0 : Nat} {s1 : Nat} {s2 : Nat} {h : AHp} {h1 : AHp} {v : Nat} (hr : cls (h.1 s0) = 7) (hq : Rf d 79 0 [.ref s0, noV] [] h = some (some (.ref v), h1)) : Rf (d + 1) 96 22 [a0, a1, a2] [.ref s0, .ref s1, .ref s2] h = Rf (d + 1) 96 25 [a0, a1, a2] [.ref v, .ref s1, .ref s2] h1 := clV (c := 79) (as := []) c96_22 rfl (by simp [isV]) (by rw [hr]; rfl) hq
theorem c96_25 : cd 96 25 = some (25, .invokespecial 60, 3, [(1003, 12)]) := by decide +kernel
theorem xc96_25 {d : Nat} {a0 a1 a2 : Value} {s0 : Nat} {s1 : Nat} {s2 : Nat} {h : AHp} {h1 : AHp} (hr : cls (h.1 s1) < 13) (hq : Rf d 12 0 [.ref s1, .ref s0] [] h = some (none, h1)) : Rf (d + 1) 96 25 [a0, a1, a2] [.ref s0, .ref s1, .ref s2] h = Rf (d + 1) 96 28 [a0, a1, a2] [.ref s2] h1 := clP (as := [.ref s0]) c96_25 rfl rfl (by simp [isV]) hr hq
theorem c96_28 : cd 96 28 = some (28, .astore_n 1, 1, []) := by decide +kernel
theorem x96_28 {d : Nat} {a0 a1 a2 : Value} {s0 : Nat} {h : AHp} : Rf d 96 28 [a0, a1, a2] [.ref s0] h = Rf d 96 29 [a0, .ref s0, a2] [] h := Rf_go ((stp_of c96_28).trans rfl)
theorem c96_29 : cd 96 29 = some (29, .aload_n 1, 1, []) := by decide +kernel
theorem x96_29 {d : Nat} {a0 a2 : Value} {x : Nat} {h : AHp} : Rf d 96 29 [a0, .ref x, a2] [] h = Rf d 96 30 [a0, .ref x, a2] [.ref x] h := Rf_go ((stp_of c96_29).trans rfl)
theorem c96_30 : cd 96 30 = some (30, .invokevirtual 63, 3, [(3, 13)]) := by decide +kernel
theorem xc96_30 {d : Nat} {a0 a1 a2 : Value} {s0 : Nat} {h : AHp} {h1 : AHp} {v : Int32} (hr : cls (h.1 s0) = 3) (hq : Rf d 13 0 [.ref s0, noV, noV] [] h = some (some (.int v), h1)) : Rf (d + 1) 96 30 [a0, a1, a2] [.ref s0] h = Rf (d + 1) 96 33 [a0, a1, a2] [.int v] h1 := clV (c := 13) (as := []) c96_30 rfl (by simp [isV]) (by rw [hr]; rfl) hq
theorem c96_33 : cd 96 33 = some (33, .istore_n 2, 1, []) := by decide +kernel
theorem x96_33 {d : Nat} {a0 a1 a2 : Value} {s0 : Int32} {h : AHp} : Rf d 96 33 [a0, a1, a2] [.int s0] h = Rf d 96 34 [a0, a1, .int s0] [] h := Rf_go ((stp_of c96_33).trans rfl)
theorem c96_34 : cd 96 34 = some (34, .iload_n 2, 1, []) := by decide +kernel
theorem x96_34 {d : Nat} {a0 a1 : Value} {x : Int32} {h : AHp} : Rf d 96 34 [a0, a1, .int x] [] h = Rf d 96 35 [a0, a1, .int x] [.int x] h := Rf_go ((stp_of c96_34).trans rfl)
theorem c96_35 : cd 96 35 = some (35, .iconst (-1), 1, []) := by decide +kernel
theorem x96_35 {d : Nat} {a0 a1 a2 : Value} {s0 : Int32} {h : AHp} : Rf d 96 35 [a0, a1, a2] [.int s0] h = Rf d 96 36 [a0, a1, a2] [.int (-1), .int s0] h := Rf_go ((stp_of c96_35).trans rfl)
theorem c96_36 : cd 96 36 = some (36, .if_icmp .ne 14, 3, [(50, 0)]) := by decide +kernel
theorem x96_36 {d : Nat} {a0 a1 a2 : Value} {s0 : Int32} {s1 : Int32} {h : AHp} : Rf d 96 36 [a0, a1, a2] [.int s0, .int s1] h = if s1 = s0 then Rf d 96 39 [a0, a1, a2] [] h else Rf d 96 50 [a0, a1, a2] [] h := Rf_brn ((stp_of c96_36).trans rfl)
theorem c96_50 : cd 96 50 = some (50, .bipush (-10), 2, []) := by decide +kernel
theorem x96_50 {d : Nat} {a0 a1 a2 : Value} {h : AHp} : Rf d 96 50 [a0, a1, a2] [] h = Rf d 96 52 [a0, a1, a2] [.int (-10)] h := Rf_go ((stp_of c96_50).trans rfl)
theorem c96_52 : cd 96 52 = some (52, .iload_n 2, 1, []) := by decide +kernel
theorem x96_52 {d : Nat} {a0 a1 : Value} {s0 : Int32} {x : Int32} {h : AHp} : Rf d 96 52 [a0, a1, .int x] [.int s0] h = Rf d 96 53 [a0, a1, .int x] [.int x, .int s0] h := Rf_go ((stp_of c96_52).trans rfl)
theorem c96_53 : cd 96 53 = some (53, .isub, 1, []) := by decide +kernel
theorem x96_53 {d : Nat} {a0 a1 a2 : Value} {s0 : Int32} {s1 : Int32} {h : AHp} : Rf d 96 53 [a0, a1, a2] [.int s0, .int s1] h = Rf d 96 54 [a0, a1, a2] [.int (s1 - s0)] h := Rf_go ((stp_of c96_53).trans rfl)
theorem c96_54 : cd 96 54 = some (54, .ireturn, 1, []) := by decide +kernel
theorem x96_54 {d : Nat} {a0 a1 a2 : Value} {s0 : Int32} {h : AHp} : Rf d 96 54 [a0, a1, a2] [.int s0] h = some (some (.int s0), h) := Rf_end (by rw [stp_of c96_54]; simp only [stpI]; rw [if_pos (show retI (mH 96).2.2.1 s0 = true from retI_int)])
theorem c96_39 : cd 96 39 = some (39, .aload_n 0, 1, []) := by decide +kernel
theorem x96_39 {d : Nat} {a1 a2 : Value} {x : Nat} {h : AHp} : Rf d 96 39 [.ref x, a1, a2] [] h = Rf d 96 40 [.ref x, a1, a2] [.ref x] h := Rf_go ((stp_of c96_39).trans rfl)
theorem c96_40 : cd 96 40 = some (40, .getfield 10, 3, [(11, 0)]) := by decide +kernel
theorem x96_40 {d : Nat} {a0 a1 a2 : Value} {s0 : Nat} {h : AHp} : Rf d 96 40 [a0, a1, a2] [.ref s0] h = if cls (h.1 s0) = 11 ∧ oKr (h.1 s0) 0 = true then Rf d 96 43 [a0, a1, a2] [.ref (oR (h.1 s0) 0)] h else Rx d 96 40 [a0, a1, a2] [.ref s0] h := getR c96_40
theorem c96_43 : cd 96 43 = some (43, .aload_n 1, 1, []) := by decide +kernel
theorem x96_43 {d : Nat} {a0 a2 : Value} {s0 : Nat} {x : Nat} {h : AHp} : Rf d 96 43 [a0, .ref x, a2] [.ref s0] h = Rf d 96 44 [a0, .ref x, a2] [.ref x, .ref s0] h := Rf_go ((stp_of c96_43).trans rfl)
theorem c96_44 : cd 96 44 = some (44, .invokevirtual 67, 3, [(6, 45)]) := by decide +kernel
theorem xc96_44 {d : Nat} {a0 a1 a2 : Value} {s0 : Nat} {s1 : Nat} {h : AHp} {h1 : AHp} {v : Int32} (hr : cls (h.1 s1) = 6) (hq : Rf d 45 0 [.ref s1, .ref s0] [] h = some (some (.int v), h1)) : Rf (d + 1) 96 44 [a0, a1, a2] [.ref s0, .ref s1] h = Rf (d + 1) 96 47 [a0, a1, a2] [.int v] h1 := clV (c := 45) (as := [.ref s0]) c96_44 rfl (by simp [isV]) (by rw [hr]; rfl) hq
theorem c96_47 : cd 96 47 = some (47, .goto 7, 3, [(54, 0)]) := by decide +kernel
theorem x96_47 {d : Nat} {a0 a1 a2 : Value} {s0 : Int32} {h : AHp} : Rf d 96 47 [a0, a1, a2] [.int s0] h = Rf d 96 54 [a0, a1, a2] [.int s0] h := Rf_go ((stp_of c96_47).trans rfl)
theorem c96_11 : cd 96 11 = some (11, .bipush (-4), 2, []) := by decide +kernel
theorem x96_11 {d : Nat} {a0 a1 a2 : Value} {h : AHp} : Rf d 96 11 [a0, a1, a2] [] h = Rf d 96 13 [a0, a1, a2] [.int (-4)] h := Rf_go ((stp_of c96_11).trans rfl)
theorem c96_13 : cd 96 13 = some (13, .ireturn, 1, []) := by decide +kernel
theorem x96_13 {d : Nat} {a0 a1 a2 : Value} {s0 : Int32} {h : AHp} : Rf d 96 13 [a0, a1, a2] [.int s0] h = some (some (.int s0), h) := Rf_end (by rw [stp_of c96_13]; simp only [stpI]; rw [if_pos (show retI (mH 96).2.2.1 s0 = true from retI_int)])
-- 97: X11_told
theorem c97_0 : cd 97 0 = some (0, .iload_n 1, 1, []) := by decide +kernel
theorem x97_0 {d : Nat} {a0 : Value} {x : Int32} {h : AHp} : Rf d 97 0 [a0, .int x] [] h = Rf d 97 1 [a0, .int x] [.int x] h := Rf_go ((stp_of c97_0).trans rfl)
theorem c97_1 : cd 97 1 = some (1, .tableswitch 93 0 5 #[39, 50, 61, 69, 77, 85], 39, [(0, 94), (0, 40), (1, 51), (2, 62), (3, 70), (4, 78), (5, 86)]) := by decide +kernel
theorem x97_1 {d : Nat} {a0 a1 : Value} {s0 : Int32} {h : AHp} : Rf d 97 1 [a0, a1] [.int s0] h = if s0 = 0 then Rf d 97 40 [a0, a1] [] h else (if s0 = 1 then Rf d 97 51 [a0, a1] [] h else (if s0 = 2 then Rf d 97 62 [a0, a1] [] h else (if s0 = 3 then Rf d 97 70 [a0, a1] [] h else (if s0 = 4 then Rf d 97 78 [a0, a1] [] h else (if s0 = 5 then Rf d 97 86 [a0, a1] [] h else (Rf d 97 94 [a0, a1] [] h)))))) := (swE (e := 94) c97_1 rfl).trans (by simp only [List.drop, swT, Rf_ite]; rfl)
theorem c97_86 : cd 97 86 = some (86, .aload_n 0, 1, []) := by decide +kernel
theorem x97_86 {d : Nat} {a1 : Value} {x : Nat} {h : AHp} : Rf d 97 86 [.ref x, a1] [] h = Rf d 97 87 [.ref x, a1] [.ref x] h := Rf_go ((stp_of c97_86).trans rfl)
theorem c97_87 : cd 97 87 = some (87, .getfield 10, 3, [(11, 0)]) := by decide +kernel
theorem x97_87 {d : Nat} {a0 a1 : Value} {s0 : Nat} {h : AHp} : Rf d 97 87 [a0, a1] [.ref s0] h = if cls (h.1 s0) = 11 ∧ oKr (h.1 s0) 0 = true then Rf d 97 90 [a0, a1] [.ref (oR (h.1 s0) 0)] h else Rx d 97 87 [a0, a1] [.ref s0] h := getR c97_87
theorem c97_90 : cd 97 90 = some (90, .invokevirtual 90, 3, [(6, 50)]) := by decide +kernel
theorem xc97_90 {d : Nat} {a0 a1 : Value} {s0 : Nat} {h : AHp} {h1 : AHp} {v : Int32} (hr : cls (h.1 s0) = 6) (hq : Rf d 50 0 [.ref s0, noV, noV] [] h = some (some (.int v), h1)) : Rf (d + 1) 97 90 [a0, a1] [.ref s0] h = Rf (d + 1) 97 93 [a0, a1] [.int v] h1 := clV (c := 50) (as := []) c97_90 rfl (by simp [isV]) (by rw [hr]; rfl) hq
theorem c97_93 : cd 97 93 = some (93, .ireturn, 1, []) := by decide +kernel
theorem x97_93 {d : Nat} {a0 a1 : Value} {s0 : Int32} {h : AHp} : Rf d 97 93 [a0, a1] [.int s0] h = some (some (.int s0), h) := Rf_end (by rw [stp_of c97_93]; simp only [stpI]; rw [if_pos (show retI (mH 97).2.2.1 s0 = true from retI_int)])
theorem c97_78 : cd 97 78 = some (78, .aload_n 0, 1, []) := by decide +kernel
theorem x97_78 {d : Nat} {a1 : Value} {x : Nat} {h : AHp} : Rf d 97 78 [.ref x, a1] [] h = Rf d 97 79 [.ref x, a1] [.ref x] h := Rf_go ((stp_of c97_78).trans rfl)
theorem c97_79 : cd 97 79 = some (79, .getfield 10, 3, [(11, 0)]) := by decide +kernel
theorem x97_79 {d : Nat} {a0 a1 : Value} {s0 : Nat} {h : AHp} : Rf d 97 79 [a0, a1] [.ref s0] h = if cls (h.1 s0) = 11 ∧ oKr (h.1 s0) 0 = true then Rf d 97 82 [a0, a1] [.ref (oR (h.1 s0) 0)] h else Rx d 97 79 [a0, a1] [.ref s0] h := getR c97_79
theorem c97_82 : cd 97 82 = some (82, .invokevirtual 87, 3, [(6, 65)]) := by decide +kernel
theorem xc97_82 {d : Nat} {a0 a1 : Value} {s0 : Nat} {h : AHp} {h1 : AHp} {v : Int32} (hr : cls (h.1 s0) = 6) (hq : Rf d 65 0 [.ref s0, noV, noV] [] h = some (some (.int v), h1)) : Rf (d + 1) 97 82 [a0, a1] [.ref s0] h = Rf (d + 1) 97 85 [a0, a1] [.int v] h1 := clV (c := 65) (as := []) c97_82 rfl (by simp [isV]) (by rw [hr]; rfl) hq
theorem c97_85 : cd 97 85 = some (85, .ireturn, 1, []) := by decide +kernel
theorem x97_85 {d : Nat} {a0 a1 : Value} {s0 : Int32} {h : AHp} : Rf d 97 85 [a0, a1] [.int s0] h = some (some (.int s0), h) := Rf_end (by rw [stp_of c97_85]; simp only [stpI]; rw [if_pos (show retI (mH 97).2.2.1 s0 = true from retI_int)])
theorem c97_70 : cd 97 70 = some (70, .aload_n 0, 1, []) := by decide +kernel
theorem x97_70 {d : Nat} {a1 : Value} {x : Nat} {h : AHp} : Rf d 97 70 [.ref x, a1] [] h = Rf d 97 71 [.ref x, a1] [.ref x] h := Rf_go ((stp_of c97_70).trans rfl)
theorem c97_71 : cd 97 71 = some (71, .getfield 10, 3, [(11, 0)]) := by decide +kernel
theorem x97_71 {d : Nat} {a0 a1 : Value} {s0 : Nat} {h : AHp} : Rf d 97 71 [a0, a1] [.ref s0] h = if cls (h.1 s0) = 11 ∧ oKr (h.1 s0) 0 = true then Rf d 97 74 [a0, a1] [.ref (oR (h.1 s0) 0)] h else Rx d 97 71 [a0, a1] [.ref s0] h := getR c97_71
theorem c97_74 : cd 97 74 = some (74, .getfield 84, 3, [(6, 9)]) := by decide +kernel
theorem x97_74 {d : Nat} {a0 a1 : Value} {s0 : Nat} {h : AHp} : Rf d 97 74 [a0, a1] [.ref s0] h = if cls (h.1 s0) = 6 ∧ oKi (h.1 s0) 9 = true then Rf d 97 77 [a0, a1] [.int (oN (h.1 s0) 9)] h else Rx d 97 74 [a0, a1] [.ref s0] h := getI c97_74
theorem c97_77 : cd 97 77 = some (77, .ireturn, 1, []) := by decide +kernel
theorem x97_77 {d : Nat} {a0 a1 : Value} {s0 : Int32} {h : AHp} : Rf d 97 77 [a0, a1] [.int s0] h = some (some (.int s0), h) := Rf_end (by rw [stp_of c97_77]; simp only [stpI]; rw [if_pos (show retI (mH 97).2.2.1 s0 = true from retI_int)])
theorem c97_62 : cd 97 62 = some (62, .aload_n 0, 1, []) := by decide +kernel
theorem x97_62 {d : Nat} {a1 : Value} {x : Nat} {h : AHp} : Rf d 97 62 [.ref x, a1] [] h = Rf d 97 63 [.ref x, a1] [.ref x] h := Rf_go ((stp_of c97_62).trans rfl)
theorem c97_63 : cd 97 63 = some (63, .getfield 10, 3, [(11, 0)]) := by decide +kernel
theorem x97_63 {d : Nat} {a0 a1 : Value} {s0 : Nat} {h : AHp} : Rf d 97 63 [a0, a1] [.ref s0] h = if cls (h.1 s0) = 11 ∧ oKr (h.1 s0) 0 = true then Rf d 97 66 [a0, a1] [.ref (oR (h.1 s0) 0)] h else Rx d 97 63 [a0, a1] [.ref s0] h := getR c97_63
theorem c97_66 : cd 97 66 = some (66, .getfield 81, 3, [(6, 8)]) := by decide +kernel
theorem x97_66 {d : Nat} {a0 a1 : Value} {s0 : Nat} {h : AHp} : Rf d 97 66 [a0, a1] [.ref s0] h = if cls (h.1 s0) = 6 ∧ oKi (h.1 s0) 8 = true then Rf d 97 69 [a0, a1] [.int (oN (h.1 s0) 8)] h else Rx d 97 66 [a0, a1] [.ref s0] h := getI c97_66
theorem c97_69 : cd 97 69 = some (69, .ireturn, 1, []) := by decide +kernel
theorem x97_69 {d : Nat} {a0 a1 : Value} {s0 : Int32} {h : AHp} : Rf d 97 69 [a0, a1] [.int s0] h = some (some (.int s0), h) := Rf_end (by rw [stp_of c97_69]; simp only [stpI]; rw [if_pos (show retI (mH 97).2.2.1 s0 = true from retI_int)])
theorem c97_51 : cd 97 51 = some (51, .aload_n 0, 1, []) := by decide +kernel
theorem x97_51 {d : Nat} {a1 : Value} {x : Nat} {h : AHp} : Rf d 97 51 [.ref x, a1] [] h = Rf d 97 52 [.ref x, a1] [.ref x] h := Rf_go ((stp_of c97_51).trans rfl)
theorem c97_52 : cd 97 52 = some (52, .getfield 10, 3, [(11, 0)]) := by decide +kernel
theorem x97_52 {d : Nat} {a0 a1 : Value} {s0 : Nat} {h : AHp} : Rf d 97 52 [a0, a1] [.ref s0] h = if cls (h.1 s0) = 11 ∧ oKr (h.1 s0) 0 = true then Rf d 97 55 [a0, a1] [.ref (oR (h.1 s0) 0)] h else Rx d 97 52 [a0, a1] [.ref s0] h := getR c97_52
theorem c97_55 : cd 97 55 = some (55, .getfield 71, 3, [(6, 11)]) := by decide +kernel
theorem x97_55 {d : Nat} {a0 a1 : Value} {s0 : Nat} {h : AHp} : Rf d 97 55 [a0, a1] [.ref s0] h = if cls (h.1 s0) = 6 ∧ oKr (h.1 s0) 11 = true then Rf d 97 58 [a0, a1] [.ref (oR (h.1 s0) 11)] h else Rx d 97 55 [a0, a1] [.ref s0] h := getR c97_55
theorem c97_58 : cd 97 58 = some (58, .getfield 78, 3, [(3, 1)]) := by decide +kernel
theorem x97_58 {d : Nat} {a0 a1 : Value} {s0 : Nat} {h : AHp} : Rf d 97 58 [a0, a1] [.ref s0] h = if cls (h.1 s0) = 3 ∧ oKi (h.1 s0) 1 = true then Rf d 97 61 [a0, a1] [.int (oN (h.1 s0) 1)] h else Rx d 97 58 [a0, a1] [.ref s0] h := getI c97_58
theorem c97_61 : cd 97 61 = some (61, .ireturn, 1, []) := by decide +kernel
theorem x97_61 {d : Nat} {a0 a1 : Value} {s0 : Int32} {h : AHp} : Rf d 97 61 [a0, a1] [.int s0] h = some (some (.int s0), h) := Rf_end (by rw [stp_of c97_61]; simp only [stpI]; rw [if_pos (show retI (mH 97).2.2.1 s0 = true from retI_int)])
theorem c97_40 : cd 97 40 = some (40, .aload_n 0, 1, []) := by decide +kernel
theorem x97_40 {d : Nat} {a1 : Value} {x : Nat} {h : AHp} : Rf d 97 40 [.ref x, a1] [] h = Rf d 97 41 [.ref x, a1] [.ref x] h := Rf_go ((stp_of c97_40).trans rfl)
theorem c97_41 : cd 97 41 = some (41, .getfield 10, 3, [(11, 0)]) := by decide +kernel
theorem x97_41 {d : Nat} {a0 a1 : Value} {s0 : Nat} {h : AHp} : Rf d 97 41 [a0, a1] [.ref s0] h = if cls (h.1 s0) = 11 ∧ oKr (h.1 s0) 0 = true then Rf d 97 44 [a0, a1] [.ref (oR (h.1 s0) 0)] h else Rx d 97 41 [a0, a1] [.ref s0] h := getR c97_41
theorem c97_44 : cd 97 44 = some (44, .getfield 71, 3, [(6, 11)]) := by decide +kernel
theorem x97_44 {d : Nat} {a0 a1 : Value} {s0 : Nat} {h : AHp} : Rf d 97 44 [a0, a1] [.ref s0] h = if cls (h.1 s0) = 6 ∧ oKr (h.1 s0) 11 = true then Rf d 97 47 [a0, a1] [.ref (oR (h.1 s0) 11)] h else Rx d 97 44 [a0, a1] [.ref s0] h := getR c97_44
theorem c97_47 : cd 97 47 = some (47, .getfield 75, 3, [(3, 0)]) := by decide +kernel
theorem x97_47 {d : Nat} {a0 a1 : Value} {s0 : Nat} {h : AHp} : Rf d 97 47 [a0, a1] [.ref s0] h = if cls (h.1 s0) = 3 ∧ oKi (h.1 s0) 0 = true then Rf d 97 50 [a0, a1] [.int (oN (h.1 s0) 0)] h else Rx d 97 47 [a0, a1] [.ref s0] h := getI c97_47
theorem c97_50 : cd 97 50 = some (50, .ireturn, 1, []) := by decide +kernel
theorem x97_50 {d : Nat} {a0 a1 : Value} {s0 : Int32} {h : AHp} : Rf d 97 50 [a0, a1] [.int s0] h = some (some (.int s0), h) := Rf_end (by rw [stp_of c97_50]; simp only [stpI]; rw [if_pos (show retI (mH 97).2.2.1 s0 = true from retI_int)])
theorem c97_94 : cd 97 94 = some (94, .sipush (-10001), 3, []) := by decide +kernel
theorem x97_94 {d : Nat} {a0 a1 : Value} {h : AHp} : Rf d 97 94 [a0, a1] [] h = Rf d 97 97 [a0, a1] [.int (-10001)] h := Rf_go ((stp_of c97_94).trans rfl)
theorem c97_97 : cd 97 97 = some (97, .ireturn, 1, []) := by decide +kernel
theorem x97_97 {d : Nat} {a0 a1 : Value} {s0 : Int32} {h : AHp} : Rf d 97 97 [a0, a1] [.int s0] h = some (some (.int s0), h) := Rf_end (by rw [stp_of c97_97]; simp only [stpI]; rw [if_pos (show retI (mH 97).2.2.1 s0 = true from retI_int)])
-- 98: X11_worker
theorem c98_0 : cd 98 0 = some (0, .iload_n 1, 1, []) := by decide +kernel
theorem x98_0 {d : Nat} {a0 a2 a3 a4 : Value} {x : Int32} {h : AHp} : Rf d 98 0 [a0, .int x, a2, a3, a4] [] h = Rf d 98 1 [a0, .int x, a2, a3, a4] [.int x] h := Rf_go ((stp_of c98_0).trans rfl)
theorem c98_1 : cd 98 1 = some (1, .bipush 9, 2, []) := by decide +kernel
theorem x98_1 {d : Nat} {a0 a1 a2 a3 a4 : Value} {s0 : Int32} {h : AHp} : Rf d 98 1 [a0, a1, a2, a3, a4] [.int s0] h = Rf d 98 3 [a0, a1, a2, a3, a4] [.int 9, .int s0] h := Rf_go ((stp_of c98_1).trans rfl)
theorem c98_3 : cd 98 3 = some (3, .invokestatic 39, 3, [(0, 129)]) := by decide +kernel
theorem xc98_3 {d : Nat} {a0 a1 a2 a3 a4 : Value} {s0 : Int32} {s1 : Int32} {h : AHp} {h1 : AHp} {v : Int32} (hq : Rf d 129 0 [.int s1, .int s0] [] h = some (some (.int v), h1)) : Rf (d + 1) 98 3 [a0, a1, a2, a3, a4] [.int s0, .int s1] h = Rf (d + 1) 98 6 [a0, a1, a2, a3, a4] [.int v] h1 := clS (as := [.int s1, .int s0]) c98_3 rfl rfl (by simp [isV]) hq
theorem c98_6 : cd 98 6 = some (6, .ifCond .eq 12, 3, [(18, 0)]) := by decide +kernel
theorem x98_6 {d : Nat} {a0 a1 a2 a3 a4 : Value} {s0 : Int32} {h : AHp} : Rf d 98 6 [a0, a1, a2, a3, a4] [.int s0] h = if s0 = 0 then Rf d 98 18 [a0, a1, a2, a3, a4] [] h else Rf d 98 9 [a0, a1, a2, a3, a4] [] h := Rf_brd ((stp_of c98_6).trans rfl)
theorem c98_18 : cd 98 18 = some (18, .iconst (-1), 1, []) := by decide +kernel
theorem x98_18 {d : Nat} {a0 a1 a2 a3 a4 : Value} {h : AHp} : Rf d 98 18 [a0, a1, a2, a3, a4] [] h = Rf d 98 19 [a0, a1, a2, a3, a4] [.int (-1)] h := Rf_go ((stp_of c98_18).trans rfl)
theorem c98_19 : cd 98 19 = some (19, .ireturn, 1, []) := by decide +kernel
theorem x98_19 {d : Nat} {a0 a1 a2 a3 a4 : Value} {s0 : Int32} {h : AHp} : Rf d 98 19 [a0, a1, a2, a3, a4] [.int s0] h = some (some (.int s0), h) := Rf_end (by rw [stp_of c98_19]; simp only [stpI]; rw [if_pos (show retI (mH 98).2.2.1 s0 = true from retI_int)])
theorem c98_9 : cd 98 9 = some (9, .iload 4, 2, []) := by decide +kernel
theorem x98_9 {d : Nat} {a0 a1 a2 a3 : Value} {x : Int32} {h : AHp} : Rf d 98 9 [a0, a1, a2, a3, .int x] [] h = Rf d 98 11 [a0, a1, a2, a3, .int x] [.int x] h := Rf_go ((stp_of c98_9).trans rfl)
theorem c98_11 : cd 98 11 = some (11, .iconst 1, 1, []) := by decide +kernel
theorem x98_11 {d : Nat} {a0 a1 a2 a3 a4 : Value} {s0 : Int32} {h : AHp} : Rf d 98 11 [a0, a1, a2, a3, a4] [.int s0] h = Rf d 98 12 [a0, a1, a2, a3, a4] [.int 1, .int s0] h := Rf_go ((stp_of c98_11).trans rfl)
theorem c98_12 : cd 98 12 = some (12, .invokestatic 39, 3, [(0, 129)]) := by decide +kernel
theorem xc98_12 {d : Nat} {a0 a1 a2 a3 a4 : Value} {s0 : Int32} {s1 : Int32} {h : AHp} {h1 : AHp} {v : Int32} (hq : Rf d 129 0 [.int s1, .int s0] [] h = some (some (.int v), h1)) : Rf (d + 1) 98 12 [a0, a1, a2, a3, a4] [.int s0, .int s1] h = Rf (d + 1) 98 15 [a0, a1, a2, a3, a4] [.int v] h1 := clS (as := [.int s1, .int s0]) c98_12 rfl rfl (by simp [isV]) hq
theorem c98_15 : cd 98 15 = some (15, .ifCond .ne 5, 3, [(20, 0)]) := by decide +kernel
theorem x98_15 {d : Nat} {a0 a1 a2 a3 a4 : Value} {s0 : Int32} {h : AHp} : Rf d 98 15 [a0, a1, a2, a3, a4] [.int s0] h = if s0 = 0 then Rf d 98 18 [a0, a1, a2, a3, a4] [] h else Rf d 98 20 [a0, a1, a2, a3, a4] [] h := Rf_brn ((stp_of c98_15).trans rfl)
theorem c98_20 : cd 98 20 = some (20, .iload_n 2, 1, []) := by decide +kernel
theorem x98_20 {d : Nat} {a0 a1 a3 a4 : Value} {x : Int32} {h : AHp} : Rf d 98 20 [a0, a1, .int x, a3, a4] [] h = Rf d 98 21 [a0, a1, .int x, a3, a4] [.int x] h := Rf_go ((stp_of c98_20).trans rfl)
theorem c98_21 : cd 98 21 = some (21, .sipush 999, 3, []) := by decide +kernel
theorem x98_21 {d : Nat} {a0 a1 a2 a3 a4 : Value} {s0 : Int32} {h : AHp} : Rf d 98 21 [a0, a1, a2, a3, a4] [.int s0] h = Rf d 98 24 [a0, a1, a2, a3, a4] [.int 999, .int s0] h := Rf_go ((stp_of c98_21).trans rfl)
theorem c98_24 : cd 98 24 = some (24, .invokestatic 39, 3, [(0, 129)]) := by decide +kernel
theorem xc98_24 {d : Nat} {a0 a1 a2 a3 a4 : Value} {s0 : Int32} {s1 : Int32} {h : AHp} {h1 : AHp} {v : Int32} (hq : Rf d 129 0 [.int s1, .int s0] [] h = some (some (.int v), h1)) : Rf (d + 1) 98 24 [a0, a1, a2, a3, a4] [.int s0, .int s1] h = Rf (d + 1) 98 27 [a0, a1, a2, a3, a4] [.int v] h1 := clS (as := [.int s1, .int s0]) c98_24 rfl rfl (by simp [isV]) hq
theorem c98_27 : cd 98 27 = some (27, .ifCond .eq 13, 3, [(40, 0)]) := by decide +kernel
theorem x98_27 {d : Nat} {a0 a1 a2 a3 a4 : Value} {s0 : Int32} {h : AHp} : Rf d 98 27 [a0, a1, a2, a3, a4] [.int s0] h = if s0 = 0 then Rf d 98 40 [a0, a1, a2, a3, a4] [] h else Rf d 98 30 [a0, a1, a2, a3, a4] [] h := Rf_brd ((stp_of c98_27).trans rfl)
theorem c98_40 : cd 98 40 = some (40, .bipush (-2), 2, []) := by decide +kernel
theorem x98_40 {d : Nat} {a0 a1 a2 a3 a4 : Value} {h : AHp} : Rf d 98 40 [a0, a1, a2, a3, a4] [] h = Rf d 98 42 [a0, a1, a2, a3, a4] [.int (-2)] h := Rf_go ((stp_of c98_40).trans rfl)
theorem c98_42 : cd 98 42 = some (42, .ireturn, 1, []) := by decide +kernel
theorem x98_42 {d : Nat} {a0 a1 a2 a3 a4 : Value} {s0 : Int32} {h : AHp} : Rf d 98 42 [a0, a1, a2, a3, a4] [.int s0] h = some (some (.int s0), h) := Rf_end (by rw [stp_of c98_42]; simp only [stpI]; rw [if_pos (show retI (mH 98).2.2.1 s0 = true from retI_int)])
theorem c98_30 : cd 98 30 = some (30, .iload_n 3, 1, []) := by decide +kernel
theorem x98_30 {d : Nat} {a0 a1 a2 a4 : Value} {x : Int32} {h : AHp} : Rf d 98 30 [a0, a1, a2, .int x, a4] [] h = Rf d 98 31 [a0, a1, a2, .int x, a4] [.int x] h := Rf_go ((stp_of c98_30).trans rfl)
theorem c98_31 : cd 98 31 = some (31, .sipush 999, 3, []) := by decide +kernel
theorem x98_31 {d : Nat} {a0 a1 a2 a3 a4 : Value} {s0 : Int32} {h : AHp} : Rf d 98 31 [a0, a1, a2, a3, a4] [.int s0] h = Rf d 98 34 [a0, a1, a2, a3, a4] [.int 999, .int s0] h := Rf_go ((stp_of c98_31).trans rfl)
theorem c98_34 : cd 98 34 = some (34, .invokestatic 39, 3, [(0, 129)]) := by decide +kernel
theorem xc98_34 {d : Nat} {a0 a1 a2 a3 a4 : Value} {s0 : Int32} {s1 : Int32} {h : AHp} {h1 : AHp} {v : Int32} (hq : Rf d 129 0 [.int s1, .int s0] [] h = some (some (.int v), h1)) : Rf (d + 1) 98 34 [a0, a1, a2, a3, a4] [.int s0, .int s1] h = Rf (d + 1) 98 37 [a0, a1, a2, a3, a4] [.int v] h1 := clS (as := [.int s1, .int s0]) c98_34 rfl rfl (by simp [isV]) hq
theorem c98_37 : cd 98 37 = some (37, .ifCond .ne 6, 3, [(43, 0)]) := by decide +kernel
theorem x98_37 {d : Nat} {a0 a1 a2 a3 a4 : Value} {s0 : Int32} {h : AHp} : Rf d 98 37 [a0, a1, a2, a3, a4] [.int s0] h = if s0 = 0 then Rf d 98 40 [a0, a1, a2, a3, a4] [] h else Rf d 98 43 [a0, a1, a2, a3, a4] [] h := Rf_brn ((stp_of c98_37).trans rfl)
theorem c98_43 : cd 98 43 = some (43, .aload_n 0, 1, []) := by decide +kernel
theorem x98_43 {d : Nat} {a1 a2 a3 a4 : Value} {x : Nat} {h : AHp} : Rf d 98 43 [.ref x, a1, a2, a3, a4] [] h = Rf d 98 44 [.ref x, a1, a2, a3, a4] [.ref x] h := Rf_go ((stp_of c98_43).trans rfl)
theorem c98_44 : cd 98 44 = some (44, .getfield 10, 3, [(11, 0)]) := by decide +kernel
theorem x98_44 {d : Nat} {a0 a1 a2 a3 a4 : Value} {s0 : Nat} {h : AHp} : Rf d 98 44 [a0, a1, a2, a3, a4] [.ref s0] h = if cls (h.1 s0) = 11 ∧ oKr (h.1 s0) 0 = true then Rf d 98 47 [a0, a1, a2, a3, a4] [.ref (oR (h.1 s0) 0)] h else Rx d 98 44 [a0, a1, a2, a3, a4] [.ref s0] h := getR c98_44
theorem c98_47 : cd 98 47 = some (47, .getfield 93, 3, [(6, 2)]) := by decide +kernel
theorem x98_47 {d : Nat} {a0 a1 a2 a3 a4 : Value} {s0 : Nat} {h : AHp} : Rf d 98 47 [a0, a1, a2, a3, a4] [.ref s0] h = if cls (h.1 s0) = 6 ∧ oKr (h.1 s0) 2 = true then Rf d 98 50 [a0, a1, a2, a3, a4] [.ref (oR (h.1 s0) 2)] h else Rx d 98 47 [a0, a1, a2, a3, a4] [.ref s0] h := getR c98_47
theorem c98_50 : cd 98 50 = some (50, .iload_n 1, 1, []) := by decide +kernel
theorem x98_50 {d : Nat} {a0 a2 a3 a4 : Value} {s0 : Nat} {x : Int32} {h : AHp} : Rf d 98 50 [a0, .int x, a2, a3, a4] [.ref s0] h = Rf d 98 51 [a0, .int x, a2, a3, a4] [.int x, .ref s0] h := Rf_go ((stp_of c98_50).trans rfl)
theorem c98_51 : cd 98 51 = some (51, .iaload, 1, []) := by decide +kernel
theorem x98_51 {d : Nat} {a0 a1 a2 a3 a4 : Value} {s0 : Int32} {s1 : Nat} {h : AHp} : Rf d 98 51 [a0, a1, a2, a3, a4] [.int s0, .ref s1] h = if (aT (h.1 s1) = 0 ∨ aT (h.1 s1) = 10) ∧ inB s0 (aN (h.1 s1)) = true then Rf d 98 52 [a0, a1, a2, a3, a4] [.int (aF (h.1 s1) s0.toNatClampNeg)] h else Rx d 98 51 [a0, a1, a2, a3, a4] [.int s0, .ref s1] h := ldI c98_51
theorem c98_52 : cd 98 52 = some (52, .iconst (-1), 1, []) := by decide +kernel
theorem x98_52 {d : Nat} {a0 a1 a2 a3 a4 : Value} {s0 : Int32} {h : AHp} : Rf d 98 52 [a0, a1, a2, a3, a4] [.int s0] h = Rf d 98 53 [a0, a1, a2, a3, a4] [.int (-1), .int s0] h := Rf_go ((stp_of c98_52).trans rfl)
theorem c98_53 : cd 98 53 = some (53, .if_icmp .eq 6, 3, [(59, 0)]) := by decide +kernel
theorem x98_53 {d : Nat} {a0 a1 a2 a3 a4 : Value} {s0 : Int32} {s1 : Int32} {h : AHp} : Rf d 98 53 [a0, a1, a2, a3, a4] [.int s0, .int s1] h = if s1 = s0 then Rf d 98 59 [a0, a1, a2, a3, a4] [] h else Rf d 98 56 [a0, a1, a2, a3, a4] [] h := Rf_brd ((stp_of c98_53).trans rfl)
theorem c98_59 : cd 98 59 = some (59, .aload_n 0, 1, []) := by decide +kernel
theorem x98_59 {d : Nat} {a1 a2 a3 a4 : Value} {x : Nat} {h : AHp} : Rf d 98 59 [.ref x, a1, a2, a3, a4] [] h = Rf d 98 60 [.ref x, a1, a2, a3, a4] [.ref x] h := Rf_go ((stp_of c98_59).trans rfl)
theorem c98_60 : cd 98 60 = some (60, .getfield 10, 3, [(11, 0)]) := by decide +kernel
theorem x98_60 {d : Nat} {a0 a1 a2 a3 a4 : Value} {s0 : Nat} {h : AHp} : Rf d 98 60 [a0, a1, a2, a3, a4] [.ref s0] h = if cls (h.1 s0) = 11 ∧ oKr (h.1 s0) 0 = true then Rf d 98 63 [a0, a1, a2, a3, a4] [.ref (oR (h.1 s0) 0)] h else Rx d 98 60 [a0, a1, a2, a3, a4] [.ref s0] h := getR c98_60
theorem c98_63 : cd 98 63 = some (63, .getfield 97, 3, [(6, 0)]) := by decide +kernel
theorem x98_63 {d : Nat} {a0 a1 a2 a3 a4 : Value} {s0 : Nat} {h : AHp} : Rf d 98 63 [a0, a1, a2, a3, a4] [.ref s0] h = if cls (h.1 s0) = 6 ∧ oKi (h.1 s0) 0 = true then Rf d 98 66 [a0, a1, a2, a3, a4] [.int (oN (h.1 s0) 0)] h else Rx d 98 63 [a0, a1, a2, a3, a4] [.ref s0] h := getI c98_63
theorem c98_66 : cd 98 66 = some (66, .bipush 10, 2, []) := by decide +kernel
theorem x98_66 {d : Nat} {a0 a1 a2 a3 a4 : Value} {s0 : Int32} {h : AHp} : Rf d 98 66 [a0, a1, a2, a3, a4] [.int s0] h = Rf d 98 68 [a0, a1, a2, a3, a4] [.int 10, .int s0] h := Rf_go ((stp_of c98_66).trans rfl)
theorem c98_68 : cd 98 68 = some (68, .if_icmp .lt 8, 3, [(76, 0)]) := by decide +kernel
theorem x98_68 {d : Nat} {a0 a1 a2 a3 a4 : Value} {s0 : Int32} {s1 : Int32} {h : AHp} : Rf d 98 68 [a0, a1, a2, a3, a4] [.int s0, .int s1] h = if s1 < s0 then Rf d 98 76 [a0, a1, a2, a3, a4] [] h else Rf d 98 71 [a0, a1, a2, a3, a4] [] h := Rf_brd ((stp_of c98_68).trans rfl)
theorem c98_76 : cd 98 76 = some (76, .aload_n 0, 1, []) := by decide +kernel
theorem x98_76 {d : Nat} {a1 a2 a3 a4 : Value} {x : Nat} {h : AHp} : Rf d 98 76 [.ref x, a1, a2, a3, a4] [] h = Rf d 98 77 [.ref x, a1, a2, a3, a4] [.ref x] h := Rf_go ((stp_of c98_76).trans rfl)
theorem c98_77 : cd 98 77 = some (77, .getfield 10, 3, [(11, 0)]) := by decide +kernel
theorem x98_77 {d : Nat} {a0 a1 a2 a3 a4 : Value} {s0 : Nat} {h : AHp} : Rf d 98 77 [a0, a1, a2, a3, a4] [.ref s0] h = if cls (h.1 s0) = 11 ∧ oKr (h.1 s0) 0 = true then Rf d 98 80 [a0, a1, a2, a3, a4] [.ref (oR (h.1 s0) 0)] h else Rx d 98 77 [a0, a1, a2, a3, a4] [.ref s0] h := getR c98_77
theorem c98_80 : cd 98 80 = some (80, .iload_n 1, 1, []) := by decide +kernel
theorem x98_80 {d : Nat} {a0 a2 a3 a4 : Value} {s0 : Nat} {x : Int32} {h : AHp} : Rf d 98 80 [a0, .int x, a2, a3, a4] [.ref s0] h = Rf d 98 81 [a0, .int x, a2, a3, a4] [.int x, .ref s0] h := Rf_go ((stp_of c98_80).trans rfl)
theorem c98_81 : cd 98 81 = some (81, .iload_n 2, 1, []) := by decide +kernel
theorem x98_81 {d : Nat} {a0 a1 a3 a4 : Value} {s0 : Int32} {s1 : Nat} {x : Int32} {h : AHp} : Rf d 98 81 [a0, a1, .int x, a3, a4] [.int s0, .ref s1] h = Rf d 98 82 [a0, a1, .int x, a3, a4] [.int x, .int s0, .ref s1] h := Rf_go ((stp_of c98_81).trans rfl)
theorem c98_82 : cd 98 82 = some (82, .iload_n 3, 1, []) := by decide +kernel
theorem x98_82 {d : Nat} {a0 a1 a2 a4 : Value} {s0 : Int32} {s1 : Int32} {s2 : Nat} {x : Int32} {h : AHp} : Rf d 98 82 [a0, a1, a2, .int x, a4] [.int s0, .int s1, .ref s2] h = Rf d 98 83 [a0, a1, a2, .int x, a4] [.int x, .int s0, .int s1, .ref s2] h := Rf_go ((stp_of c98_82).trans rfl)
theorem c98_83 : cd 98 83 = some (83, .iload 4, 2, []) := by decide +kernel
theorem x98_83 {d : Nat} {a0 a1 a2 a3 : Value} {s0 : Int32} {s1 : Int32} {s2 : Int32} {s3 : Nat} {x : Int32} {h : AHp} : Rf d 98 83 [a0, a1, a2, a3, .int x] [.int s0, .int s1, .int s2, .ref s3] h = Rf d 98 85 [a0, a1, a2, a3, .int x] [.int x, .int s0, .int s1, .int s2, .ref s3] h := Rf_go ((stp_of c98_83).trans rfl)
theorem c98_85 : cd 98 85 = some (85, .invokevirtual 100, 3, [(6, 43)]) := by decide +kernel
theorem xc98_85 {d : Nat} {a0 a1 a2 a3 a4 : Value} {s0 : Int32} {s1 : Int32} {s2 : Int32} {s3 : Int32} {s4 : Nat} {h : AHp} {h1 : AHp} {v : Int32} (hr : cls (h.1 s4) = 6) (hq : Rf d 43 0 [.ref s4, .int s3, .int s2, .int s1, .int s0, noV] [] h = some (some (.int v), h1)) : Rf (d + 1) 98 85 [a0, a1, a2, a3, a4] [.int s0, .int s1, .int s2, .int s3, .ref s4] h = Rf (d + 1) 98 88 [a0, a1, a2, a3, a4] [.int v] h1 := clV (c := 43) (as := [.int s3, .int s2, .int s1, .int s0]) c98_85 rfl (by simp [isV]) (by rw [hr]; rfl) hq
theorem c98_88 : cd 98 88 = some (88, .ireturn, 1, []) := by decide +kernel
theorem x98_88 {d : Nat} {a0 a1 a2 a3 a4 : Value} {s0 : Int32} {h : AHp} : Rf d 98 88 [a0, a1, a2, a3, a4] [.int s0] h = some (some (.int s0), h) := Rf_end (by rw [stp_of c98_88]; simp only [stpI]; rw [if_pos (show retI (mH 98).2.2.1 s0 = true from retI_int)])
theorem c98_71 : cd 98 71 = some (71, .bipush (-4), 2, []) := by decide +kernel
theorem x98_71 {d : Nat} {a0 a1 a2 a3 a4 : Value} {h : AHp} : Rf d 98 71 [a0, a1, a2, a3, a4] [] h = Rf d 98 73 [a0, a1, a2, a3, a4] [.int (-4)] h := Rf_go ((stp_of c98_71).trans rfl)
theorem c98_73 : cd 98 73 = some (73, .goto 15, 3, [(88, 0)]) := by decide +kernel
theorem x98_73 {d : Nat} {a0 a1 a2 a3 a4 : Value} {s0 : Int32} {h : AHp} : Rf d 98 73 [a0, a1, a2, a3, a4] [.int s0] h = Rf d 98 88 [a0, a1, a2, a3, a4] [.int s0] h := Rf_go ((stp_of c98_73).trans rfl)
theorem c98_56 : cd 98 56 = some (56, .bipush (-3), 2, []) := by decide +kernel
theorem x98_56 {d : Nat} {a0 a1 a2 a3 a4 : Value} {h : AHp} : Rf d 98 56 [a0, a1, a2, a3, a4] [] h = Rf d 98 58 [a0, a1, a2, a3, a4] [.int (-3)] h := Rf_go ((stp_of c98_56).trans rfl)
theorem c98_58 : cd 98 58 = some (58, .ireturn, 1, []) := by decide +kernel
theorem x98_58 {d : Nat} {a0 a1 a2 a3 a4 : Value} {s0 : Int32} {h : AHp} : Rf d 98 58 [a0, a1, a2, a3, a4] [.int s0] h = some (some (.int s0), h) := Rf_end (by rw [stp_of c98_58]; simp only [stpI]; rw [if_pos (show retI (mH 98).2.2.1 s0 = true from retI_int)])
-- 99: X11_knowing
theorem c99_0 : cd 99 0 = some (0, .aload_n 0, 1, []) := by decide +kernel
theorem x99_0 {d : Nat} {a1 a2 a3 : Value} {x : Nat} {h : AHp} : Rf d 99 0 [.ref x, a1, a2, a3] [] h = Rf d 99 1 [.ref x, a1, a2, a3] [.ref x] h := Rf_go ((stp_of c99_0).trans rfl)
theorem c99_1 : cd 99 1 = some (1, .getfield 10, 3, [(11, 0)]) := by decide +kernel
theorem x99_1 {d : Nat} {a0 a1 a2 a3 : Value} {s0 : Nat} {h : AHp} : Rf d 99 1 [a0, a1, a2, a3] [.ref s0] h = if cls (h.1 s0) = 11 ∧ oKr (h.1 s0) 0 = true then Rf d 99 4 [a0, a1, a2, a3] [.ref (oR (h.1 s0) 0)] h else Rx d 99 1 [a0, a1, a2, a3] [.ref s0] h := getR c99_1
theorem c99_4 : cd 99 4 = some (4, .iload_n 1, 1, []) := by decide +kernel
theorem x99_4 {d : Nat} {a0 a2 a3 : Value} {s0 : Nat} {x : Int32} {h : AHp} : Rf d 99 4 [a0, .int x, a2, a3] [.ref s0] h = Rf d 99 5 [a0, .int x, a2, a3] [.int x, .ref s0] h := Rf_go ((stp_of c99_4).trans rfl)
theorem c99_5 : cd 99 5 = some (5, .invokevirtual 104, 3, [(6, 42)]) := by decide +kernel
theorem xc99_5 {d : Nat} {a0 a1 a2 a3 : Value} {s0 : Int32} {s1 : Nat} {h : AHp} {h1 : AHp} {v : Int32} (hr : cls (h.1 s1) = 6) (hq : Rf d 42 0 [.ref s1, .int s0] [] h = some (some (.int v), h1)) : Rf (d + 1) 99 5 [a0, a1, a2, a3] [.int s0, .ref s1] h = Rf (d + 1) 99 8 [a0, a1, a2, a3] [.int v] h1 := clV (c := 42) (as := [.int s0]) c99_5 rfl (by simp [isV]) (by rw [hr]; rfl) hq
theorem c99_8 : cd 99 8 = some (8, .ifCond .eq 12, 3, [(20, 0)]) := by decide +kernel
theorem x99_8 {d : Nat} {a0 a1 a2 a3 : Value} {s0 : Int32} {h : AHp} : Rf d 99 8 [a0, a1, a2, a3] [.int s0] h = if s0 = 0 then Rf d 99 20 [a0, a1, a2, a3] [] h else Rf d 99 11 [a0, a1, a2, a3] [] h := Rf_brd ((stp_of c99_8).trans rfl)
theorem c99_20 : cd 99 20 = some (20, .iconst (-1), 1, []) := by decide +kernel
theorem x99_20 {d : Nat} {a0 a1 a2 a3 : Value} {h : AHp} : Rf d 99 20 [a0, a1, a2, a3] [] h = Rf d 99 21 [a0, a1, a2, a3] [.int (-1)] h := Rf_go ((stp_of c99_20).trans rfl)
theorem c99_21 : cd 99 21 = some (21, .ireturn, 1, []) := by decide +kernel
theorem x99_21 {d : Nat} {a0 a1 a2 a3 : Value} {s0 : Int32} {h : AHp} : Rf d 99 21 [a0, a1, a2, a3] [.int s0] h = some (some (.int s0), h) := Rf_end (by rw [stp_of c99_21]; simp only [stpI]; rw [if_pos (show retI (mH 99).2.2.1 s0 = true from retI_int)])
theorem c99_11 : cd 99 11 = some (11, .iload_n 2, 1, []) := by decide +kernel
theorem x99_11 {d : Nat} {a0 a1 a3 : Value} {x : Int32} {h : AHp} : Rf d 99 11 [a0, a1, .int x, a3] [] h = Rf d 99 12 [a0, a1, .int x, a3] [.int x] h := Rf_go ((stp_of c99_11).trans rfl)
theorem c99_12 : cd 99 12 = some (12, .bipush 6, 2, []) := by decide +kernel
theorem x99_12 {d : Nat} {a0 a1 a2 a3 : Value} {s0 : Int32} {h : AHp} : Rf d 99 12 [a0, a1, a2, a3] [.int s0] h = Rf d 99 14 [a0, a1, a2, a3] [.int 6, .int s0] h := Rf_go ((stp_of c99_12).trans rfl)
theorem c99_14 : cd 99 14 = some (14, .invokestatic 39, 3, [(0, 129)]) := by decide +kernel
theorem xc99_14 {d : Nat} {a0 a1 a2 a3 : Value} {s0 : Int32} {s1 : Int32} {h : AHp} {h1 : AHp} {v : Int32} (hq : Rf d 129 0 [.int s1, .int s0] [] h = some (some (.int v), h1)) : Rf (d + 1) 99 14 [a0, a1, a2, a3] [.int s0, .int s1] h = Rf (d + 1) 99 17 [a0, a1, a2, a3] [.int v] h1 := clS (as := [.int s1, .int s0]) c99_14 rfl rfl (by simp [isV]) hq
theorem c99_17 : cd 99 17 = some (17, .ifCond .ne 5, 3, [(22, 0)]) := by decide +kernel
theorem x99_17 {d : Nat} {a0 a1 a2 a3 : Value} {s0 : Int32} {h : AHp} : Rf d 99 17 [a0, a1, a2, a3] [.int s0] h = if s0 = 0 then Rf d 99 20 [a0, a1, a2, a3] [] h else Rf d 99 22 [a0, a1, a2, a3] [] h := Rf_brn ((stp_of c99_17).trans rfl)
theorem c99_22 : cd 99 22 = some (22, .iload_n 3, 1, []) := by decide +kernel
theorem x99_22 {d : Nat} {a0 a1 a2 : Value} {x : Int32} {h : AHp} : Rf d 99 22 [a0, a1, a2, .int x] [] h = Rf d 99 23 [a0, a1, a2, .int x] [.int x] h := Rf_go ((stp_of c99_22).trans rfl)
theorem c99_23 : cd 99 23 = some (23, .bipush 9, 2, []) := by decide +kernel
theorem x99_23 {d : Nat} {a0 a1 a2 a3 : Value} {s0 : Int32} {h : AHp} : Rf d 99 23 [a0, a1, a2, a3] [.int s0] h = Rf d 99 25 [a0, a1, a2, a3] [.int 9, .int s0] h := Rf_go ((stp_of c99_23).trans rfl)
theorem c99_25 : cd 99 25 = some (25, .invokestatic 39, 3, [(0, 129)]) := by decide +kernel
theorem xc99_25 {d : Nat} {a0 a1 a2 a3 : Value} {s0 : Int32} {s1 : Int32} {h : AHp} {h1 : AHp} {v : Int32} (hq : Rf d 129 0 [.int s1, .int s0] [] h = some (some (.int v), h1)) : Rf (d + 1) 99 25 [a0, a1, a2, a3] [.int s0, .int s1] h = Rf (d + 1) 99 28 [a0, a1, a2, a3] [.int v] h1 := clS (as := [.int s1, .int s0]) c99_25 rfl rfl (by simp [isV]) hq
theorem c99_28 : cd 99 28 = some (28, .ifCond .eq 16, 3, [(44, 0)]) := by decide +kernel
theorem x99_28 {d : Nat} {a0 a1 a2 a3 : Value} {s0 : Int32} {h : AHp} : Rf d 99 28 [a0, a1, a2, a3] [.int s0] h = if s0 = 0 then Rf d 99 44 [a0, a1, a2, a3] [] h else Rf d 99 31 [a0, a1, a2, a3] [] h := Rf_brd ((stp_of c99_28).trans rfl)
theorem c99_44 : cd 99 44 = some (44, .bipush (-2), 2, []) := by decide +kernel
theorem x99_44 {d : Nat} {a0 a1 a2 a3 : Value} {h : AHp} : Rf d 99 44 [a0, a1, a2, a3] [] h = Rf d 99 46 [a0, a1, a2, a3] [.int (-2)] h := Rf_go ((stp_of c99_44).trans rfl)
theorem c99_46 : cd 99 46 = some (46, .ireturn, 1, []) := by decide +kernel
theorem x99_46 {d : Nat} {a0 a1 a2 a3 : Value} {s0 : Int32} {h : AHp} : Rf d 99 46 [a0, a1, a2, a3] [.int s0] h = some (some (.int s0), h) := Rf_end (by rw [stp_of c99_46]; simp only [stpI]; rw [if_pos (show retI (mH 99).2.2.1 s0 = true from retI_int)])
theorem c99_31 : cd 99 31 = some (31, .aload_n 0, 1, []) := by decide +kernel
theorem x99_31 {d : Nat} {a1 a2 a3 : Value} {x : Nat} {h : AHp} : Rf d 99 31 [.ref x, a1, a2, a3] [] h = Rf d 99 32 [.ref x, a1, a2, a3] [.ref x] h := Rf_go ((stp_of c99_31).trans rfl)
theorem c99_32 : cd 99 32 = some (32, .getfield 10, 3, [(11, 0)]) := by decide +kernel
theorem x99_32 {d : Nat} {a0 a1 a2 a3 : Value} {s0 : Nat} {h : AHp} : Rf d 99 32 [a0, a1, a2, a3] [.ref s0] h = if cls (h.1 s0) = 11 ∧ oKr (h.1 s0) 0 = true then Rf d 99 35 [a0, a1, a2, a3] [.ref (oR (h.1 s0) 0)] h else Rx d 99 32 [a0, a1, a2, a3] [.ref s0] h := getR c99_32
theorem c99_35 : cd 99 35 = some (35, .iload_n 1, 1, []) := by decide +kernel
theorem x99_35 {d : Nat} {a0 a2 a3 : Value} {s0 : Nat} {x : Int32} {h : AHp} : Rf d 99 35 [a0, .int x, a2, a3] [.ref s0] h = Rf d 99 36 [a0, .int x, a2, a3] [.int x, .ref s0] h := Rf_go ((stp_of c99_35).trans rfl)
theorem c99_36 : cd 99 36 = some (36, .iload_n 2, 1, []) := by decide +kernel
theorem x99_36 {d : Nat} {a0 a1 a3 : Value} {s0 : Int32} {s1 : Nat} {x : Int32} {h : AHp} : Rf d 99 36 [a0, a1, .int x, a3] [.int s0, .ref s1] h = Rf d 99 37 [a0, a1, .int x, a3] [.int x, .int s0, .ref s1] h := Rf_go ((stp_of c99_36).trans rfl)
theorem c99_37 : cd 99 37 = some (37, .iload_n 3, 1, []) := by decide +kernel
theorem x99_37 {d : Nat} {a0 a1 a2 : Value} {s0 : Int32} {s1 : Int32} {s2 : Nat} {x : Int32} {h : AHp} : Rf d 99 37 [a0, a1, a2, .int x] [.int s0, .int s1, .ref s2] h = Rf d 99 38 [a0, a1, a2, .int x] [.int x, .int s0, .int s1, .ref s2] h := Rf_go ((stp_of c99_37).trans rfl)
theorem c99_38 : cd 99 38 = some (38, .invokevirtual 108, 3, [(6, 44)]) := by decide +kernel
theorem xc99_38 {d : Nat} {a0 a1 a2 a3 : Value} {s0 : Int32} {s1 : Int32} {s2 : Int32} {s3 : Nat} {h : AHp} {h1 : AHp} {v : Int32} (hr : cls (h.1 s3) = 6) (hq : Rf d 44 0 [.ref s3, .int s2, .int s1, .int s0, noV] [] h = some (some (.int v), h1)) : Rf (d + 1) 99 38 [a0, a1, a2, a3] [.int s0, .int s1, .int s2, .ref s3] h = Rf (d + 1) 99 41 [a0, a1, a2, a3] [.int v] h1 := clV (c := 44) (as := [.int s2, .int s1, .int s0]) c99_38 rfl (by simp [isV]) (by rw [hr]; rfl) hq
theorem c99_41 : cd 99 41 = some (41, .goto 5, 3, [(46, 0)]) := by decide +kernel
theorem x99_41 {d : Nat} {a0 a1 a2 a3 : Value} {s0 : Int32} {h : AHp} : Rf d 99 41 [a0, a1, a2, a3] [.int s0] h = Rf d 99 46 [a0, a1, a2, a3] [.int s0] h := Rf_go ((stp_of c99_41).trans rfl)
-- 100: X11_friend
theorem c100_0 : cd 100 0 = some (0, .aload_n 0, 1, []) := by decide +kernel
theorem x100_0 {d : Nat} {a1 a2 a3 : Value} {x : Nat} {h : AHp} : Rf d 100 0 [.ref x, a1, a2, a3] [] h = Rf d 100 1 [.ref x, a1, a2, a3] [.ref x] h := Rf_go ((stp_of c100_0).trans rfl)
theorem c100_1 : cd 100 1 = some (1, .getfield 10, 3, [(11, 0)]) := by decide +kernel
theorem x100_1 {d : Nat} {a0 a1 a2 a3 : Value} {s0 : Nat} {h : AHp} : Rf d 100 1 [a0, a1, a2, a3] [.ref s0] h = if cls (h.1 s0) = 11 ∧ oKr (h.1 s0) 0 = true then Rf d 100 4 [a0, a1, a2, a3] [.ref (oR (h.1 s0) 0)] h else Rx d 100 1 [a0, a1, a2, a3] [.ref s0] h := getR c100_1
theorem c100_4 : cd 100 4 = some (4, .iload_n 1, 1, []) := by decide +kernel
theorem x100_4 {d : Nat} {a0 a2 a3 : Value} {s0 : Nat} {x : Int32} {h : AHp} : Rf d 100 4 [a0, .int x, a2, a3] [.ref s0] h = Rf d 100 5 [a0, .int x, a2, a3] [.int x, .ref s0] h := Rf_go ((stp_of c100_4).trans rfl)
theorem c100_5 : cd 100 5 = some (5, .invokevirtual 104, 3, [(6, 42)]) := by decide +kernel
theorem xc100_5 {d : Nat} {a0 a1 a2 a3 : Value} {s0 : Int32} {s1 : Nat} {h : AHp} {h1 : AHp} {v : Int32} (hr : cls (h.1 s1) = 6) (hq : Rf d 42 0 [.ref s1, .int s0] [] h = some (some (.int v), h1)) : Rf (d + 1) 100 5 [a0, a1, a2, a3] [.int s0, .ref s1] h = Rf (d + 1) 100 8 [a0, a1, a2, a3] [.int v] h1 := clV (c := 42) (as := [.int s0]) c100_5 rfl (by simp [isV]) (by rw [hr]; rfl) hq
theorem c100_8 : cd 100 8 = some (8, .ifCond .eq 19, 3, [(27, 0)]) := by decide +kernel
theorem x100_8 {d : Nat} {a0 a1 a2 a3 : Value} {s0 : Int32} {h : AHp} : Rf d 100 8 [a0, a1, a2, a3] [.int s0] h = if s0 = 0 then Rf d 100 27 [a0, a1, a2, a3] [] h else Rf d 100 11 [a0, a1, a2, a3] [] h := Rf_brd ((stp_of c100_8).trans rfl)
theorem c100_27 : cd 100 27 = some (27, .iconst (-1), 1, []) := by decide +kernel
theorem x100_27 {d : Nat} {a0 a1 a2 a3 : Value} {h : AHp} : Rf d 100 27 [a0, a1, a2, a3] [] h = Rf d 100 28 [a0, a1, a2, a3] [.int (-1)] h := Rf_go ((stp_of c100_27).trans rfl)
theorem c100_28 : cd 100 28 = some (28, .ireturn, 1, []) := by decide +kernel
theorem x100_28 {d : Nat} {a0 a1 a2 a3 : Value} {s0 : Int32} {h : AHp} : Rf d 100 28 [a0, a1, a2, a3] [.int s0] h = some (some (.int s0), h) := Rf_end (by rw [stp_of c100_28]; simp only [stpI]; rw [if_pos (show retI (mH 100).2.2.1 s0 = true from retI_int)])
theorem c100_11 : cd 100 11 = some (11, .iload_n 2, 1, []) := by decide +kernel
theorem x100_11 {d : Nat} {a0 a1 a3 : Value} {x : Int32} {h : AHp} : Rf d 100 11 [a0, a1, .int x, a3] [] h = Rf d 100 12 [a0, a1, .int x, a3] [.int x] h := Rf_go ((stp_of c100_11).trans rfl)
theorem c100_12 : cd 100 12 = some (12, .iconst (-1), 1, []) := by decide +kernel
theorem x100_12 {d : Nat} {a0 a1 a2 a3 : Value} {s0 : Int32} {h : AHp} : Rf d 100 12 [a0, a1, a2, a3] [.int s0] h = Rf d 100 13 [a0, a1, a2, a3] [.int (-1), .int s0] h := Rf_go ((stp_of c100_12).trans rfl)
theorem c100_13 : cd 100 13 = some (13, .if_icmp .eq 16, 3, [(29, 0)]) := by decide +kernel
theorem x100_13 {d : Nat} {a0 a1 a2 a3 : Value} {s0 : Int32} {s1 : Int32} {h : AHp} : Rf d 100 13 [a0, a1, a2, a3] [.int s0, .int s1] h = if s1 = s0 then Rf d 100 29 [a0, a1, a2, a3] [] h else Rf d 100 16 [a0, a1, a2, a3] [] h := Rf_brd ((stp_of c100_13).trans rfl)
theorem c100_29 : cd 100 29 = some (29, .iload_n 2, 1, []) := by decide +kernel
theorem x100_29 {d : Nat} {a0 a1 a3 : Value} {x : Int32} {h : AHp} : Rf d 100 29 [a0, a1, .int x, a3] [] h = Rf d 100 30 [a0, a1, .int x, a3] [.int x] h := Rf_go ((stp_of c100_29).trans rfl)
theorem c100_30 : cd 100 30 = some (30, .iload_n 1, 1, []) := by decide +kernel
theorem x100_30 {d : Nat} {a0 a2 a3 : Value} {s0 : Int32} {x : Int32} {h : AHp} : Rf d 100 30 [a0, .int x, a2, a3] [.int s0] h = Rf d 100 31 [a0, .int x, a2, a3] [.int x, .int s0] h := Rf_go ((stp_of c100_30).trans rfl)
theorem c100_31 : cd 100 31 = some (31, .if_icmp .ne 6, 3, [(37, 0)]) := by decide +kernel
theorem x100_31 {d : Nat} {a0 a1 a2 a3 : Value} {s0 : Int32} {s1 : Int32} {h : AHp} : Rf d 100 31 [a0, a1, a2, a3] [.int s0, .int s1] h = if s1 = s0 then Rf d 100 34 [a0, a1, a2, a3] [] h else Rf d 100 37 [a0, a1, a2, a3] [] h := Rf_brn ((stp_of c100_31).trans rfl)
theorem c100_37 : cd 100 37 = some (37, .aload_n 0, 1, []) := by decide +kernel
theorem x100_37 {d : Nat} {a1 a2 a3 : Value} {x : Nat} {h : AHp} : Rf d 100 37 [.ref x, a1, a2, a3] [] h = Rf d 100 38 [.ref x, a1, a2, a3] [.ref x] h := Rf_go ((stp_of c100_37).trans rfl)
theorem c100_38 : cd 100 38 = some (38, .getfield 10, 3, [(11, 0)]) := by decide +kernel
theorem x100_38 {d : Nat} {a0 a1 a2 a3 : Value} {s0 : Nat} {h : AHp} : Rf d 100 38 [a0, a1, a2, a3] [.ref s0] h = if cls (h.1 s0) = 11 ∧ oKr (h.1 s0) 0 = true then Rf d 100 41 [a0, a1, a2, a3] [.ref (oR (h.1 s0) 0)] h else Rx d 100 38 [a0, a1, a2, a3] [.ref s0] h := getR c100_38
theorem c100_41 : cd 100 41 = some (41, .getfield 112, 3, [(6, 6)]) := by decide +kernel
theorem x100_41 {d : Nat} {a0 a1 a2 a3 : Value} {s0 : Nat} {h : AHp} : Rf d 100 41 [a0, a1, a2, a3] [.ref s0] h = if cls (h.1 s0) = 6 ∧ oKr (h.1 s0) 6 = true then Rf d 100 44 [a0, a1, a2, a3] [.ref (oR (h.1 s0) 6)] h else Rx d 100 41 [a0, a1, a2, a3] [.ref s0] h := getR c100_41
theorem c100_44 : cd 100 44 = some (44, .iload_n 1, 1, []) := by decide +kernel
theorem x100_44 {d : Nat} {a0 a2 a3 : Value} {s0 : Nat} {x : Int32} {h : AHp} : Rf d 100 44 [a0, .int x, a2, a3] [.ref s0] h = Rf d 100 45 [a0, .int x, a2, a3] [.int x, .ref s0] h := Rf_go ((stp_of c100_44).trans rfl)
theorem c100_45 : cd 100 45 = some (45, .iaload, 1, []) := by decide +kernel
theorem x100_45 {d : Nat} {a0 a1 a2 a3 : Value} {s0 : Int32} {s1 : Nat} {h : AHp} : Rf d 100 45 [a0, a1, a2, a3] [.int s0, .ref s1] h = if (aT (h.1 s1) = 0 ∨ aT (h.1 s1) = 10) ∧ inB s0 (aN (h.1 s1)) = true then Rf d 100 46 [a0, a1, a2, a3] [.int (aF (h.1 s1) s0.toNatClampNeg)] h else Rx d 100 45 [a0, a1, a2, a3] [.int s0, .ref s1] h := ldI c100_45
theorem c100_46 : cd 100 46 = some (46, .istore_n 3, 1, []) := by decide +kernel
theorem x100_46 {d : Nat} {a0 a1 a2 a3 : Value} {s0 : Int32} {h : AHp} : Rf d 100 46 [a0, a1, a2, a3] [.int s0] h = Rf d 100 47 [a0, a1, a2, .int s0] [] h := Rf_go ((stp_of c100_46).trans rfl)
theorem c100_47 : cd 100 47 = some (47, .aload_n 0, 1, []) := by decide +kernel
theorem x100_47 {d : Nat} {a1 a2 a3 : Value} {x : Nat} {h : AHp} : Rf d 100 47 [.ref x, a1, a2, a3] [] h = Rf d 100 48 [.ref x, a1, a2, a3] [.ref x] h := Rf_go ((stp_of c100_47).trans rfl)
theorem c100_48 : cd 100 48 = some (48, .getfield 10, 3, [(11, 0)]) := by decide +kernel
theorem x100_48 {d : Nat} {a0 a1 a2 a3 : Value} {s0 : Nat} {h : AHp} : Rf d 100 48 [a0, a1, a2, a3] [.ref s0] h = if cls (h.1 s0) = 11 ∧ oKr (h.1 s0) 0 = true then Rf d 100 51 [a0, a1, a2, a3] [.ref (oR (h.1 s0) 0)] h else Rx d 100 48 [a0, a1, a2, a3] [.ref s0] h := getR c100_48
theorem c100_51 : cd 100 51 = some (51, .getfield 112, 3, [(6, 6)]) := by decide +kernel
theorem x100_51 {d : Nat} {a0 a1 a2 a3 : Value} {s0 : Nat} {h : AHp} : Rf d 100 51 [a0, a1, a2, a3] [.ref s0] h = if cls (h.1 s0) = 6 ∧ oKr (h.1 s0) 6 = true then Rf d 100 54 [a0, a1, a2, a3] [.ref (oR (h.1 s0) 6)] h else Rx d 100 51 [a0, a1, a2, a3] [.ref s0] h := getR c100_51
theorem c100_54 : cd 100 54 = some (54, .iload_n 1, 1, []) := by decide +kernel
theorem x100_54 {d : Nat} {a0 a2 a3 : Value} {s0 : Nat} {x : Int32} {h : AHp} : Rf d 100 54 [a0, .int x, a2, a3] [.ref s0] h = Rf d 100 55 [a0, .int x, a2, a3] [.int x, .ref s0] h := Rf_go ((stp_of c100_54).trans rfl)
theorem c100_55 : cd 100 55 = some (55, .iload_n 2, 1, []) := by decide +kernel
theorem x100_55 {d : Nat} {a0 a1 a3 : Value} {s0 : Int32} {s1 : Nat} {x : Int32} {h : AHp} : Rf d 100 55 [a0, a1, .int x, a3] [.int s0, .ref s1] h = Rf d 100 56 [a0, a1, .int x, a3] [.int x, .int s0, .ref s1] h := Rf_go ((stp_of c100_55).trans rfl)
theorem c100_56 : cd 100 56 = some (56, .iconst (-1), 1, []) := by decide +kernel
theorem x100_56 {d : Nat} {a0 a1 a2 a3 : Value} {s0 : Int32} {s1 : Int32} {s2 : Nat} {h : AHp} : Rf d 100 56 [a0, a1, a2, a3] [.int s0, .int s1, .ref s2] h = Rf d 100 57 [a0, a1, a2, a3] [.int (-1), .int s0, .int s1, .ref s2] h := Rf_go ((stp_of c100_56).trans rfl)
theorem c100_57 : cd 100 57 = some (57, .if_icmp .ne 8, 3, [(65, 0)]) := by decide +kernel
theorem x100_57 {d : Nat} {a0 a1 a2 a3 : Value} {s0 : Int32} {s1 : Int32} {s2 : Int32} {s3 : Nat} {h : AHp} : Rf d 100 57 [a0, a1, a2, a3] [.int s0, .int s1, .int s2, .ref s3] h = if s1 = s0 then Rf d 100 60 [a0, a1, a2, a3] [.int s2, .ref s3] h else Rf d 100 65 [a0, a1, a2, a3] [.int s2, .ref s3] h := Rf_brn ((stp_of c100_57).trans rfl)
theorem c100_65 : cd 100 65 = some (65, .iload_n 2, 1, []) := by decide +kernel
theorem x100_65 {d : Nat} {a0 a1 a3 : Value} {s0 : Int32} {s1 : Nat} {x : Int32} {h : AHp} : Rf d 100 65 [a0, a1, .int x, a3] [.int s0, .ref s1] h = Rf d 100 66 [a0, a1, .int x, a3] [.int x, .int s0, .ref s1] h := Rf_go ((stp_of c100_65).trans rfl)
theorem c100_66 : cd 100 66 = some (66, .iastore, 1, []) := by decide +kernel
theorem x100_66 {d : Nat} {a0 a1 a2 a3 : Value} {s0 : Int32} {s1 : Int32} {s2 : Nat} {h : AHp} : Rf d 100 66 [a0, a1, a2, a3] [.int s0, .int s1, .ref s2] h = if aT (h.1 s2) = 0 ∧ inB s1 (aN (h.1 s2)) = true then Rf d 100 67 [a0, a1, a2, a3] [] (hset h s2 (.inl (0, aN (h.1 s2), .inl (upd (aF (h.1 s2)) s1.toNatClampNeg s0)))) else Rx d 100 66 [a0, a1, a2, a3] [.int s0, .int s1, .ref s2] h := stI c100_66
theorem c100_67 : cd 100 67 = some (67, .iload_n 3, 1, []) := by decide +kernel
theorem x100_67 {d : Nat} {a0 a1 a2 : Value} {x : Int32} {h : AHp} : Rf d 100 67 [a0, a1, a2, .int x] [] h = Rf d 100 68 [a0, a1, a2, .int x] [.int x] h := Rf_go ((stp_of c100_67).trans rfl)
theorem c100_68 : cd 100 68 = some (68, .ireturn, 1, []) := by decide +kernel
theorem x100_68 {d : Nat} {a0 a1 a2 a3 : Value} {s0 : Int32} {h : AHp} : Rf d 100 68 [a0, a1, a2, a3] [.int s0] h = some (some (.int s0), h) := Rf_end (by rw [stp_of c100_68]; simp only [stpI]; rw [if_pos (show retI (mH 100).2.2.1 s0 = true from retI_int)])
theorem c100_60 : cd 100 60 = some (60, .bipush (-5), 2, []) := by decide +kernel
theorem x100_60 {d : Nat} {a0 a1 a2 a3 : Value} {s0 : Int32} {s1 : Nat} {h : AHp} : Rf d 100 60 [a0, a1, a2, a3] [.int s0, .ref s1] h = Rf d 100 62 [a0, a1, a2, a3] [.int (-5), .int s0, .ref s1] h := Rf_go ((stp_of c100_60).trans rfl)
theorem c100_62 : cd 100 62 = some (62, .goto 4, 3, [(66, 0)]) := by decide +kernel
theorem x100_62 {d : Nat} {a0 a1 a2 a3 : Value} {s0 : Int32} {s1 : Int32} {s2 : Nat} {h : AHp} : Rf d 100 62 [a0, a1, a2, a3] [.int s0, .int s1, .ref s2] h = Rf d 100 66 [a0, a1, a2, a3] [.int s0, .int s1, .ref s2] h := Rf_go ((stp_of c100_62).trans rfl)
theorem c100_34 : cd 100 34 = some (34, .bipush (-2), 2, []) := by decide +kernel
theorem x100_34 {d : Nat} {a0 a1 a2 a3 : Value} {h : AHp} : Rf d 100 34 [a0, a1, a2, a3] [] h = Rf d 100 36 [a0, a1, a2, a3] [.int (-2)] h := Rf_go ((stp_of c100_34).trans rfl)
theorem c100_36 : cd 100 36 = some (36, .ireturn, 1, []) := by decide +kernel
theorem x100_36 {d : Nat} {a0 a1 a2 a3 : Value} {s0 : Int32} {h : AHp} : Rf d 100 36 [a0, a1, a2, a3] [.int s0] h = some (some (.int s0), h) := Rf_end (by rw [stp_of c100_36]; simp only [stpI]; rw [if_pos (show retI (mH 100).2.2.1 s0 = true from retI_int)])
theorem c100_16 : cd 100 16 = some (16, .aload_n 0, 1, []) := by decide +kernel
theorem x100_16 {d : Nat} {a1 a2 a3 : Value} {x : Nat} {h : AHp} : Rf d 100 16 [.ref x, a1, a2, a3] [] h = Rf d 100 17 [.ref x, a1, a2, a3] [.ref x] h := Rf_go ((stp_of c100_16).trans rfl)
theorem c100_17 : cd 100 17 = some (17, .getfield 10, 3, [(11, 0)]) := by decide +kernel
theorem x100_17 {d : Nat} {a0 a1 a2 a3 : Value} {s0 : Nat} {h : AHp} : Rf d 100 17 [a0, a1, a2, a3] [.ref s0] h = if cls (h.1 s0) = 11 ∧ oKr (h.1 s0) 0 = true then Rf d 100 20 [a0, a1, a2, a3] [.ref (oR (h.1 s0) 0)] h else Rx d 100 17 [a0, a1, a2, a3] [.ref s0] h := getR c100_17
theorem c100_20 : cd 100 20 = some (20, .iload_n 2, 1, []) := by decide +kernel
theorem x100_20 {d : Nat} {a0 a1 a3 : Value} {s0 : Nat} {x : Int32} {h : AHp} : Rf d 100 20 [a0, a1, .int x, a3] [.ref s0] h = Rf d 100 21 [a0, a1, .int x, a3] [.int x, .ref s0] h := Rf_go ((stp_of c100_20).trans rfl)
theorem c100_21 : cd 100 21 = some (21, .invokevirtual 104, 3, [(6, 42)]) := by decide +kernel
theorem xc100_21 {d : Nat} {a0 a1 a2 a3 : Value} {s0 : Int32} {s1 : Nat} {h : AHp} {h1 : AHp} {v : Int32} (hr : cls (h.1 s1) = 6) (hq : Rf d 42 0 [.ref s1, .int s0] [] h = some (some (.int v), h1)) : Rf (d + 1) 100 21 [a0, a1, a2, a3] [.int s0, .ref s1] h = Rf (d + 1) 100 24 [a0, a1, a2, a3] [.int v] h1 := clV (c := 42) (as := [.int s0]) c100_21 rfl (by simp [isV]) (by rw [hr]; rfl) hq
theorem c100_24 : cd 100 24 = some (24, .ifCond .ne 5, 3, [(29, 0)]) := by decide +kernel
theorem x100_24 {d : Nat} {a0 a1 a2 a3 : Value} {s0 : Int32} {h : AHp} : Rf d 100 24 [a0, a1, a2, a3] [.int s0] h = if s0 = 0 then Rf d 100 27 [a0, a1, a2, a3] [] h else Rf d 100 29 [a0, a1, a2, a3] [] h := Rf_brn ((stp_of c100_24).trans rfl)
-- 101: X11_of
theorem c101_0 : cd 101 0 = some (0, .aload_n 0, 1, []) := by decide +kernel
theorem x101_0 {d : Nat} {a1 a2 : Value} {x : Nat} {h : AHp} : Rf d 101 0 [.ref x, a1, a2] [] h = Rf d 101 1 [.ref x, a1, a2] [.ref x] h := Rf_go ((stp_of c101_0).trans rfl)
theorem c101_1 : cd 101 1 = some (1, .getfield 10, 3, [(11, 0)]) := by decide +kernel
theorem x101_1 {d : Nat} {a0 a1 a2 : Value} {s0 : Nat} {h : AHp} : Rf d 101 1 [a0, a1, a2] [.ref s0] h = if cls (h.1 s0) = 11 ∧ oKr (h.1 s0) 0 = true then Rf d 101 4 [a0, a1, a2] [.ref (oR (h.1 s0) 0)] h else Rx d 101 1 [a0, a1, a2] [.ref s0] h := getR c101_1
theorem c101_4 : cd 101 4 = some (4, .iload_n 1, 1, []) := by decide +kernel
theorem x101_4 {d : Nat} {a0 a2 : Value} {s0 : Nat} {x : Int32} {h : AHp} : Rf d 101 4 [a0, .int x, a2] [.ref s0] h = Rf d 101 5 [a0, .int x, a2] [.int x, .ref s0] h := Rf_go ((stp_of c101_4).trans rfl)
theorem c101_5 : cd 101 5 = some (5, .invokevirtual 104, 3, [(6, 42)]) := by decide +kernel
theorem xc101_5 {d : Nat} {a0 a1 a2 : Value} {s0 : Int32} {s1 : Nat} {h : AHp} {h1 : AHp} {v : Int32} (hr : cls (h.1 s1) = 6) (hq : Rf d 42 0 [.ref s1, .int s0] [] h = some (some (.int v), h1)) : Rf (d + 1) 101 5 [a0, a1, a2] [.int s0, .ref s1] h = Rf (d + 1) 101 8 [a0, a1, a2] [.int v] h1 := clV (c := 42) (as := [.int s0]) c101_5 rfl (by simp [isV]) (by rw [hr]; rfl) hq
theorem c101_8 : cd 101 8 = some (8, .ifCond .ne 7, 3, [(15, 0)]) := by decide +kernel
theorem x101_8 {d : Nat} {a0 a1 a2 : Value} {s0 : Int32} {h : AHp} : Rf d 101 8 [a0, a1, a2] [.int s0] h = if s0 = 0 then Rf d 101 11 [a0, a1, a2] [] h else Rf d 101 15 [a0, a1, a2] [] h := Rf_brn ((stp_of c101_8).trans rfl)
theorem c101_15 : cd 101 15 = some (15, .iload_n 2, 1, []) := by decide +kernel
theorem x101_15 {d : Nat} {a0 a1 : Value} {x : Int32} {h : AHp} : Rf d 101 15 [a0, a1, .int x] [] h = Rf d 101 16 [a0, a1, .int x] [.int x] h := Rf_go ((stp_of c101_15).trans rfl)
theorem c101_16 : cd 101 16 = some (16, .tableswitch 193 0 11 #[64, 74, 84, 94, 104, 114, 127, 140, 149, 166, 175, 184], 64, [(0, 209), (0, 80), (1, 90), (2, 100), (3, 110), (4, 120), (5, 130), (6, 143), (7, 156), (8, 165), (9, 182), (10, 191), (11, 200)]) := by decide +kernel
theorem x101_16 {d : Nat} {a0 a1 a2 : Value} {s0 : Int32} {h : AHp} : Rf d 101 16 [a0, a1, a2] [.int s0] h = if s0 = 0 then Rf d 101 80 [a0, a1, a2] [] h else (if s0 = 1 then Rf d 101 90 [a0, a1, a2] [] h else (if s0 = 2 then Rf d 101 100 [a0, a1, a2] [] h else (if s0 = 3 then Rf d 101 110 [a0, a1, a2] [] h else (if s0 = 4 then Rf d 101 120 [a0, a1, a2] [] h else (if s0 = 5 then Rf d 101 130 [a0, a1, a2] [] h else (if s0 = 6 then Rf d 101 143 [a0, a1, a2] [] h else (if s0 = 7 then Rf d 101 156 [a0, a1, a2] [] h else (if s0 = 8 then Rf d 101 165 [a0, a1, a2] [] h else (if s0 = 9 then Rf d 101 182 [a0, a1, a2] [] h else (if s0 = 10 then Rf d 101 191 [a0, a1, a2] [] h else (if s0 = 11 then Rf d 101 200 [a0, a1, a2] [] h else (Rf d 101 209 [a0, a1, a2] [] h)))))))))))) := (swE (e := 209) c101_16 rfl).trans (by simp only [List.drop, swT, Rf_ite]; rfl)
theorem c101_200 : cd 101 200 = some (200, .aload_n 0, 1, []) := by decide +kernel
theorem x101_200 {d : Nat} {a1 a2 : Value} {x : Nat} {h : AHp} : Rf d 101 200 [.ref x, a1, a2] [] h = Rf d 101 201 [.ref x, a1, a2] [.ref x] h := Rf_go ((stp_of c101_200).trans rfl)
theorem c101_201 : cd 101 201 = some (201, .getfield 10, 3, [(11, 0)]) := by decide +kernel
theorem x101_201 {d : Nat} {a0 a1 a2 : Value} {s0 : Nat} {h : AHp} : Rf d 101 201 [a0, a1, a2] [.ref s0] h = if cls (h.1 s0) = 11 ∧ oKr (h.1 s0) 0 = true then Rf d 101 204 [a0, a1, a2] [.ref (oR (h.1 s0) 0)] h else Rx d 101 201 [a0, a1, a2] [.ref s0] h := getR c101_201
theorem c101_204 : cd 101 204 = some (204, .iload_n 1, 1, []) := by decide +kernel
theorem x101_204 {d : Nat} {a0 a2 : Value} {s0 : Nat} {x : Int32} {h : AHp} : Rf d 101 204 [a0, .int x, a2] [.ref s0] h = Rf d 101 205 [a0, .int x, a2] [.int x, .ref s0] h := Rf_go ((stp_of c101_204).trans rfl)
theorem c101_205 : cd 101 205 = some (205, .invokevirtual 153, 3, [(6, 59)]) := by decide +kernel
theorem xc101_205 {d : Nat} {a0 a1 a2 : Value} {s0 : Int32} {s1 : Nat} {h : AHp} {h1 : AHp} {v : Int32} (hr : cls (h.1 s1) = 6) (hq : Rf d 59 0 [.ref s1, .int s0] [] h = some (some (.int v), h1)) : Rf (d + 1) 101 205 [a0, a1, a2] [.int s0, .ref s1] h = Rf (d + 1) 101 208 [a0, a1, a2] [.int v] h1 := clV (c := 59) (as := [.int s0]) c101_205 rfl (by simp [isV]) (by rw [hr]; rfl) hq
theorem c101_208 : cd 101 208 = some (208, .ireturn, 1, []) := by decide +kernel
theorem x101_208 {d : Nat} {a0 a1 a2 : Value} {s0 : Int32} {h : AHp} : Rf d 101 208 [a0, a1, a2] [.int s0] h = some (some (.int s0), h) := Rf_end (by rw [stp_of c101_208]; simp only [stpI]; rw [if_pos (show retI (mH 101).2.2.1 s0 = true from retI_int)])
theorem c101_191 : cd 101 191 = some (191, .aload_n 0, 1, []) := by decide +kernel
theorem x101_191 {d : Nat} {a1 a2 : Value} {x : Nat} {h : AHp} : Rf d 101 191 [.ref x, a1, a2] [] h = Rf d 101 192 [.ref x, a1, a2] [.ref x] h := Rf_go ((stp_of c101_191).trans rfl)
theorem c101_192 : cd 101 192 = some (192, .getfield 10, 3, [(11, 0)]) := by decide +kernel
theorem x101_192 {d : Nat} {a0 a1 a2 : Value} {s0 : Nat} {h : AHp} : Rf d 101 192 [a0, a1, a2] [.ref s0] h = if cls (h.1 s0) = 11 ∧ oKr (h.1 s0) 0 = true then Rf d 101 195 [a0, a1, a2] [.ref (oR (h.1 s0) 0)] h else Rx d 101 192 [a0, a1, a2] [.ref s0] h := getR c101_192
theorem c101_195 : cd 101 195 = some (195, .iload_n 1, 1, []) := by decide +kernel
theorem x101_195 {d : Nat} {a0 a2 : Value} {s0 : Nat} {x : Int32} {h : AHp} : Rf d 101 195 [a0, .int x, a2] [.ref s0] h = Rf d 101 196 [a0, .int x, a2] [.int x, .ref s0] h := Rf_go ((stp_of c101_195).trans rfl)
theorem c101_196 : cd 101 196 = some (196, .invokevirtual 150, 3, [(6, 57)]) := by decide +kernel
theorem xc101_196 {d : Nat} {a0 a1 a2 : Value} {s0 : Int32} {s1 : Nat} {h : AHp} {h1 : AHp} {v : Int32} (hr : cls (h.1 s1) = 6) (hq : Rf d 57 0 [.ref s1, .int s0] [] h = some (some (.int v), h1)) : Rf (d + 1) 101 196 [a0, a1, a2] [.int s0, .ref s1] h = Rf (d + 1) 101 199 [a0, a1, a2] [.int v] h1 := clV (c := 57) (as := [.int s0]) c101_196 rfl (by simp [isV]) (by rw [hr]; rfl) hq
theorem c101_199 : cd 101 199 = some (199, .ireturn, 1, []) := by decide +kernel
theorem x101_199 {d : Nat} {a0 a1 a2 : Value} {s0 : Int32} {h : AHp} : Rf d 101 199 [a0, a1, a2] [.int s0] h = some (some (.int s0), h) := Rf_end (by rw [stp_of c101_199]; simp only [stpI]; rw [if_pos (show retI (mH 101).2.2.1 s0 = true from retI_int)])
theorem c101_182 : cd 101 182 = some (182, .aload_n 0, 1, []) := by decide +kernel
theorem x101_182 {d : Nat} {a1 a2 : Value} {x : Nat} {h : AHp} : Rf d 101 182 [.ref x, a1, a2] [] h = Rf d 101 183 [.ref x, a1, a2] [.ref x] h := Rf_go ((stp_of c101_182).trans rfl)
theorem c101_183 : cd 101 183 = some (183, .getfield 10, 3, [(11, 0)]) := by decide +kernel
theorem x101_183 {d : Nat} {a0 a1 a2 : Value} {s0 : Nat} {h : AHp} : Rf d 101 183 [a0, a1, a2] [.ref s0] h = if cls (h.1 s0) = 11 ∧ oKr (h.1 s0) 0 = true then Rf d 101 186 [a0, a1, a2] [.ref (oR (h.1 s0) 0)] h else Rx d 101 183 [a0, a1, a2] [.ref s0] h := getR c101_183
theorem c101_186 : cd 101 186 = some (186, .iload_n 1, 1, []) := by decide +kernel
theorem x101_186 {d : Nat} {a0 a2 : Value} {s0 : Nat} {x : Int32} {h : AHp} : Rf d 101 186 [a0, .int x, a2] [.ref s0] h = Rf d 101 187 [a0, .int x, a2] [.int x, .ref s0] h := Rf_go ((stp_of c101_186).trans rfl)
theorem c101_187 : cd 101 187 = some (187, .invokevirtual 147, 3, [(6, 56)]) := by decide +kernel
theorem xc101_187 {d : Nat} {a0 a1 a2 : Value} {s0 : Int32} {s1 : Nat} {h : AHp} {h1 : AHp} {v : Int32} (hr : cls (h.1 s1) = 6) (hq : Rf d 56 0 [.ref s1, .int s0, noV] [] h = some (some (.int v), h1)) : Rf (d + 1) 101 187 [a0, a1, a2] [.int s0, .ref s1] h = Rf (d + 1) 101 190 [a0, a1, a2] [.int v] h1 := clV (c := 56) (as := [.int s0]) c101_187 rfl (by simp [isV]) (by rw [hr]; rfl) hq
theorem c101_190 : cd 101 190 = some (190, .ireturn, 1, []) := by decide +kernel
theorem x101_190 {d : Nat} {a0 a1 a2 : Value} {s0 : Int32} {h : AHp} : Rf d 101 190 [a0, a1, a2] [.int s0] h = some (some (.int s0), h) := Rf_end (by rw [stp_of c101_190]; simp only [stpI]; rw [if_pos (show retI (mH 101).2.2.1 s0 = true from retI_int)])
theorem c101_165 : cd 101 165 = some (165, .aload_n 0, 1, []) := by decide +kernel
theorem x101_165 {d : Nat} {a1 a2 : Value} {x : Nat} {h : AHp} : Rf d 101 165 [.ref x, a1, a2] [] h = Rf d 101 166 [.ref x, a1, a2] [.ref x] h := Rf_go ((stp_of c101_165).trans rfl)
theorem c101_166 : cd 101 166 = some (166, .getfield 10, 3, [(11, 0)]) := by decide +kernel
theorem x101_166 {d : Nat} {a0 a1 a2 : Value} {s0 : Nat} {h : AHp} : Rf d 101 166 [a0, a1, a2] [.ref s0] h = if cls (h.1 s0) = 11 ∧ oKr (h.1 s0) 0 = true then Rf d 101 169 [a0, a1, a2] [.ref (oR (h.1 s0) 0)] h else Rx d 101 166 [a0, a1, a2] [.ref s0] h := getR c101_166
theorem c101_169 : cd 101 169 = some (169, .iload_n 1, 1, []) := by decide +kernel
theorem x101_169 {d : Nat} {a0 a2 : Value} {s0 : Nat} {x : Int32} {h : AHp} : Rf d 101 169 [a0, .int x, a2] [.ref s0] h = Rf d 101 170 [a0, .int x, a2] [.int x, .ref s0] h := Rf_go ((stp_of c101_169).trans rfl)
theorem c101_170 : cd 101 170 = some (170, .aload_n 0, 1, []) := by decide +kernel
theorem x101_170 {d : Nat} {a1 a2 : Value} {s0 : Int32} {s1 : Nat} {x : Nat} {h : AHp} : Rf d 101 170 [.ref x, a1, a2] [.int s0, .ref s1] h = Rf d 101 171 [.ref x, a1, a2] [.ref x, .int s0, .ref s1] h := Rf_go ((stp_of c101_170).trans rfl)
theorem c101_171 : cd 101 171 = some (171, .getfield 10, 3, [(11, 0)]) := by decide +kernel
theorem x101_171 {d : Nat} {a0 a1 a2 : Value} {s0 : Nat} {s1 : Int32} {s2 : Nat} {h : AHp} : Rf d 101 171 [a0, a1, a2] [.ref s0, .int s1, .ref s2] h = if cls (h.1 s0) = 11 ∧ oKr (h.1 s0) 0 = true then Rf d 101 174 [a0, a1, a2] [.ref (oR (h.1 s0) 0), .int s1, .ref s2] h else Rx d 101 171 [a0, a1, a2] [.ref s0, .int s1, .ref s2] h := getR c101_171
theorem c101_174 : cd 101 174 = some (174, .iload_n 1, 1, []) := by decide +kernel
theorem x101_174 {d : Nat} {a0 a2 : Value} {s0 : Nat} {s1 : Int32} {s2 : Nat} {x : Int32} {h : AHp} : Rf d 101 174 [a0, .int x, a2] [.ref s0, .int s1, .ref s2] h = Rf d 101 175 [a0, .int x, a2] [.int x, .ref s0, .int s1, .ref s2] h := Rf_go ((stp_of c101_174).trans rfl)
theorem c101_175 : cd 101 175 = some (175, .invokevirtual 139, 3, [(6, 54)]) := by decide +kernel
theorem xc101_175 {d : Nat} {a0 a1 a2 : Value} {s0 : Int32} {s1 : Nat} {s2 : Int32} {s3 : Nat} {h : AHp} {h1 : AHp} {v : Int32} (hr : cls (h.1 s1) = 6) (hq : Rf d 54 0 [.ref s1, .int s0] [] h = some (some (.int v), h1)) : Rf (d + 1) 101 175 [a0, a1, a2] [.int s0, .ref s1, .int s2, .ref s3] h = Rf (d + 1) 101 178 [a0, a1, a2] [.int v, .int s2, .ref s3] h1 := clV (c := 54) (as := [.int s0]) c101_175 rfl (by simp [isV]) (by rw [hr]; rfl) hq
theorem c101_178 : cd 101 178 = some (178, .invokevirtual 143, 3, [(6, 55)]) := by decide +kernel
theorem xc101_178 {d : Nat} {a0 a1 a2 : Value} {s0 : Int32} {s1 : Int32} {s2 : Nat} {h : AHp} {h1 : AHp} {v : Int32} (hr : cls (h.1 s2) = 6) (hq : Rf d 55 0 [.ref s2, .int s1, .int s0, noV] [] h = some (some (.int v), h1)) : Rf (d + 1) 101 178 [a0, a1, a2] [.int s0, .int s1, .ref s2] h = Rf (d + 1) 101 181 [a0, a1, a2] [.int v] h1 := clV (c := 55) (as := [.int s1, .int s0]) c101_178 rfl (by simp [isV]) (by rw [hr]; rfl) hq
theorem c101_181 : cd 101 181 = some (181, .ireturn, 1, []) := by decide +kernel
theorem x101_181 {d : Nat} {a0 a1 a2 : Value} {s0 : Int32} {h : AHp} : Rf d 101 181 [a0, a1, a2] [.int s0] h = some (some (.int s0), h) := Rf_end (by rw [stp_of c101_181]; simp only [stpI]; rw [if_pos (show retI (mH 101).2.2.1 s0 = true from retI_int)])
theorem c101_156 : cd 101 156 = some (156, .aload_n 0, 1, []) := by decide +kernel
theorem x101_156 {d : Nat} {a1 a2 : Value} {x : Nat} {h : AHp} : Rf d 101 156 [.ref x, a1, a2] [] h = Rf d 101 157 [.ref x, a1, a2] [.ref x] h := Rf_go ((stp_of c101_156).trans rfl)
theorem c101_157 : cd 101 157 = some (157, .getfield 10, 3, [(11, 0)]) := by decide +kernel
theorem x101_157 {d : Nat} {a0 a1 a2 : Value} {s0 : Nat} {h : AHp} : Rf d 101 157 [a0, a1, a2] [.ref s0] h = if cls (h.1 s0) = 11 ∧ oKr (h.1 s0) 0 = true then Rf d 101 160 [a0, a1, a2] [.ref (oR (h.1 s0) 0)] h else Rx d 101 157 [a0, a1, a2] [.ref s0] h := getR c101_157
theorem c101_160 : cd 101 160 = some (160, .iload_n 1, 1, []) := by decide +kernel
theorem x101_160 {d : Nat} {a0 a2 : Value} {s0 : Nat} {x : Int32} {h : AHp} : Rf d 101 160 [a0, .int x, a2] [.ref s0] h = Rf d 101 161 [a0, .int x, a2] [.int x, .ref s0] h := Rf_go ((stp_of c101_160).trans rfl)
theorem c101_161 : cd 101 161 = some (161, .invokevirtual 139, 3, [(6, 54)]) := by decide +kernel
theorem xc101_161 {d : Nat} {a0 a1 a2 : Value} {s0 : Int32} {s1 : Nat} {h : AHp} {h1 : AHp} {v : Int32} (hr : cls (h.1 s1) = 6) (hq : Rf d 54 0 [.ref s1, .int s0] [] h = some (some (.int v), h1)) : Rf (d + 1) 101 161 [a0, a1, a2] [.int s0, .ref s1] h = Rf (d + 1) 101 164 [a0, a1, a2] [.int v] h1 := clV (c := 54) (as := [.int s0]) c101_161 rfl (by simp [isV]) (by rw [hr]; rfl) hq
theorem c101_164 : cd 101 164 = some (164, .ireturn, 1, []) := by decide +kernel
theorem x101_164 {d : Nat} {a0 a1 a2 : Value} {s0 : Int32} {h : AHp} : Rf d 101 164 [a0, a1, a2] [.int s0] h = some (some (.int s0), h) := Rf_end (by rw [stp_of c101_164]; simp only [stpI]; rw [if_pos (show retI (mH 101).2.2.1 s0 = true from retI_int)])
theorem c101_143 : cd 101 143 = some (143, .aload_n 0, 1, []) := by decide +kernel
theorem x101_143 {d : Nat} {a1 a2 : Value} {x : Nat} {h : AHp} : Rf d 101 143 [.ref x, a1, a2] [] h = Rf d 101 144 [.ref x, a1, a2] [.ref x] h := Rf_go ((stp_of c101_143).trans rfl)
theorem c101_144 : cd 101 144 = some (144, .getfield 10, 3, [(11, 0)]) := by decide +kernel
theorem x101_144 {d : Nat} {a0 a1 a2 : Value} {s0 : Nat} {h : AHp} : Rf d 101 144 [a0, a1, a2] [.ref s0] h = if cls (h.1 s0) = 11 ∧ oKr (h.1 s0) 0 = true then Rf d 101 147 [a0, a1, a2] [.ref (oR (h.1 s0) 0)] h else Rx d 101 144 [a0, a1, a2] [.ref s0] h := getR c101_144
theorem c101_147 : cd 101 147 = some (147, .getfield 127, 3, [(6, 7)]) := by decide +kernel
theorem x101_147 {d : Nat} {a0 a1 a2 : Value} {s0 : Nat} {h : AHp} : Rf d 101 147 [a0, a1, a2] [.ref s0] h = if cls (h.1 s0) = 6 ∧ oKr (h.1 s0) 7 = true then Rf d 101 150 [a0, a1, a2] [.ref (oR (h.1 s0) 7)] h else Rx d 101 147 [a0, a1, a2] [.ref s0] h := getR c101_147
theorem c101_150 : cd 101 150 = some (150, .iload_n 1, 1, []) := by decide +kernel
theorem x101_150 {d : Nat} {a0 a2 : Value} {s0 : Nat} {x : Int32} {h : AHp} : Rf d 101 150 [a0, .int x, a2] [.ref s0] h = Rf d 101 151 [a0, .int x, a2] [.int x, .ref s0] h := Rf_go ((stp_of c101_150).trans rfl)
theorem c101_151 : cd 101 151 = some (151, .aaload, 1, []) := by decide +kernel
theorem x101_151 {d : Nat} {a0 a1 a2 : Value} {s0 : Int32} {s1 : Nat} {h : AHp} : Rf d 101 151 [a0, a1, a2] [.int s0, .ref s1] h = if aTq (h.1 s1) = 3 ∧ inB s0 (aN (h.1 s1)) = true ∧ (aG (h.1 s1) s0.toNatClampNeg).isSome = true then Rf d 101 152 [a0, a1, a2] [.ref ((aG (h.1 s1) s0.toNatClampNeg).getD 0)] h else Rx d 101 151 [a0, a1, a2] [.int s0, .ref s1] h := ldQ c101_151
theorem c101_152 : cd 101 152 = some (152, .getfield 136, 3, [(0, 1), (1, 1), (2, 1), (4, 1), (5, 1), (8, 1), (9, 1)]) := by decide +kernel
theorem x101_152 {d : Nat} {a0 a1 a2 : Value} {s0 : Nat} {h : AHp} : Rf d 101 152 [a0, a1, a2] [.ref s0] h = if fIx [(0, 1), (1, 1), (2, 1), (4, 1), (5, 1), (8, 1), (9, 1)] (cls (h.1 s0)) = some 1 ∧ oKi (h.1 s0) 1 = true then Rf d 101 155 [a0, a1, a2] [.int (oN (h.1 s0) 1)] h else Rx d 101 152 [a0, a1, a2] [.ref s0] h := getIk c101_152
theorem c101_155 : cd 101 155 = some (155, .ireturn, 1, []) := by decide +kernel
theorem x101_155 {d : Nat} {a0 a1 a2 : Value} {s0 : Int32} {h : AHp} : Rf d 101 155 [a0, a1, a2] [.int s0] h = some (some (.int s0), h) := Rf_end (by rw [stp_of c101_155]; simp only [stpI]; rw [if_pos (show retI (mH 101).2.2.1 s0 = true from retI_int)])
theorem c101_130 : cd 101 130 = some (130, .aload_n 0, 1, []) := by decide +kernel
theorem x101_130 {d : Nat} {a1 a2 : Value} {x : Nat} {h : AHp} : Rf d 101 130 [.ref x, a1, a2] [] h = Rf d 101 131 [.ref x, a1, a2] [.ref x] h := Rf_go ((stp_of c101_130).trans rfl)
theorem c101_131 : cd 101 131 = some (131, .getfield 10, 3, [(11, 0)]) := by decide +kernel
theorem x101_131 {d : Nat} {a0 a1 a2 : Value} {s0 : Nat} {h : AHp} : Rf d 101 131 [a0, a1, a2] [.ref s0] h = if cls (h.1 s0) = 11 ∧ oKr (h.1 s0) 0 = true then Rf d 101 134 [a0, a1, a2] [.ref (oR (h.1 s0) 0)] h else Rx d 101 131 [a0, a1, a2] [.ref s0] h := getR c101_131
theorem c101_134 : cd 101 134 = some (134, .getfield 127, 3, [(6, 7)]) := by decide +kernel
theorem x101_134 {d : Nat} {a0 a1 a2 : Value} {s0 : Nat} {h : AHp} : Rf d 101 134 [a0, a1, a2] [.ref s0] h = if cls (h.1 s0) = 6 ∧ oKr (h.1 s0) 7 = true then Rf d 101 137 [a0, a1, a2] [.ref (oR (h.1 s0) 7)] h else Rx d 101 134 [a0, a1, a2] [.ref s0] h := getR c101_134
theorem c101_137 : cd 101 137 = some (137, .iload_n 1, 1, []) := by decide +kernel
theorem x101_137 {d : Nat} {a0 a2 : Value} {s0 : Nat} {x : Int32} {h : AHp} : Rf d 101 137 [a0, .int x, a2] [.ref s0] h = Rf d 101 138 [a0, .int x, a2] [.int x, .ref s0] h := Rf_go ((stp_of c101_137).trans rfl)
theorem c101_138 : cd 101 138 = some (138, .aaload, 1, []) := by decide +kernel
theorem x101_138 {d : Nat} {a0 a1 a2 : Value} {s0 : Int32} {s1 : Nat} {h : AHp} : Rf d 101 138 [a0, a1, a2] [.int s0, .ref s1] h = if aTq (h.1 s1) = 3 ∧ inB s0 (aN (h.1 s1)) = true ∧ (aG (h.1 s1) s0.toNatClampNeg).isSome = true then Rf d 101 139 [a0, a1, a2] [.ref ((aG (h.1 s1) s0.toNatClampNeg).getD 0)] h else Rx d 101 138 [a0, a1, a2] [.int s0, .ref s1] h := ldQ c101_138
theorem c101_139 : cd 101 139 = some (139, .invokevirtual 131, 3, [(0, 1), (1, 5), (2, 9), (4, 30), (5, 36), (8, 85), (9, 89), (201, 4), (202, 4)]) := by decide +kernel
theorem xc101_139_0 {d : Nat} {a0 a1 a2 : Value} {s0 : Nat} {h : AHp} {h1 : AHp} {v : Int32} (hr : cls (h.1 s0) = 0) (hq : Rf d 1 0 [.ref s0] [] h = some (some (.int v), h1)) : Rf (d + 1) 101 139 [a0, a1, a2] [.ref s0] h = Rf (d + 1) 101 142 [a0, a1, a2] [.int v] h1 := clV (c := 1) (as := []) c101_139 rfl (by simp [isV]) (by rw [hr]; rfl) hq
theorem xc101_139_1 {d : Nat} {a0 a1 a2 : Value} {s0 : Nat} {h : AHp} {h1 : AHp} {v : Int32} (hr : cls (h.1 s0) = 1) (hq : Rf d 5 0 [.ref s0] [] h = some (some (.int v), h1)) : Rf (d + 1) 101 139 [a0, a1, a2] [.ref s0] h = Rf (d + 1) 101 142 [a0, a1, a2] [.int v] h1 := clV (c := 5) (as := []) c101_139 rfl (by simp [isV]) (by rw [hr]; rfl) hq
theorem xc101_139_2 {d : Nat} {a0 a1 a2 : Value} {s0 : Nat} {h : AHp} {h1 : AHp} {v : Int32} (hr : cls (h.1 s0) = 2) (hq : Rf d 9 0 [.ref s0] [] h = some (some (.int v), h1)) : Rf (d + 1) 101 139 [a0, a1, a2] [.ref s0] h = Rf (d + 1) 101 142 [a0, a1, a2] [.int v] h1 := clV (c := 9) (as := []) c101_139 rfl (by simp [isV]) (by rw [hr]; rfl) hq
theorem xc101_139_4 {d : Nat} {a0 a1 a2 : Value} {s0 : Nat} {h : AHp} {h1 : AHp} {v : Int32} (hr : cls (h.1 s0) = 4) (hq : Rf d 30 0 [.ref s0] [] h = some (some (.int v), h1)) : Rf (d + 1) 101 139 [a0, a1, a2] [.ref s0] h = Rf (d + 1) 101 142 [a0, a1, a2] [.int v] h1 := clV (c := 30) (as := []) c101_139 rfl (by simp [isV]) (by rw [hr]; rfl) hq
theorem xc101_139_5 {d : Nat} {a0 a1 a2 : Value} {s0 : Nat} {h : AHp} {h1 : AHp} {v : Int32} (hr : cls (h.1 s0) = 5) (hq : Rf d 36 0 [.ref s0] [] h = some (some (.int v), h1)) : Rf (d + 1) 101 139 [a0, a1, a2] [.ref s0] h = Rf (d + 1) 101 142 [a0, a1, a2] [.int v] h1 := clV (c := 36) (as := []) c101_139 rfl (by simp [isV]) (by rw [hr]; rfl) hq
theorem xc101_139_8 {d : Nat} {a0 a1 a2 : Value} {s0 : Nat} {h : AHp} {h1 : AHp} {v : Int32} (hr : cls (h.1 s0) = 8) (hq : Rf d 85 0 [.ref s0] [] h = some (some (.int v), h1)) : Rf (d + 1) 101 139 [a0, a1, a2] [.ref s0] h = Rf (d + 1) 101 142 [a0, a1, a2] [.int v] h1 := clV (c := 85) (as := []) c101_139 rfl (by simp [isV]) (by rw [hr]; rfl) hq
theorem xc101_139_9 {d : Nat} {a0 a1 a2 : Value} {s0 : Nat} {h : AHp} {h1 : AHp} {v : Int32} (hr : cls (h.1 s0) = 9) (hq : Rf d 89 0 [.ref s0] [] h = some (some (.int v), h1)) : Rf (d + 1) 101 139 [a0, a1, a2] [.ref s0] h = Rf (d + 1) 101 142 [a0, a1, a2] [.int v] h1 := clV (c := 89) (as := []) c101_139 rfl (by simp [isV]) (by rw [hr]; rfl) hq
theorem c101_142 : cd 101 142 = some (142, .ireturn, 1, []) := by decide +kernel
theorem x101_142 {d : Nat} {a0 a1 a2 : Value} {s0 : Int32} {h : AHp} : Rf d 101 142 [a0, a1, a2] [.int s0] h = some (some (.int s0), h) := Rf_end (by rw [stp_of c101_142]; simp only [stpI]; rw [if_pos (show retI (mH 101).2.2.1 s0 = true from retI_int)])
theorem c101_120 : cd 101 120 = some (120, .aload_n 0, 1, []) := by decide +kernel
theorem x101_120 {d : Nat} {a1 a2 : Value} {x : Nat} {h : AHp} : Rf d 101 120 [.ref x, a1, a2] [] h = Rf d 101 121 [.ref x, a1, a2] [.ref x] h := Rf_go ((stp_of c101_120).trans rfl)
theorem c101_121 : cd 101 121 = some (121, .getfield 10, 3, [(11, 0)]) := by decide +kernel
theorem x101_121 {d : Nat} {a0 a1 a2 : Value} {s0 : Nat} {h : AHp} : Rf d 101 121 [a0, a1, a2] [.ref s0] h = if cls (h.1 s0) = 11 ∧ oKr (h.1 s0) 0 = true then Rf d 101 124 [a0, a1, a2] [.ref (oR (h.1 s0) 0)] h else Rx d 101 121 [a0, a1, a2] [.ref s0] h := getR c101_121
theorem c101_124 : cd 101 124 = some (124, .getfield 112, 3, [(6, 6)]) := by decide +kernel
theorem x101_124 {d : Nat} {a0 a1 a2 : Value} {s0 : Nat} {h : AHp} : Rf d 101 124 [a0, a1, a2] [.ref s0] h = if cls (h.1 s0) = 6 ∧ oKr (h.1 s0) 6 = true then Rf d 101 127 [a0, a1, a2] [.ref (oR (h.1 s0) 6)] h else Rx d 101 124 [a0, a1, a2] [.ref s0] h := getR c101_124
theorem c101_127 : cd 101 127 = some (127, .iload_n 1, 1, []) := by decide +kernel
theorem x101_127 {d : Nat} {a0 a2 : Value} {s0 : Nat} {x : Int32} {h : AHp} : Rf d 101 127 [a0, .int x, a2] [.ref s0] h = Rf d 101 128 [a0, .int x, a2] [.int x, .ref s0] h := Rf_go ((stp_of c101_127).trans rfl)
theorem c101_128 : cd 101 128 = some (128, .iaload, 1, []) := by decide +kernel
theorem x101_128 {d : Nat} {a0 a1 a2 : Value} {s0 : Int32} {s1 : Nat} {h : AHp} : Rf d 101 128 [a0, a1, a2] [.int s0, .ref s1] h = if (aT (h.1 s1) = 0 ∨ aT (h.1 s1) = 10) ∧ inB s0 (aN (h.1 s1)) = true then Rf d 101 129 [a0, a1, a2] [.int (aF (h.1 s1) s0.toNatClampNeg)] h else Rx d 101 128 [a0, a1, a2] [.int s0, .ref s1] h := ldI c101_128
theorem c101_129 : cd 101 129 = some (129, .ireturn, 1, []) := by decide +kernel
theorem x101_129 {d : Nat} {a0 a1 a2 : Value} {s0 : Int32} {h : AHp} : Rf d 101 129 [a0, a1, a2] [.int s0] h = some (some (.int s0), h) := Rf_end (by rw [stp_of c101_129]; simp only [stpI]; rw [if_pos (show retI (mH 101).2.2.1 s0 = true from retI_int)])
theorem c101_110 : cd 101 110 = some (110, .aload_n 0, 1, []) := by decide +kernel
theorem x101_110 {d : Nat} {a1 a2 : Value} {x : Nat} {h : AHp} : Rf d 101 110 [.ref x, a1, a2] [] h = Rf d 101 111 [.ref x, a1, a2] [.ref x] h := Rf_go ((stp_of c101_110).trans rfl)
theorem c101_111 : cd 101 111 = some (111, .getfield 10, 3, [(11, 0)]) := by decide +kernel
theorem x101_111 {d : Nat} {a0 a1 a2 : Value} {s0 : Nat} {h : AHp} : Rf d 101 111 [a0, a1, a2] [.ref s0] h = if cls (h.1 s0) = 11 ∧ oKr (h.1 s0) 0 = true then Rf d 101 114 [a0, a1, a2] [.ref (oR (h.1 s0) 0)] h else Rx d 101 111 [a0, a1, a2] [.ref s0] h := getR c101_111
theorem c101_114 : cd 101 114 = some (114, .getfield 124, 3, [(6, 5)]) := by decide +kernel
theorem x101_114 {d : Nat} {a0 a1 a2 : Value} {s0 : Nat} {h : AHp} : Rf d 101 114 [a0, a1, a2] [.ref s0] h = if cls (h.1 s0) = 6 ∧ oKr (h.1 s0) 5 = true then Rf d 101 117 [a0, a1, a2] [.ref (oR (h.1 s0) 5)] h else Rx d 101 114 [a0, a1, a2] [.ref s0] h := getR c101_114
theorem c101_117 : cd 101 117 = some (117, .iload_n 1, 1, []) := by decide +kernel
theorem x101_117 {d : Nat} {a0 a2 : Value} {s0 : Nat} {x : Int32} {h : AHp} : Rf d 101 117 [a0, .int x, a2] [.ref s0] h = Rf d 101 118 [a0, .int x, a2] [.int x, .ref s0] h := Rf_go ((stp_of c101_117).trans rfl)
theorem c101_118 : cd 101 118 = some (118, .iaload, 1, []) := by decide +kernel
theorem x101_118 {d : Nat} {a0 a1 a2 : Value} {s0 : Int32} {s1 : Nat} {h : AHp} : Rf d 101 118 [a0, a1, a2] [.int s0, .ref s1] h = if (aT (h.1 s1) = 0 ∨ aT (h.1 s1) = 10) ∧ inB s0 (aN (h.1 s1)) = true then Rf d 101 119 [a0, a1, a2] [.int (aF (h.1 s1) s0.toNatClampNeg)] h else Rx d 101 118 [a0, a1, a2] [.int s0, .ref s1] h := ldI c101_118
theorem c101_119 : cd 101 119 = some (119, .ireturn, 1, []) := by decide +kernel
theorem x101_119 {d : Nat} {a0 a1 a2 : Value} {s0 : Int32} {h : AHp} : Rf d 101 119 [a0, a1, a2] [.int s0] h = some (some (.int s0), h) := Rf_end (by rw [stp_of c101_119]; simp only [stpI]; rw [if_pos (show retI (mH 101).2.2.1 s0 = true from retI_int)])
theorem c101_100 : cd 101 100 = some (100, .aload_n 0, 1, []) := by decide +kernel
theorem x101_100 {d : Nat} {a1 a2 : Value} {x : Nat} {h : AHp} : Rf d 101 100 [.ref x, a1, a2] [] h = Rf d 101 101 [.ref x, a1, a2] [.ref x] h := Rf_go ((stp_of c101_100).trans rfl)
theorem c101_101 : cd 101 101 = some (101, .getfield 10, 3, [(11, 0)]) := by decide +kernel
theorem x101_101 {d : Nat} {a0 a1 a2 : Value} {s0 : Nat} {h : AHp} : Rf d 101 101 [a0, a1, a2] [.ref s0] h = if cls (h.1 s0) = 11 ∧ oKr (h.1 s0) 0 = true then Rf d 101 104 [a0, a1, a2] [.ref (oR (h.1 s0) 0)] h else Rx d 101 101 [a0, a1, a2] [.ref s0] h := getR c101_101
theorem c101_104 : cd 101 104 = some (104, .getfield 121, 3, [(6, 4)]) := by decide +kernel
theorem x101_104 {d : Nat} {a0 a1 a2 : Value} {s0 : Nat} {h : AHp} : Rf d 101 104 [a0, a1, a2] [.ref s0] h = if cls (h.1 s0) = 6 ∧ oKr (h.1 s0) 4 = true then Rf d 101 107 [a0, a1, a2] [.ref (oR (h.1 s0) 4)] h else Rx d 101 104 [a0, a1, a2] [.ref s0] h := getR c101_104
theorem c101_107 : cd 101 107 = some (107, .iload_n 1, 1, []) := by decide +kernel
theorem x101_107 {d : Nat} {a0 a2 : Value} {s0 : Nat} {x : Int32} {h : AHp} : Rf d 101 107 [a0, .int x, a2] [.ref s0] h = Rf d 101 108 [a0, .int x, a2] [.int x, .ref s0] h := Rf_go ((stp_of c101_107).trans rfl)
theorem c101_108 : cd 101 108 = some (108, .iaload, 1, []) := by decide +kernel
theorem x101_108 {d : Nat} {a0 a1 a2 : Value} {s0 : Int32} {s1 : Nat} {h : AHp} : Rf d 101 108 [a0, a1, a2] [.int s0, .ref s1] h = if (aT (h.1 s1) = 0 ∨ aT (h.1 s1) = 10) ∧ inB s0 (aN (h.1 s1)) = true then Rf d 101 109 [a0, a1, a2] [.int (aF (h.1 s1) s0.toNatClampNeg)] h else Rx d 101 108 [a0, a1, a2] [.int s0, .ref s1] h := ldI c101_108
theorem c101_109 : cd 101 109 = some (109, .ireturn, 1, []) := by decide +kernel
theorem x101_109 {d : Nat} {a0 a1 a2 : Value} {s0 : Int32} {h : AHp} : Rf d 101 109 [a0, a1, a2] [.int s0] h = some (some (.int s0), h) := Rf_end (by rw [stp_of c101_109]; simp only [stpI]; rw [if_pos (show retI (mH 101).2.2.1 s0 = true from retI_int)])
theorem c101_90 : cd 101 90 = some (90, .aload_n 0, 1, []) := by decide +kernel
theorem x101_90 {d : Nat} {a1 a2 : Value} {x : Nat} {h : AHp} : Rf d 101 90 [.ref x, a1, a2] [] h = Rf d 101 91 [.ref x, a1, a2] [.ref x] h := Rf_go ((stp_of c101_90).trans rfl)
theorem c101_91 : cd 101 91 = some (91, .getfield 10, 3, [(11, 0)]) := by decide +kernel
theorem x101_91 {d : Nat} {a0 a1 a2 : Value} {s0 : Nat} {h : AHp} : Rf d 101 91 [a0, a1, a2] [.ref s0] h = if cls (h.1 s0) = 11 ∧ oKr (h.1 s0) 0 = true then Rf d 101 94 [a0, a1, a2] [.ref (oR (h.1 s0) 0)] h else Rx d 101 91 [a0, a1, a2] [.ref s0] h := getR c101_91
theorem c101_94 : cd 101 94 = some (94, .getfield 118, 3, [(6, 3)]) := by decide +kernel
theorem x101_94 {d : Nat} {a0 a1 a2 : Value} {s0 : Nat} {h : AHp} : Rf d 101 94 [a0, a1, a2] [.ref s0] h = if cls (h.1 s0) = 6 ∧ oKr (h.1 s0) 3 = true then Rf d 101 97 [a0, a1, a2] [.ref (oR (h.1 s0) 3)] h else Rx d 101 94 [a0, a1, a2] [.ref s0] h := getR c101_94
theorem c101_97 : cd 101 97 = some (97, .iload_n 1, 1, []) := by decide +kernel
theorem x101_97 {d : Nat} {a0 a2 : Value} {s0 : Nat} {x : Int32} {h : AHp} : Rf d 101 97 [a0, .int x, a2] [.ref s0] h = Rf d 101 98 [a0, .int x, a2] [.int x, .ref s0] h := Rf_go ((stp_of c101_97).trans rfl)
theorem c101_98 : cd 101 98 = some (98, .iaload, 1, []) := by decide +kernel
theorem x101_98 {d : Nat} {a0 a1 a2 : Value} {s0 : Int32} {s1 : Nat} {h : AHp} : Rf d 101 98 [a0, a1, a2] [.int s0, .ref s1] h = if (aT (h.1 s1) = 0 ∨ aT (h.1 s1) = 10) ∧ inB s0 (aN (h.1 s1)) = true then Rf d 101 99 [a0, a1, a2] [.int (aF (h.1 s1) s0.toNatClampNeg)] h else Rx d 101 98 [a0, a1, a2] [.int s0, .ref s1] h := ldI c101_98
theorem c101_99 : cd 101 99 = some (99, .ireturn, 1, []) := by decide +kernel
theorem x101_99 {d : Nat} {a0 a1 a2 : Value} {s0 : Int32} {h : AHp} : Rf d 101 99 [a0, a1, a2] [.int s0] h = some (some (.int s0), h) := Rf_end (by rw [stp_of c101_99]; simp only [stpI]; rw [if_pos (show retI (mH 101).2.2.1 s0 = true from retI_int)])
theorem c101_80 : cd 101 80 = some (80, .aload_n 0, 1, []) := by decide +kernel
theorem x101_80 {d : Nat} {a1 a2 : Value} {x : Nat} {h : AHp} : Rf d 101 80 [.ref x, a1, a2] [] h = Rf d 101 81 [.ref x, a1, a2] [.ref x] h := Rf_go ((stp_of c101_80).trans rfl)
theorem c101_81 : cd 101 81 = some (81, .getfield 10, 3, [(11, 0)]) := by decide +kernel
theorem x101_81 {d : Nat} {a0 a1 a2 : Value} {s0 : Nat} {h : AHp} : Rf d 101 81 [a0, a1, a2] [.ref s0] h = if cls (h.1 s0) = 11 ∧ oKr (h.1 s0) 0 = true then Rf d 101 84 [a0, a1, a2] [.ref (oR (h.1 s0) 0)] h else Rx d 101 81 [a0, a1, a2] [.ref s0] h := getR c101_81
theorem c101_84 : cd 101 84 = some (84, .getfield 115, 3, [(6, 1)]) := by decide +kernel
theorem x101_84 {d : Nat} {a0 a1 a2 : Value} {s0 : Nat} {h : AHp} : Rf d 101 84 [a0, a1, a2] [.ref s0] h = if cls (h.1 s0) = 6 ∧ oKr (h.1 s0) 1 = true then Rf d 101 87 [a0, a1, a2] [.ref (oR (h.1 s0) 1)] h else Rx d 101 84 [a0, a1, a2] [.ref s0] h := getR c101_84
theorem c101_87 : cd 101 87 = some (87, .iload_n 1, 1, []) := by decide +kernel
theorem x101_87 {d : Nat} {a0 a2 : Value} {s0 : Nat} {x : Int32} {h : AHp} : Rf d 101 87 [a0, .int x, a2] [.ref s0] h = Rf d 101 88 [a0, .int x, a2] [.int x, .ref s0] h := Rf_go ((stp_of c101_87).trans rfl)
theorem c101_88 : cd 101 88 = some (88, .iaload, 1, []) := by decide +kernel
theorem x101_88 {d : Nat} {a0 a1 a2 : Value} {s0 : Int32} {s1 : Nat} {h : AHp} : Rf d 101 88 [a0, a1, a2] [.int s0, .ref s1] h = if (aT (h.1 s1) = 0 ∨ aT (h.1 s1) = 10) ∧ inB s0 (aN (h.1 s1)) = true then Rf d 101 89 [a0, a1, a2] [.int (aF (h.1 s1) s0.toNatClampNeg)] h else Rx d 101 88 [a0, a1, a2] [.int s0, .ref s1] h := ldI c101_88
theorem c101_89 : cd 101 89 = some (89, .ireturn, 1, []) := by decide +kernel
theorem x101_89 {d : Nat} {a0 a1 a2 : Value} {s0 : Int32} {h : AHp} : Rf d 101 89 [a0, a1, a2] [.int s0] h = some (some (.int s0), h) := Rf_end (by rw [stp_of c101_89]; simp only [stpI]; rw [if_pos (show retI (mH 101).2.2.1 s0 = true from retI_int)])
theorem c101_209 : cd 101 209 = some (209, .sipush (-10001), 3, []) := by decide +kernel
theorem x101_209 {d : Nat} {a0 a1 a2 : Value} {h : AHp} : Rf d 101 209 [a0, a1, a2] [] h = Rf d 101 212 [a0, a1, a2] [.int (-10001)] h := Rf_go ((stp_of c101_209).trans rfl)
theorem c101_212 : cd 101 212 = some (212, .ireturn, 1, []) := by decide +kernel
theorem x101_212 {d : Nat} {a0 a1 a2 : Value} {s0 : Int32} {h : AHp} : Rf d 101 212 [a0, a1, a2] [.int s0] h = some (some (.int s0), h) := Rf_end (by rw [stp_of c101_212]; simp only [stpI]; rw [if_pos (show retI (mH 101).2.2.1 s0 = true from retI_int)])
theorem c101_11 : cd 101 11 = some (11, .sipush (-10001), 3, []) := by decide +kernel
theorem x101_11 {d : Nat} {a0 a1 a2 : Value} {h : AHp} : Rf d 101 11 [a0, a1, a2] [] h = Rf d 101 14 [a0, a1, a2] [.int (-10001)] h := Rf_go ((stp_of c101_11).trans rfl)
theorem c101_14 : cd 101 14 = some (14, .ireturn, 1, []) := by decide +kernel
theorem x101_14 {d : Nat} {a0 a1 a2 : Value} {s0 : Int32} {h : AHp} : Rf d 101 14 [a0, a1, a2] [.int s0] h = some (some (.int s0), h) := Rf_end (by rw [stp_of c101_14]; simp only [stpI]; rw [if_pos (show retI (mH 101).2.2.1 s0 = true from retI_int)])
-- 102: X11_set
theorem c102_0 : cd 102 0 = some (0, .aload_n 0, 1, []) := by decide +kernel
theorem x102_0 {d : Nat} {a1 a2 a3 a4 a5 : Value} {x : Nat} {h : AHp} : Rf d 102 0 [.ref x, a1, a2, a3, a4, a5] [] h = Rf d 102 1 [.ref x, a1, a2, a3, a4, a5] [.ref x] h := Rf_go ((stp_of c102_0).trans rfl)
theorem c102_1 : cd 102 1 = some (1, .getfield 10, 3, [(11, 0)]) := by decide +kernel
theorem x102_1 {d : Nat} {a0 a1 a2 a3 a4 a5 : Value} {s0 : Nat} {h : AHp} : Rf d 102 1 [a0, a1, a2, a3, a4, a5] [.ref s0] h = if cls (h.1 s0) = 11 ∧ oKr (h.1 s0) 0 = true then Rf d 102 4 [a0, a1, a2, a3, a4, a5] [.ref (oR (h.1 s0) 0)] h else Rx d 102 1 [a0, a1, a2, a3, a4, a5] [.ref s0] h := getR c102_1
theorem c102_4 : cd 102 4 = some (4, .iload_n 1, 1, []) := by decide +kernel
theorem x102_4 {d : Nat} {a0 a2 a3 a4 a5 : Value} {s0 : Nat} {x : Int32} {h : AHp} : Rf d 102 4 [a0, .int x, a2, a3, a4, a5] [.ref s0] h = Rf d 102 5 [a0, .int x, a2, a3, a4, a5] [.int x, .ref s0] h := Rf_go ((stp_of c102_4).trans rfl)
theorem c102_5 : cd 102 5 = some (5, .invokevirtual 104, 3, [(6, 42)]) := by decide +kernel
theorem xc102_5 {d : Nat} {a0 a1 a2 a3 a4 a5 : Value} {s0 : Int32} {s1 : Nat} {h : AHp} {h1 : AHp} {v : Int32} (hr : cls (h.1 s1) = 6) (hq : Rf d 42 0 [.ref s1, .int s0] [] h = some (some (.int v), h1)) : Rf (d + 1) 102 5 [a0, a1, a2, a3, a4, a5] [.int s0, .ref s1] h = Rf (d + 1) 102 8 [a0, a1, a2, a3, a4, a5] [.int v] h1 := clV (c := 42) (as := [.int s0]) c102_5 rfl (by simp [isV]) (by rw [hr]; rfl) hq
theorem c102_8 : cd 102 8 = some (8, .ifCond .eq 11, 3, [(19, 0)]) := by decide +kernel
theorem x102_8 {d : Nat} {a0 a1 a2 a3 a4 a5 : Value} {s0 : Int32} {h : AHp} : Rf d 102 8 [a0, a1, a2, a3, a4, a5] [.int s0] h = if s0 = 0 then Rf d 102 19 [a0, a1, a2, a3, a4, a5] [] h else Rf d 102 11 [a0, a1, a2, a3, a4, a5] [] h := Rf_brd ((stp_of c102_8).trans rfl)
theorem c102_19 : cd 102 19 = some (19, .iconst (-1), 1, []) := by decide +kernel
theorem x102_19 {d : Nat} {a0 a1 a2 a3 a4 a5 : Value} {h : AHp} : Rf d 102 19 [a0, a1, a2, a3, a4, a5] [] h = Rf d 102 20 [a0, a1, a2, a3, a4, a5] [.int (-1)] h := Rf_go ((stp_of c102_19).trans rfl)
theorem c102_20 : cd 102 20 = some (20, .ireturn, 1, []) := by decide +kernel
theorem x102_20 {d : Nat} {a0 a1 a2 a3 a4 a5 : Value} {s0 : Int32} {h : AHp} : Rf d 102 20 [a0, a1, a2, a3, a4, a5] [.int s0] h = some (some (.int s0), h) := Rf_end (by rw [stp_of c102_20]; simp only [stpI]; rw [if_pos (show retI (mH 102).2.2.1 s0 = true from retI_int)])
theorem c102_11 : cd 102 11 = some (11, .iload_n 2, 1, []) := by decide +kernel
theorem x102_11 {d : Nat} {a0 a1 a3 a4 a5 : Value} {x : Int32} {h : AHp} : Rf d 102 11 [a0, a1, .int x, a3, a4, a5] [] h = Rf d 102 12 [a0, a1, .int x, a3, a4, a5] [.int x] h := Rf_go ((stp_of c102_11).trans rfl)
theorem c102_12 : cd 102 12 = some (12, .iconst 1, 1, []) := by decide +kernel
theorem x102_12 {d : Nat} {a0 a1 a2 a3 a4 a5 : Value} {s0 : Int32} {h : AHp} : Rf d 102 12 [a0, a1, a2, a3, a4, a5] [.int s0] h = Rf d 102 13 [a0, a1, a2, a3, a4, a5] [.int 1, .int s0] h := Rf_go ((stp_of c102_12).trans rfl)
theorem c102_13 : cd 102 13 = some (13, .invokestatic 39, 3, [(0, 129)]) := by decide +kernel
theorem xc102_13 {d : Nat} {a0 a1 a2 a3 a4 a5 : Value} {s0 : Int32} {s1 : Int32} {h : AHp} {h1 : AHp} {v : Int32} (hq : Rf d 129 0 [.int s1, .int s0] [] h = some (some (.int v), h1)) : Rf (d + 1) 102 13 [a0, a1, a2, a3, a4, a5] [.int s0, .int s1] h = Rf (d + 1) 102 16 [a0, a1, a2, a3, a4, a5] [.int v] h1 := clS (as := [.int s1, .int s0]) c102_13 rfl rfl (by simp [isV]) hq
theorem c102_16 : cd 102 16 = some (16, .ifCond .ne 5, 3, [(21, 0)]) := by decide +kernel
theorem x102_16 {d : Nat} {a0 a1 a2 a3 a4 a5 : Value} {s0 : Int32} {h : AHp} : Rf d 102 16 [a0, a1, a2, a3, a4, a5] [.int s0] h = if s0 = 0 then Rf d 102 19 [a0, a1, a2, a3, a4, a5] [] h else Rf d 102 21 [a0, a1, a2, a3, a4, a5] [] h := Rf_brn ((stp_of c102_16).trans rfl)
theorem c102_21 : cd 102 21 = some (21, .iload_n 3, 1, []) := by decide +kernel
theorem x102_21 {d : Nat} {a0 a1 a2 a4 a5 : Value} {x : Int32} {h : AHp} : Rf d 102 21 [a0, a1, a2, .int x, a4, a5] [] h = Rf d 102 22 [a0, a1, a2, .int x, a4, a5] [.int x] h := Rf_go ((stp_of c102_21).trans rfl)
theorem c102_22 : cd 102 22 = some (22, .sipush 999, 3, []) := by decide +kernel
theorem x102_22 {d : Nat} {a0 a1 a2 a3 a4 a5 : Value} {s0 : Int32} {h : AHp} : Rf d 102 22 [a0, a1, a2, a3, a4, a5] [.int s0] h = Rf d 102 25 [a0, a1, a2, a3, a4, a5] [.int 999, .int s0] h := Rf_go ((stp_of c102_22).trans rfl)
theorem c102_25 : cd 102 25 = some (25, .invokestatic 39, 3, [(0, 129)]) := by decide +kernel
theorem xc102_25 {d : Nat} {a0 a1 a2 a3 a4 a5 : Value} {s0 : Int32} {s1 : Int32} {h : AHp} {h1 : AHp} {v : Int32} (hq : Rf d 129 0 [.int s1, .int s0] [] h = some (some (.int v), h1)) : Rf (d + 1) 102 25 [a0, a1, a2, a3, a4, a5] [.int s0, .int s1] h = Rf (d + 1) 102 28 [a0, a1, a2, a3, a4, a5] [.int v] h1 := clS (as := [.int s1, .int s0]) c102_25 rfl rfl (by simp [isV]) hq
theorem c102_28 : cd 102 28 = some (28, .ifCond .ne 6, 3, [(34, 0)]) := by decide +kernel
theorem x102_28 {d : Nat} {a0 a1 a2 a3 a4 a5 : Value} {s0 : Int32} {h : AHp} : Rf d 102 28 [a0, a1, a2, a3, a4, a5] [.int s0] h = if s0 = 0 then Rf d 102 31 [a0, a1, a2, a3, a4, a5] [] h else Rf d 102 34 [a0, a1, a2, a3, a4, a5] [] h := Rf_brn ((stp_of c102_28).trans rfl)
theorem c102_34 : cd 102 34 = some (34, .iload_n 2, 1, []) := by decide +kernel
theorem x102_34 {d : Nat} {a0 a1 a3 a4 a5 : Value} {x : Int32} {h : AHp} : Rf d 102 34 [a0, a1, .int x, a3, a4, a5] [] h = Rf d 102 35 [a0, a1, .int x, a3, a4, a5] [.int x] h := Rf_go ((stp_of c102_34).trans rfl)
theorem c102_35 : cd 102 35 = some (35, .ifCond .ne 13, 3, [(48, 0)]) := by decide +kernel
theorem x102_35 {d : Nat} {a0 a1 a2 a3 a4 a5 : Value} {s0 : Int32} {h : AHp} : Rf d 102 35 [a0, a1, a2, a3, a4, a5] [.int s0] h = if s0 = 0 then Rf d 102 38 [a0, a1, a2, a3, a4, a5] [] h else Rf d 102 48 [a0, a1, a2, a3, a4, a5] [] h := Rf_brn ((stp_of c102_35).trans rfl)
theorem c102_48 : cd 102 48 = some (48, .aload_n 0, 1, []) := by decide +kernel
theorem x102_48 {d : Nat} {a1 a2 a3 a4 a5 : Value} {x : Nat} {h : AHp} : Rf d 102 48 [.ref x, a1, a2, a3, a4, a5] [] h = Rf d 102 49 [.ref x, a1, a2, a3, a4, a5] [.ref x] h := Rf_go ((stp_of c102_48).trans rfl)
theorem c102_49 : cd 102 49 = some (49, .getfield 10, 3, [(11, 0)]) := by decide +kernel
theorem x102_49 {d : Nat} {a0 a1 a2 a3 a4 a5 : Value} {s0 : Nat} {h : AHp} : Rf d 102 49 [a0, a1, a2, a3, a4, a5] [.ref s0] h = if cls (h.1 s0) = 11 ∧ oKr (h.1 s0) 0 = true then Rf d 102 52 [a0, a1, a2, a3, a4, a5] [.ref (oR (h.1 s0) 0)] h else Rx d 102 49 [a0, a1, a2, a3, a4, a5] [.ref s0] h := getR c102_49
theorem c102_52 : cd 102 52 = some (52, .getfield 121, 3, [(6, 4)]) := by decide +kernel
theorem x102_52 {d : Nat} {a0 a1 a2 a3 a4 a5 : Value} {s0 : Nat} {h : AHp} : Rf d 102 52 [a0, a1, a2, a3, a4, a5] [.ref s0] h = if cls (h.1 s0) = 6 ∧ oKr (h.1 s0) 4 = true then Rf d 102 55 [a0, a1, a2, a3, a4, a5] [.ref (oR (h.1 s0) 4)] h else Rx d 102 52 [a0, a1, a2, a3, a4, a5] [.ref s0] h := getR c102_52
theorem c102_55 : cd 102 55 = some (55, .astore 4, 2, []) := by decide +kernel
theorem x102_55 {d : Nat} {a0 a1 a2 a3 a4 a5 : Value} {s0 : Nat} {h : AHp} : Rf d 102 55 [a0, a1, a2, a3, a4, a5] [.ref s0] h = Rf d 102 57 [a0, a1, a2, a3, .ref s0, a5] [] h := Rf_go ((stp_of c102_55).trans rfl)
theorem c102_57 : cd 102 57 = some (57, .aload 4, 2, []) := by decide +kernel
theorem x102_57 {d : Nat} {a0 a1 a2 a3 a5 : Value} {x : Nat} {h : AHp} : Rf d 102 57 [a0, a1, a2, a3, .ref x, a5] [] h = Rf d 102 59 [a0, a1, a2, a3, .ref x, a5] [.ref x] h := Rf_go ((stp_of c102_57).trans rfl)
theorem c102_59 : cd 102 59 = some (59, .iload_n 1, 1, []) := by decide +kernel
theorem x102_59 {d : Nat} {a0 a2 a3 a4 a5 : Value} {s0 : Nat} {x : Int32} {h : AHp} : Rf d 102 59 [a0, .int x, a2, a3, a4, a5] [.ref s0] h = Rf d 102 60 [a0, .int x, a2, a3, a4, a5] [.int x, .ref s0] h := Rf_go ((stp_of c102_59).trans rfl)
theorem c102_60 : cd 102 60 = some (60, .iaload, 1, []) := by decide +kernel
theorem x102_60 {d : Nat} {a0 a1 a2 a3 a4 a5 : Value} {s0 : Int32} {s1 : Nat} {h : AHp} : Rf d 102 60 [a0, a1, a2, a3, a4, a5] [.int s0, .ref s1] h = if (aT (h.1 s1) = 0 ∨ aT (h.1 s1) = 10) ∧ inB s0 (aN (h.1 s1)) = true then Rf d 102 61 [a0, a1, a2, a3, a4, a5] [.int (aF (h.1 s1) s0.toNatClampNeg)] h else Rx d 102 60 [a0, a1, a2, a3, a4, a5] [.int s0, .ref s1] h := ldI c102_60
theorem c102_61 : cd 102 61 = some (61, .istore 5, 2, []) := by decide +kernel
theorem x102_61 {d : Nat} {a0 a1 a2 a3 a4 a5 : Value} {s0 : Int32} {h : AHp} : Rf d 102 61 [a0, a1, a2, a3, a4, a5] [.int s0] h = Rf d 102 63 [a0, a1, a2, a3, a4, .int s0] [] h := Rf_go ((stp_of c102_61).trans rfl)
theorem c102_63 : cd 102 63 = some (63, .aload 4, 2, []) := by decide +kernel
theorem x102_63 {d : Nat} {a0 a1 a2 a3 a5 : Value} {x : Nat} {h : AHp} : Rf d 102 63 [a0, a1, a2, a3, .ref x, a5] [] h = Rf d 102 65 [a0, a1, a2, a3, .ref x, a5] [.ref x] h := Rf_go ((stp_of c102_63).trans rfl)
theorem c102_65 : cd 102 65 = some (65, .iload_n 1, 1, []) := by decide +kernel
theorem x102_65 {d : Nat} {a0 a2 a3 a4 a5 : Value} {s0 : Nat} {x : Int32} {h : AHp} : Rf d 102 65 [a0, .int x, a2, a3, a4, a5] [.ref s0] h = Rf d 102 66 [a0, .int x, a2, a3, a4, a5] [.int x, .ref s0] h := Rf_go ((stp_of c102_65).trans rfl)
theorem c102_66 : cd 102 66 = some (66, .iload_n 3, 1, []) := by decide +kernel
theorem x102_66 {d : Nat} {a0 a1 a2 a4 a5 : Value} {s0 : Int32} {s1 : Nat} {x : Int32} {h : AHp} : Rf d 102 66 [a0, a1, a2, .int x, a4, a5] [.int s0, .ref s1] h = Rf d 102 67 [a0, a1, a2, .int x, a4, a5] [.int x, .int s0, .ref s1] h := Rf_go ((stp_of c102_66).trans rfl)
theorem c102_67 : cd 102 67 = some (67, .iastore, 1, []) := by decide +kernel
theorem x102_67 {d : Nat} {a0 a1 a2 a3 a4 a5 : Value} {s0 : Int32} {s1 : Int32} {s2 : Nat} {h : AHp} : Rf d 102 67 [a0, a1, a2, a3, a4, a5] [.int s0, .int s1, .ref s2] h = if aT (h.1 s2) = 0 ∧ inB s1 (aN (h.1 s2)) = true then Rf d 102 68 [a0, a1, a2, a3, a4, a5] [] (hset h s2 (.inl (0, aN (h.1 s2), .inl (upd (aF (h.1 s2)) s1.toNatClampNeg s0)))) else Rx d 102 67 [a0, a1, a2, a3, a4, a5] [.int s0, .int s1, .ref s2] h := stI c102_67
theorem c102_68 : cd 102 68 = some (68, .iload 5, 2, []) := by decide +kernel
theorem x102_68 {d : Nat} {a0 a1 a2 a3 a4 : Value} {x : Int32} {h : AHp} : Rf d 102 68 [a0, a1, a2, a3, a4, .int x] [] h = Rf d 102 70 [a0, a1, a2, a3, a4, .int x] [.int x] h := Rf_go ((stp_of c102_68).trans rfl)
theorem c102_70 : cd 102 70 = some (70, .ireturn, 1, []) := by decide +kernel
theorem x102_70 {d : Nat} {a0 a1 a2 a3 a4 a5 : Value} {s0 : Int32} {h : AHp} : Rf d 102 70 [a0, a1, a2, a3, a4, a5] [.int s0] h = some (some (.int s0), h) := Rf_end (by rw [stp_of c102_70]; simp only [stpI]; rw [if_pos (show retI (mH 102).2.2.1 s0 = true from retI_int)])
theorem c102_38 : cd 102 38 = some (38, .aload_n 0, 1, []) := by decide +kernel
theorem x102_38 {d : Nat} {a1 a2 a3 a4 a5 : Value} {x : Nat} {h : AHp} : Rf d 102 38 [.ref x, a1, a2, a3, a4, a5] [] h = Rf d 102 39 [.ref x, a1, a2, a3, a4, a5] [.ref x] h := Rf_go ((stp_of c102_38).trans rfl)
theorem c102_39 : cd 102 39 = some (39, .getfield 10, 3, [(11, 0)]) := by decide +kernel
theorem x102_39 {d : Nat} {a0 a1 a2 a3 a4 a5 : Value} {s0 : Nat} {h : AHp} : Rf d 102 39 [a0, a1, a2, a3, a4, a5] [.ref s0] h = if cls (h.1 s0) = 11 ∧ oKr (h.1 s0) 0 = true then Rf d 102 42 [a0, a1, a2, a3, a4, a5] [.ref (oR (h.1 s0) 0)] h else Rx d 102 39 [a0, a1, a2, a3, a4, a5] [.ref s0] h := getR c102_39
theorem c102_42 : cd 102 42 = some (42, .getfield 118, 3, [(6, 3)]) := by decide +kernel
theorem x102_42 {d : Nat} {a0 a1 a2 a3 a4 a5 : Value} {s0 : Nat} {h : AHp} : Rf d 102 42 [a0, a1, a2, a3, a4, a5] [.ref s0] h = if cls (h.1 s0) = 6 ∧ oKr (h.1 s0) 3 = true then Rf d 102 45 [a0, a1, a2, a3, a4, a5] [.ref (oR (h.1 s0) 3)] h else Rx d 102 42 [a0, a1, a2, a3, a4, a5] [.ref s0] h := getR c102_42
theorem c102_45 : cd 102 45 = some (45, .goto 10, 3, [(55, 0)]) := by decide +kernel
theorem x102_45 {d : Nat} {a0 a1 a2 a3 a4 a5 : Value} {s0 : Nat} {h : AHp} : Rf d 102 45 [a0, a1, a2, a3, a4, a5] [.ref s0] h = Rf d 102 55 [a0, a1, a2, a3, a4, a5] [.ref s0] h := Rf_go ((stp_of c102_45).trans rfl)
theorem c102_31 : cd 102 31 = some (31, .bipush (-2), 2, []) := by decide +kernel
theorem x102_31 {d : Nat} {a0 a1 a2 a3 a4 a5 : Value} {h : AHp} : Rf d 102 31 [a0, a1, a2, a3, a4, a5] [] h = Rf d 102 33 [a0, a1, a2, a3, a4, a5] [.int (-2)] h := Rf_go ((stp_of c102_31).trans rfl)
theorem c102_33 : cd 102 33 = some (33, .ireturn, 1, []) := by decide +kernel
theorem x102_33 {d : Nat} {a0 a1 a2 a3 a4 a5 : Value} {s0 : Int32} {h : AHp} : Rf d 102 33 [a0, a1, a2, a3, a4, a5] [.int s0] h = some (some (.int s0), h) := Rf_end (by rw [stp_of c102_33]; simp only [stpI]; rw [if_pos (show retI (mH 102).2.2.1 s0 = true from retI_int)])
-- 103: X11_telling
theorem c103_0 : cd 103 0 = some (0, .iload_n 1, 1, []) := by decide +kernel
theorem x103_0 {d : Nat} {a0 a2 : Value} {x : Int32} {h : AHp} : Rf d 103 0 [a0, .int x, a2] [] h = Rf d 103 1 [a0, .int x, a2] [.int x] h := Rf_go ((stp_of c103_0).trans rfl)
theorem c103_1 : cd 103 1 = some (1, .iconst 3, 1, []) := by decide +kernel
theorem x103_1 {d : Nat} {a0 a1 a2 : Value} {s0 : Int32} {h : AHp} : Rf d 103 1 [a0, a1, a2] [.int s0] h = Rf d 103 2 [a0, a1, a2] [.int 3, .int s0] h := Rf_go ((stp_of c103_1).trans rfl)
theorem c103_2 : cd 103 2 = some (2, .invokestatic 39, 3, [(0, 129)]) := by decide +kernel
theorem xc103_2 {d : Nat} {a0 a1 a2 : Value} {s0 : Int32} {s1 : Int32} {h : AHp} {h1 : AHp} {v : Int32} (hq : Rf d 129 0 [.int s1, .int s0] [] h = some (some (.int v), h1)) : Rf (d + 1) 103 2 [a0, a1, a2] [.int s0, .int s1] h = Rf (d + 1) 103 5 [a0, a1, a2] [.int v] h1 := clS (as := [.int s1, .int s0]) c103_2 rfl rfl (by simp [isV]) hq
theorem c103_5 : cd 103 5 = some (5, .ifCond .ne 5, 3, [(10, 0)]) := by decide +kernel
theorem x103_5 {d : Nat} {a0 a1 a2 : Value} {s0 : Int32} {h : AHp} : Rf d 103 5 [a0, a1, a2] [.int s0] h = if s0 = 0 then Rf d 103 8 [a0, a1, a2] [] h else Rf d 103 10 [a0, a1, a2] [] h := Rf_brn ((stp_of c103_5).trans rfl)
theorem c103_10 : cd 103 10 = some (10, .aload_n 0, 1, []) := by decide +kernel
theorem x103_10 {d : Nat} {a1 a2 : Value} {x : Nat} {h : AHp} : Rf d 103 10 [.ref x, a1, a2] [] h = Rf d 103 11 [.ref x, a1, a2] [.ref x] h := Rf_go ((stp_of c103_10).trans rfl)
theorem c103_11 : cd 103 11 = some (11, .getfield 10, 3, [(11, 0)]) := by decide +kernel
theorem x103_11 {d : Nat} {a0 a1 a2 : Value} {s0 : Nat} {h : AHp} : Rf d 103 11 [a0, a1, a2] [.ref s0] h = if cls (h.1 s0) = 11 ∧ oKr (h.1 s0) 0 = true then Rf d 103 14 [a0, a1, a2] [.ref (oR (h.1 s0) 0)] h else Rx d 103 11 [a0, a1, a2] [.ref s0] h := getR c103_11
theorem c103_14 : cd 103 14 = some (14, .getfield 81, 3, [(6, 8)]) := by decide +kernel
theorem x103_14 {d : Nat} {a0 a1 a2 : Value} {s0 : Nat} {h : AHp} : Rf d 103 14 [a0, a1, a2] [.ref s0] h = if cls (h.1 s0) = 6 ∧ oKi (h.1 s0) 8 = true then Rf d 103 17 [a0, a1, a2] [.int (oN (h.1 s0) 8)] h else Rx d 103 14 [a0, a1, a2] [.ref s0] h := getI c103_14
theorem c103_17 : cd 103 17 = some (17, .istore_n 2, 1, []) := by decide +kernel
theorem x103_17 {d : Nat} {a0 a1 a2 : Value} {s0 : Int32} {h : AHp} : Rf d 103 17 [a0, a1, a2] [.int s0] h = Rf d 103 18 [a0, a1, .int s0] [] h := Rf_go ((stp_of c103_17).trans rfl)
theorem c103_18 : cd 103 18 = some (18, .aload_n 0, 1, []) := by decide +kernel
theorem x103_18 {d : Nat} {a1 a2 : Value} {x : Nat} {h : AHp} : Rf d 103 18 [.ref x, a1, a2] [] h = Rf d 103 19 [.ref x, a1, a2] [.ref x] h := Rf_go ((stp_of c103_18).trans rfl)
theorem c103_19 : cd 103 19 = some (19, .getfield 10, 3, [(11, 0)]) := by decide +kernel
theorem x103_19 {d : Nat} {a0 a1 a2 : Value} {s0 : Nat} {h : AHp} : Rf d 103 19 [a0, a1, a2] [.ref s0] h = if cls (h.1 s0) = 11 ∧ oKr (h.1 s0) 0 = true then Rf d 103 22 [a0, a1, a2] [.ref (oR (h.1 s0) 0)] h else Rx d 103 19 [a0, a1, a2] [.ref s0] h := getR c103_19
theorem c103_22 : cd 103 22 = some (22, .iload_n 1, 1, []) := by decide +kernel
theorem x103_22 {d : Nat} {a0 a2 : Value} {s0 : Nat} {x : Int32} {h : AHp} : Rf d 103 22 [a0, .int x, a2] [.ref s0] h = Rf d 103 23 [a0, .int x, a2] [.int x, .ref s0] h := Rf_go ((stp_of c103_22).trans rfl)
theorem c103_23 : cd 103 23 = some (23, .putfield 81, 3, [(6, 8)]) := by decide +kernel
theorem x103_23 {d : Nat} {a0 a1 a2 : Value} {s0 : Int32} {s1 : Nat} {h : AHp} : Rf d 103 23 [a0, a1, a2] [.int s0, .ref s1] h = if cls (h.1 s1) = 6 ∧ oL (h.1 s1) = 15 then Rf d 103 26 [a0, a1, a2] [] (hset h s1 (oSet (h.1 s1) 8 (.int s0))) else Rx d 103 23 [a0, a1, a2] [.int s0, .ref s1] h := putV c103_23 rfl (fMay_i (by decide +kernel))
theorem c103_26 : cd 103 26 = some (26, .iload_n 2, 1, []) := by decide +kernel
theorem x103_26 {d : Nat} {a0 a1 : Value} {x : Int32} {h : AHp} : Rf d 103 26 [a0, a1, .int x] [] h = Rf d 103 27 [a0, a1, .int x] [.int x] h := Rf_go ((stp_of c103_26).trans rfl)
theorem c103_27 : cd 103 27 = some (27, .ireturn, 1, []) := by decide +kernel
theorem x103_27 {d : Nat} {a0 a1 a2 : Value} {s0 : Int32} {h : AHp} : Rf d 103 27 [a0, a1, a2] [.int s0] h = some (some (.int s0), h) := Rf_end (by rw [stp_of c103_27]; simp only [stpI]; rw [if_pos (show retI (mH 103).2.2.1 s0 = true from retI_int)])
theorem c103_8 : cd 103 8 = some (8, .iconst (-1), 1, []) := by decide +kernel
theorem x103_8 {d : Nat} {a0 a1 a2 : Value} {h : AHp} : Rf d 103 8 [a0, a1, a2] [] h = Rf d 103 9 [a0, a1, a2] [.int (-1)] h := Rf_go ((stp_of c103_8).trans rfl)
theorem c103_9 : cd 103 9 = some (9, .ireturn, 1, []) := by decide +kernel
theorem x103_9 {d : Nat} {a0 a1 a2 : Value} {s0 : Int32} {h : AHp} : Rf d 103 9 [a0, a1, a2] [.int s0] h = some (some (.int s0), h) := Rf_end (by rw [stp_of c103_9]; simp only [stpI]; rw [if_pos (show retI (mH 103).2.2.1 s0 = true from retI_int)])
-- 104: X11_year
theorem c104_0 : cd 104 0 = some (0, .aload_n 0, 1, []) := by decide +kernel
theorem x104_0 {d : Nat} {x : Nat} {h : AHp} : Rf d 104 0 [.ref x] [] h = Rf d 104 1 [.ref x] [.ref x] h := Rf_go ((stp_of c104_0).trans rfl)
theorem c104_1 : cd 104 1 = some (1, .getfield 10, 3, [(11, 0)]) := by decide +kernel
theorem x104_1 {d : Nat} {a0 : Value} {s0 : Nat} {h : AHp} : Rf d 104 1 [a0] [.ref s0] h = if cls (h.1 s0) = 11 ∧ oKr (h.1 s0) 0 = true then Rf d 104 4 [a0] [.ref (oR (h.1 s0) 0)] h else Rx d 104 1 [a0] [.ref s0] h := getR c104_1
theorem c104_4 : cd 104 4 = some (4, .getfield 84, 3, [(6, 9)]) := by decide +kernel
theorem x104_4 {d : Nat} {a0 : Value} {s0 : Nat} {h : AHp} : Rf d 104 4 [a0] [.ref s0] h = if cls (h.1 s0) = 6 ∧ oKi (h.1 s0) 9 = true then Rf d 104 7 [a0] [.int (oN (h.1 s0) 9)] h else Rx d 104 4 [a0] [.ref s0] h := getI c104_4
theorem c104_7 : cd 104 7 = some (7, .bipush 99, 2, []) := by decide +kernel
theorem x104_7 {d : Nat} {a0 : Value} {s0 : Int32} {h : AHp} : Rf d 104 7 [a0] [.int s0] h = Rf d 104 9 [a0] [.int 99, .int s0] h := Rf_go ((stp_of c104_7).trans rfl)
theorem c104_9 : cd 104 9 = some (9, .if_icmp .lt 8, 3, [(17, 0)]) := by decide +kernel
theorem x104_9 {d : Nat} {a0 : Value} {s0 : Int32} {s1 : Int32} {h : AHp} : Rf d 104 9 [a0] [.int s0, .int s1] h = if s1 < s0 then Rf d 104 17 [a0] [] h else Rf d 104 12 [a0] [] h := Rf_brd ((stp_of c104_9).trans rfl)
theorem c104_17 : cd 104 17 = some (17, .aload_n 0, 1, []) := by decide +kernel
theorem x104_17 {d : Nat} {x : Nat} {h : AHp} : Rf d 104 17 [.ref x] [] h = Rf d 104 18 [.ref x] [.ref x] h := Rf_go ((stp_of c104_17).trans rfl)
theorem c104_18 : cd 104 18 = some (18, .getfield 10, 3, [(11, 0)]) := by decide +kernel
theorem x104_18 {d : Nat} {a0 : Value} {s0 : Nat} {h : AHp} : Rf d 104 18 [a0] [.ref s0] h = if cls (h.1 s0) = 11 ∧ oKr (h.1 s0) 0 = true then Rf d 104 21 [a0] [.ref (oR (h.1 s0) 0)] h else Rx d 104 18 [a0] [.ref s0] h := getR c104_18
theorem c104_21 : cd 104 21 = some (21, .invokevirtual 156, 3, [(6, 61)]) := by decide +kernel
theorem xc104_21 {d : Nat} {a0 : Value} {s0 : Nat} {h : AHp} {h1 : AHp} {v : Int32} (hr : cls (h.1 s0) = 6) (hq : Rf d 61 0 [.ref s0, noV, noV, noV, noV] [] h = some (some (.int v), h1)) : Rf (d + 1) 104 21 [a0] [.ref s0] h = Rf (d + 1) 104 24 [a0] [.int v] h1 := clV (c := 61) (as := []) c104_21 rfl (by simp [isV]) (by rw [hr]; rfl) hq
theorem c104_24 : cd 104 24 = some (24, .ireturn, 1, []) := by decide +kernel
theorem x104_24 {d : Nat} {a0 : Value} {s0 : Int32} {h : AHp} : Rf d 104 24 [a0] [.int s0] h = some (some (.int s0), h) := Rf_end (by rw [stp_of c104_24]; simp only [stpI]; rw [if_pos (show retI (mH 104).2.2.1 s0 = true from retI_int)])
theorem c104_12 : cd 104 12 = some (12, .bipush (-3), 2, []) := by decide +kernel
theorem x104_12 {d : Nat} {a0 : Value} {h : AHp} : Rf d 104 12 [a0] [] h = Rf d 104 14 [a0] [.int (-3)] h := Rf_go ((stp_of c104_12).trans rfl)
theorem c104_14 : cd 104 14 = some (14, .goto 10, 3, [(24, 0)]) := by decide +kernel
theorem x104_14 {d : Nat} {a0 : Value} {s0 : Int32} {h : AHp} : Rf d 104 14 [a0] [.int s0] h = Rf d 104 24 [a0] [.int s0] h := Rf_go ((stp_of c104_14).trans rfl)
-- 105: X11_years
theorem c105_0 : cd 105 0 = some (0, .iload_n 2, 1, []) := by decide +kernel
theorem x105_0 {d : Nat} {a0 a1 a3 a4 : Value} {x : Int32} {h : AHp} : Rf d 105 0 [a0, a1, .int x, a3, a4] [] h = Rf d 105 1 [a0, a1, .int x, a3, a4] [.int x] h := Rf_go ((stp_of c105_0).trans rfl)
theorem c105_1 : cd 105 1 = some (1, .iconst 3, 1, []) := by decide +kernel
theorem x105_1 {d : Nat} {a0 a1 a2 a3 a4 : Value} {s0 : Int32} {h : AHp} : Rf d 105 1 [a0, a1, a2, a3, a4] [.int s0] h = Rf d 105 2 [a0, a1, a2, a3, a4] [.int 3, .int s0] h := Rf_go ((stp_of c105_1).trans rfl)
theorem c105_2 : cd 105 2 = some (2, .invokestatic 39, 3, [(0, 129)]) := by decide +kernel
theorem xc105_2 {d : Nat} {a0 a1 a2 a3 a4 : Value} {s0 : Int32} {s1 : Int32} {h : AHp} {h1 : AHp} {v : Int32} (hq : Rf d 129 0 [.int s1, .int s0] [] h = some (some (.int v), h1)) : Rf (d + 1) 105 2 [a0, a1, a2, a3, a4] [.int s0, .int s1] h = Rf (d + 1) 105 5 [a0, a1, a2, a3, a4] [.int v] h1 := clS (as := [.int s1, .int s0]) c105_2 rfl rfl (by simp [isV]) hq
theorem c105_5 : cd 105 5 = some (5, .ifCond .eq 11, 3, [(16, 0)]) := by decide +kernel
theorem x105_5 {d : Nat} {a0 a1 a2 a3 a4 : Value} {s0 : Int32} {h : AHp} : Rf d 105 5 [a0, a1, a2, a3, a4] [.int s0] h = if s0 = 0 then Rf d 105 16 [a0, a1, a2, a3, a4] [] h else Rf d 105 8 [a0, a1, a2, a3, a4] [] h := Rf_brd ((stp_of c105_5).trans rfl)
theorem c105_16 : cd 105 16 = some (16, .sipush (-10001), 3, []) := by decide +kernel
theorem x105_16 {d : Nat} {a0 a1 a2 a3 a4 : Value} {h : AHp} : Rf d 105 16 [a0, a1, a2, a3, a4] [] h = Rf d 105 19 [a0, a1, a2, a3, a4] [.int (-10001)] h := Rf_go ((stp_of c105_16).trans rfl)
theorem c105_19 : cd 105 19 = some (19, .ireturn, 1, []) := by decide +kernel
theorem x105_19 {d : Nat} {a0 a1 a2 a3 a4 : Value} {s0 : Int32} {h : AHp} : Rf d 105 19 [a0, a1, a2, a3, a4] [.int s0] h = some (some (.int s0), h) := Rf_end (by rw [stp_of c105_19]; simp only [stpI]; rw [if_pos (show retI (mH 105).2.2.1 s0 = true from retI_int)])
theorem c105_8 : cd 105 8 = some (8, .iload_n 3, 1, []) := by decide +kernel
theorem x105_8 {d : Nat} {a0 a1 a2 a4 : Value} {x : Int32} {h : AHp} : Rf d 105 8 [a0, a1, a2, .int x, a4] [] h = Rf d 105 9 [a0, a1, a2, .int x, a4] [.int x] h := Rf_go ((stp_of c105_8).trans rfl)
theorem c105_9 : cd 105 9 = some (9, .iconst 2, 1, []) := by decide +kernel
theorem x105_9 {d : Nat} {a0 a1 a2 a3 a4 : Value} {s0 : Int32} {h : AHp} : Rf d 105 9 [a0, a1, a2, a3, a4] [.int s0] h = Rf d 105 10 [a0, a1, a2, a3, a4] [.int 2, .int s0] h := Rf_go ((stp_of c105_9).trans rfl)
theorem c105_10 : cd 105 10 = some (10, .invokestatic 39, 3, [(0, 129)]) := by decide +kernel
theorem xc105_10 {d : Nat} {a0 a1 a2 a3 a4 : Value} {s0 : Int32} {s1 : Int32} {h : AHp} {h1 : AHp} {v : Int32} (hq : Rf d 129 0 [.int s1, .int s0] [] h = some (some (.int v), h1)) : Rf (d + 1) 105 10 [a0, a1, a2, a3, a4] [.int s0, .int s1] h = Rf (d + 1) 105 13 [a0, a1, a2, a3, a4] [.int v] h1 := clS (as := [.int s1, .int s0]) c105_10 rfl rfl (by simp [isV]) hq
theorem c105_13 : cd 105 13 = some (13, .ifCond .ne 7, 3, [(20, 0)]) := by decide +kernel
theorem x105_13 {d : Nat} {a0 a1 a2 a3 a4 : Value} {s0 : Int32} {h : AHp} : Rf d 105 13 [a0, a1, a2, a3, a4] [.int s0] h = if s0 = 0 then Rf d 105 16 [a0, a1, a2, a3, a4] [] h else Rf d 105 20 [a0, a1, a2, a3, a4] [] h := Rf_brn ((stp_of c105_13).trans rfl)
theorem c105_20 : cd 105 20 = some (20, .iload_n 1, 1, []) := by decide +kernel
theorem x105_20 {d : Nat} {a0 a2 a3 a4 : Value} {x : Int32} {h : AHp} : Rf d 105 20 [a0, .int x, a2, a3, a4] [] h = Rf d 105 21 [a0, .int x, a2, a3, a4] [.int x] h := Rf_go ((stp_of c105_20).trans rfl)
theorem c105_21 : cd 105 21 = some (21, .bipush 20, 2, []) := by decide +kernel
theorem x105_21 {d : Nat} {a0 a1 a2 a3 a4 : Value} {s0 : Int32} {h : AHp} : Rf d 105 21 [a0, a1, a2, a3, a4] [.int s0] h = Rf d 105 23 [a0, a1, a2, a3, a4] [.int 20, .int s0] h := Rf_go ((stp_of c105_21).trans rfl)
theorem c105_23 : cd 105 23 = some (23, .invokestatic 39, 3, [(0, 129)]) := by decide +kernel
theorem xc105_23 {d : Nat} {a0 a1 a2 a3 a4 : Value} {s0 : Int32} {s1 : Int32} {h : AHp} {h1 : AHp} {v : Int32} (hq : Rf d 129 0 [.int s1, .int s0] [] h = some (some (.int v), h1)) : Rf (d + 1) 105 23 [a0, a1, a2, a3, a4] [.int s0, .int s1] h = Rf (d + 1) 105 26 [a0, a1, a2, a3, a4] [.int v] h1 := clS (as := [.int s1, .int s0]) c105_23 rfl rfl (by simp [isV]) hq
theorem c105_26 : cd 105 26 = some (26, .ifCond .ne 7, 3, [(33, 0)]) := by decide +kernel
theorem x105_26 {d : Nat} {a0 a1 a2 a3 a4 : Value} {s0 : Int32} {h : AHp} : Rf d 105 26 [a0, a1, a2, a3, a4] [.int s0] h = if s0 = 0 then Rf d 105 29 [a0, a1, a2, a3, a4] [] h else Rf d 105 33 [a0, a1, a2, a3, a4] [] h := Rf_brn ((stp_of c105_26).trans rfl)
theorem c105_33 : cd 105 33 = some (33, .aload_n 0, 1, []) := by decide +kernel
theorem x105_33 {d : Nat} {a1 a2 a3 a4 : Value} {x : Nat} {h : AHp} : Rf d 105 33 [.ref x, a1, a2, a3, a4] [] h = Rf d 105 34 [.ref x, a1, a2, a3, a4] [.ref x] h := Rf_go ((stp_of c105_33).trans rfl)
theorem c105_34 : cd 105 34 = some (34, .iload_n 1, 1, []) := by decide +kernel
theorem x105_34 {d : Nat} {a0 a2 a3 a4 : Value} {s0 : Nat} {x : Int32} {h : AHp} : Rf d 105 34 [a0, .int x, a2, a3, a4] [.ref s0] h = Rf d 105 35 [a0, .int x, a2, a3, a4] [.int x, .ref s0] h := Rf_go ((stp_of c105_34).trans rfl)
theorem c105_35 : cd 105 35 = some (35, .iload_n 2, 1, []) := by decide +kernel
theorem x105_35 {d : Nat} {a0 a1 a3 a4 : Value} {s0 : Int32} {s1 : Nat} {x : Int32} {h : AHp} : Rf d 105 35 [a0, a1, .int x, a3, a4] [.int s0, .ref s1] h = Rf d 105 36 [a0, a1, .int x, a3, a4] [.int x, .int s0, .ref s1] h := Rf_go ((stp_of c105_35).trans rfl)
theorem c105_36 : cd 105 36 = some (36, .invokevirtual 159, 3, [(11, 107)]) := by decide +kernel
theorem xc105_36 {d : Nat} {a0 a1 a2 a3 a4 : Value} {s0 : Int32} {s1 : Int32} {s2 : Nat} {h : AHp} {h1 : AHp} {v : Int32} (hr : cls (h.1 s2) = 11) (hq : Rf d 107 0 [.ref s2, .int s1, .int s0, noV, noV] [] h = some (some (.int v), h1)) : Rf (d + 1) 105 36 [a0, a1, a2, a3, a4] [.int s0, .int s1, .ref s2] h = Rf (d + 1) 105 39 [a0, a1, a2, a3, a4] [.int v] h1 := clV (c := 107) (as := [.int s1, .int s0]) c105_36 rfl (by simp [isV]) (by rw [hr]; rfl) hq
theorem c105_39 : cd 105 39 = some (39, .istore 4, 2, []) := by decide +kernel
theorem x105_39 {d : Nat} {a0 a1 a2 a3 a4 : Value} {s0 : Int32} {h : AHp} : Rf d 105 39 [a0, a1, a2, a3, a4] [.int s0] h = Rf d 105 41 [a0, a1, a2, a3, .int s0] [] h := Rf_go ((stp_of c105_39).trans rfl)
theorem c105_41 : cd 105 41 = some (41, .iload_n 3, 1, []) := by decide +kernel
theorem x105_41 {d : Nat} {a0 a1 a2 a4 : Value} {x : Int32} {h : AHp} : Rf d 105 41 [a0, a1, a2, .int x, a4] [] h = Rf d 105 42 [a0, a1, a2, .int x, a4] [.int x] h := Rf_go ((stp_of c105_41).trans rfl)
theorem c105_42 : cd 105 42 = some (42, .ifCond .ne 11, 3, [(53, 0)]) := by decide +kernel
theorem x105_42 {d : Nat} {a0 a1 a2 a3 a4 : Value} {s0 : Int32} {h : AHp} : Rf d 105 42 [a0, a1, a2, a3, a4] [.int s0] h = if s0 = 0 then Rf d 105 45 [a0, a1, a2, a3, a4] [] h else Rf d 105 53 [a0, a1, a2, a3, a4] [] h := Rf_brn ((stp_of c105_42).trans rfl)
theorem c105_53 : cd 105 53 = some (53, .iload_n 3, 1, []) := by decide +kernel
theorem x105_53 {d : Nat} {a0 a1 a2 a4 : Value} {x : Int32} {h : AHp} : Rf d 105 53 [a0, a1, a2, .int x, a4] [] h = Rf d 105 54 [a0, a1, a2, .int x, a4] [.int x] h := Rf_go ((stp_of c105_53).trans rfl)
theorem c105_54 : cd 105 54 = some (54, .iconst 1, 1, []) := by decide +kernel
theorem x105_54 {d : Nat} {a0 a1 a2 a3 a4 : Value} {s0 : Int32} {h : AHp} : Rf d 105 54 [a0, a1, a2, a3, a4] [.int s0] h = Rf d 105 55 [a0, a1, a2, a3, a4] [.int 1, .int s0] h := Rf_go ((stp_of c105_54).trans rfl)
theorem c105_55 : cd 105 55 = some (55, .if_icmp .ne 8, 3, [(63, 0)]) := by decide +kernel
theorem x105_55 {d : Nat} {a0 a1 a2 a3 a4 : Value} {s0 : Int32} {s1 : Int32} {h : AHp} : Rf d 105 55 [a0, a1, a2, a3, a4] [.int s0, .int s1] h = if s1 = s0 then Rf d 105 58 [a0, a1, a2, a3, a4] [] h else Rf d 105 63 [a0, a1, a2, a3, a4] [] h := Rf_brn ((stp_of c105_55).trans rfl)
theorem c105_63 : cd 105 63 = some (63, .aload_n 0, 1, []) := by decide +kernel
theorem x105_63 {d : Nat} {a1 a2 a3 a4 : Value} {x : Nat} {h : AHp} : Rf d 105 63 [.ref x, a1, a2, a3, a4] [] h = Rf d 105 64 [.ref x, a1, a2, a3, a4] [.ref x] h := Rf_go ((stp_of c105_63).trans rfl)
theorem c105_64 : cd 105 64 = some (64, .getfield 29, 3, [(11, 4)]) := by decide +kernel
theorem x105_64 {d : Nat} {a0 a1 a2 a3 a4 : Value} {s0 : Nat} {h : AHp} : Rf d 105 64 [a0, a1, a2, a3, a4] [.ref s0] h = if cls (h.1 s0) = 11 ∧ oKr (h.1 s0) 4 = true then Rf d 105 67 [a0, a1, a2, a3, a4] [.ref (oR (h.1 s0) 4)] h else Rx d 105 64 [a0, a1, a2, a3, a4] [.ref s0] h := getR c105_64
theorem c105_67 : cd 105 67 = some (67, .invokevirtual 87, 3, [(6, 65)]) := by decide +kernel
theorem xc105_67 {d : Nat} {a0 a1 a2 a3 a4 : Value} {s0 : Nat} {h : AHp} {h1 : AHp} {v : Int32} (hr : cls (h.1 s0) = 6) (hq : Rf d 65 0 [.ref s0, noV, noV] [] h = some (some (.int v), h1)) : Rf (d + 1) 105 67 [a0, a1, a2, a3, a4] [.ref s0] h = Rf (d + 1) 105 70 [a0, a1, a2, a3, a4] [.int v] h1 := clV (c := 65) (as := []) c105_67 rfl (by simp [isV]) (by rw [hr]; rfl) hq
theorem c105_70 : cd 105 70 = some (70, .ireturn, 1, []) := by decide +kernel
theorem x105_70 {d : Nat} {a0 a1 a2 a3 a4 : Value} {s0 : Int32} {h : AHp} : Rf d 105 70 [a0, a1, a2, a3, a4] [.int s0] h = some (some (.int s0), h) := Rf_end (by rw [stp_of c105_70]; simp only [stpI]; rw [if_pos (show retI (mH 105).2.2.1 s0 = true from retI_int)])
theorem c105_58 : cd 105 58 = some (58, .iload 4, 2, []) := by decide +kernel
theorem x105_58 {d : Nat} {a0 a1 a2 a3 : Value} {x : Int32} {h : AHp} : Rf d 105 58 [a0, a1, a2, a3, .int x] [] h = Rf d 105 60 [a0, a1, a2, a3, .int x] [.int x] h := Rf_go ((stp_of c105_58).trans rfl)
theorem c105_60 : cd 105 60 = some (60, .goto 10, 3, [(70, 0)]) := by decide +kernel
theorem x105_60 {d : Nat} {a0 a1 a2 a3 a4 : Value} {s0 : Int32} {h : AHp} : Rf d 105 60 [a0, a1, a2, a3, a4] [.int s0] h = Rf d 105 70 [a0, a1, a2, a3, a4] [.int s0] h := Rf_go ((stp_of c105_60).trans rfl)
theorem c105_45 : cd 105 45 = some (45, .aload_n 0, 1, []) := by decide +kernel
theorem x105_45 {d : Nat} {a1 a2 a3 a4 : Value} {x : Nat} {h : AHp} : Rf d 105 45 [.ref x, a1, a2, a3, a4] [] h = Rf d 105 46 [.ref x, a1, a2, a3, a4] [.ref x] h := Rf_go ((stp_of c105_45).trans rfl)
theorem c105_46 : cd 105 46 = some (46, .getfield 29, 3, [(11, 4)]) := by decide +kernel
theorem x105_46 {d : Nat} {a0 a1 a2 a3 a4 : Value} {s0 : Nat} {h : AHp} : Rf d 105 46 [a0, a1, a2, a3, a4] [.ref s0] h = if cls (h.1 s0) = 11 ∧ oKr (h.1 s0) 4 = true then Rf d 105 49 [a0, a1, a2, a3, a4] [.ref (oR (h.1 s0) 4)] h else Rx d 105 46 [a0, a1, a2, a3, a4] [.ref s0] h := getR c105_46
theorem c105_49 : cd 105 49 = some (49, .invokevirtual 90, 3, [(6, 50)]) := by decide +kernel
theorem xc105_49 {d : Nat} {a0 a1 a2 a3 a4 : Value} {s0 : Nat} {h : AHp} {h1 : AHp} {v : Int32} (hr : cls (h.1 s0) = 6) (hq : Rf d 50 0 [.ref s0, noV, noV] [] h = some (some (.int v), h1)) : Rf (d + 1) 105 49 [a0, a1, a2, a3, a4] [.ref s0] h = Rf (d + 1) 105 52 [a0, a1, a2, a3, a4] [.int v] h1 := clV (c := 50) (as := []) c105_49 rfl (by simp [isV]) (by rw [hr]; rfl) hq
theorem c105_52 : cd 105 52 = some (52, .ireturn, 1, []) := by decide +kernel
theorem x105_52 {d : Nat} {a0 a1 a2 a3 a4 : Value} {s0 : Int32} {h : AHp} : Rf d 105 52 [a0, a1, a2, a3, a4] [.int s0] h = some (some (.int s0), h) := Rf_end (by rw [stp_of c105_52]; simp only [stpI]; rw [if_pos (show retI (mH 105).2.2.1 s0 = true from retI_int)])
theorem c105_29 : cd 105 29 = some (29, .sipush (-10002), 3, []) := by decide +kernel
theorem x105_29 {d : Nat} {a0 a1 a2 a3 a4 : Value} {h : AHp} : Rf d 105 29 [a0, a1, a2, a3, a4] [] h = Rf d 105 32 [a0, a1, a2, a3, a4] [.int (-10002)] h := Rf_go ((stp_of c105_29).trans rfl)
theorem c105_32 : cd 105 32 = some (32, .ireturn, 1, []) := by decide +kernel
theorem x105_32 {d : Nat} {a0 a1 a2 a3 a4 : Value} {s0 : Int32} {h : AHp} : Rf d 105 32 [a0, a1, a2, a3, a4] [.int s0] h = some (some (.int s0), h) := Rf_end (by rw [stp_of c105_32]; simp only [stpI]; rw [if_pos (show retI (mH 105).2.2.1 s0 = true from retI_int)])
-- 106: X11_best
theorem c106_0 : cd 106 0 = some (0, .iload_n 1, 1, []) := by decide +kernel
theorem x106_0 {d : Nat} {a0 a2 a3 a4 a5 : Value} {x : Int32} {h : AHp} : Rf d 106 0 [a0, .int x, a2, a3, a4, a5] [] h = Rf d 106 1 [a0, .int x, a2, a3, a4, a5] [.int x] h := Rf_go ((stp_of c106_0).trans rfl)
theorem c106_1 : cd 106 1 = some (1, .bipush 20, 2, []) := by decide +kernel
theorem x106_1 {d : Nat} {a0 a1 a2 a3 a4 a5 : Value} {s0 : Int32} {h : AHp} : Rf d 106 1 [a0, a1, a2, a3, a4, a5] [.int s0] h = Rf d 106 3 [a0, a1, a2, a3, a4, a5] [.int 20, .int s0] h := Rf_go ((stp_of c106_1).trans rfl)
theorem c106_3 : cd 106 3 = some (3, .invokestatic 39, 3, [(0, 129)]) := by decide +kernel
theorem xc106_3 {d : Nat} {a0 a1 a2 a3 a4 a5 : Value} {s0 : Int32} {s1 : Int32} {h : AHp} {h1 : AHp} {v : Int32} (hq : Rf d 129 0 [.int s1, .int s0] [] h = some (some (.int v), h1)) : Rf (d + 1) 106 3 [a0, a1, a2, a3, a4, a5] [.int s0, .int s1] h = Rf (d + 1) 106 6 [a0, a1, a2, a3, a4, a5] [.int v] h1 := clS (as := [.int s1, .int s0]) c106_3 rfl rfl (by simp [isV]) hq
theorem c106_6 : cd 106 6 = some (6, .ifCond .ne 6, 3, [(12, 0)]) := by decide +kernel
theorem x106_6 {d : Nat} {a0 a1 a2 a3 a4 a5 : Value} {s0 : Int32} {h : AHp} : Rf d 106 6 [a0, a1, a2, a3, a4, a5] [.int s0] h = if s0 = 0 then Rf d 106 9 [a0, a1, a2, a3, a4, a5] [] h else Rf d 106 12 [a0, a1, a2, a3, a4, a5] [] h := Rf_brn ((stp_of c106_6).trans rfl)
theorem c106_12 : cd 106 12 = some (12, .iconst 0, 1, []) := by decide +kernel
theorem x106_12 {d : Nat} {a0 a1 a2 a3 a4 a5 : Value} {h : AHp} : Rf d 106 12 [a0, a1, a2, a3, a4, a5] [] h = Rf d 106 13 [a0, a1, a2, a3, a4, a5] [.int 0] h := Rf_go ((stp_of c106_12).trans rfl)
theorem c106_13 : cd 106 13 = some (13, .istore_n 2, 1, []) := by decide +kernel
theorem x106_13 {d : Nat} {a0 a1 a2 a3 a4 a5 : Value} {s0 : Int32} {h : AHp} : Rf d 106 13 [a0, a1, a2, a3, a4, a5] [.int s0] h = Rf d 106 14 [a0, a1, .int s0, a3, a4, a5] [] h := Rf_go ((stp_of c106_13).trans rfl)
theorem c106_14 : cd 106 14 = some (14, .iconst 0, 1, []) := by decide +kernel
theorem x106_14 {d : Nat} {a0 a1 a2 a3 a4 a5 : Value} {h : AHp} : Rf d 106 14 [a0, a1, a2, a3, a4, a5] [] h = Rf d 106 15 [a0, a1, a2, a3, a4, a5] [.int 0] h := Rf_go ((stp_of c106_14).trans rfl)
theorem c106_15 : cd 106 15 = some (15, .istore_n 3, 1, []) := by decide +kernel
theorem x106_15 {d : Nat} {a0 a1 a2 a3 a4 a5 : Value} {s0 : Int32} {h : AHp} : Rf d 106 15 [a0, a1, a2, a3, a4, a5] [.int s0] h = Rf d 106 16 [a0, a1, a2, .int s0, a4, a5] [] h := Rf_go ((stp_of c106_15).trans rfl)
theorem c106_16 : cd 106 16 = some (16, .iconst 0, 1, []) := by decide +kernel
theorem x106_16 {d : Nat} {a0 a1 a2 a3 a4 a5 : Value} {h : AHp} : Rf d 106 16 [a0, a1, a2, a3, a4, a5] [] h = Rf d 106 17 [a0, a1, a2, a3, a4, a5] [.int 0] h := Rf_go ((stp_of c106_16).trans rfl)
theorem c106_17 : cd 106 17 = some (17, .istore 4, 2, []) := by decide +kernel
theorem x106_17 {d : Nat} {a0 a1 a2 a3 a4 a5 : Value} {s0 : Int32} {h : AHp} : Rf d 106 17 [a0, a1, a2, a3, a4, a5] [.int s0] h = Rf d 106 19 [a0, a1, a2, a3, .int s0, a5] [] h := Rf_go ((stp_of c106_17).trans rfl)
theorem c106_19 : cd 106 19 = some (19, .iload 4, 2, []) := by decide +kernel
theorem x106_19 {d : Nat} {a0 a1 a2 a3 a5 : Value} {x : Int32} {h : AHp} : Rf d 106 19 [a0, a1, a2, a3, .int x, a5] [] h = Rf d 106 21 [a0, a1, a2, a3, .int x, a5] [.int x] h := Rf_go ((stp_of c106_19).trans rfl)
theorem c106_21 : cd 106 21 = some (21, .iconst 4, 1, []) := by decide +kernel
theorem x106_21 {d : Nat} {a0 a1 a2 a3 a4 a5 : Value} {s0 : Int32} {h : AHp} : Rf d 106 21 [a0, a1, a2, a3, a4, a5] [.int s0] h = Rf d 106 22 [a0, a1, a2, a3, a4, a5] [.int 4, .int s0] h := Rf_go ((stp_of c106_21).trans rfl)
theorem c106_22 : cd 106 22 = some (22, .if_icmp .ge 46, 3, [(68, 0)]) := by decide +kernel
theorem x106_22 {d : Nat} {a0 a1 a2 a3 a4 a5 : Value} {s0 : Int32} {s1 : Int32} {h : AHp} : Rf d 106 22 [a0, a1, a2, a3, a4, a5] [.int s0, .int s1] h = if s1 < s0 then Rf d 106 25 [a0, a1, a2, a3, a4, a5] [] h else Rf d 106 68 [a0, a1, a2, a3, a4, a5] [] h := Rf_brn ((stp_of c106_22).trans rfl)
theorem c106_68 : cd 106 68 = some (68, .iload_n 2, 1, []) := by decide +kernel
theorem x106_68 {d : Nat} {a0 a1 a3 a4 a5 : Value} {x : Int32} {h : AHp} : Rf d 106 68 [a0, a1, .int x, a3, a4, a5] [] h = Rf d 106 69 [a0, a1, .int x, a3, a4, a5] [.int x] h := Rf_go ((stp_of c106_68).trans rfl)
theorem c106_69 : cd 106 69 = some (69, .ireturn, 1, []) := by decide +kernel
theorem x106_69 {d : Nat} {a0 a1 a2 a3 a4 a5 : Value} {s0 : Int32} {h : AHp} : Rf d 106 69 [a0, a1, a2, a3, a4, a5] [.int s0] h = some (some (.int s0), h) := Rf_end (by rw [stp_of c106_69]; simp only [stpI]; rw [if_pos (show retI (mH 106).2.2.1 s0 = true from retI_int)])
theorem c106_25 : cd 106 25 = some (25, .aload_n 0, 1, []) := by decide +kernel
theorem x106_25 {d : Nat} {a1 a2 a3 a4 a5 : Value} {x : Nat} {h : AHp} : Rf d 106 25 [.ref x, a1, a2, a3, a4, a5] [] h = Rf d 106 26 [.ref x, a1, a2, a3, a4, a5] [.ref x] h := Rf_go ((stp_of c106_25).trans rfl)
theorem c106_26 : cd 106 26 = some (26, .iload_n 1, 1, []) := by decide +kernel
theorem x106_26 {d : Nat} {a0 a2 a3 a4 a5 : Value} {s0 : Nat} {x : Int32} {h : AHp} : Rf d 106 26 [a0, .int x, a2, a3, a4, a5] [.ref s0] h = Rf d 106 27 [a0, .int x, a2, a3, a4, a5] [.int x, .ref s0] h := Rf_go ((stp_of c106_26).trans rfl)
theorem c106_27 : cd 106 27 = some (27, .iload 4, 2, []) := by decide +kernel
theorem x106_27 {d : Nat} {a0 a1 a2 a3 a5 : Value} {s0 : Int32} {s1 : Nat} {x : Int32} {h : AHp} : Rf d 106 27 [a0, a1, a2, a3, .int x, a5] [.int s0, .ref s1] h = Rf d 106 29 [a0, a1, a2, a3, .int x, a5] [.int x, .int s0, .ref s1] h := Rf_go ((stp_of c106_27).trans rfl)
theorem c106_29 : cd 106 29 = some (29, .invokevirtual 159, 3, [(11, 107)]) := by decide +kernel
theorem xc106_29 {d : Nat} {a0 a1 a2 a3 a4 a5 : Value} {s0 : Int32} {s1 : Int32} {s2 : Nat} {h : AHp} {h1 : AHp} {v : Int32} (hr : cls (h.1 s2) = 11) (hq : Rf d 107 0 [.ref s2, .int s1, .int s0, noV, noV] [] h = some (some (.int v), h1)) : Rf (d + 1) 106 29 [a0, a1, a2, a3, a4, a5] [.int s0, .int s1, .ref s2] h = Rf (d + 1) 106 32 [a0, a1, a2, a3, a4, a5] [.int v] h1 := clV (c := 107) (as := [.int s1, .int s0]) c106_29 rfl (by simp [isV]) (by rw [hr]; rfl) hq
theorem c106_32 : cd 106 32 = some (32, .pop, 1, []) := by decide +kernel
theorem x106_32 {d : Nat} {a0 a1 a2 a3 a4 a5 : Value} {s0 : Int32} {h : AHp} : Rf d 106 32 [a0, a1, a2, a3, a4, a5] [.int s0] h = Rf d 106 33 [a0, a1, a2, a3, a4, a5] [] h := Rf_go ((stp_of c106_32).trans rfl)
theorem c106_33 : cd 106 33 = some (33, .aload_n 0, 1, []) := by decide +kernel
theorem x106_33 {d : Nat} {a1 a2 a3 a4 a5 : Value} {x : Nat} {h : AHp} : Rf d 106 33 [.ref x, a1, a2, a3, a4, a5] [] h = Rf d 106 34 [.ref x, a1, a2, a3, a4, a5] [.ref x] h := Rf_go ((stp_of c106_33).trans rfl)
theorem c106_34 : cd 106 34 = some (34, .getfield 29, 3, [(11, 4)]) := by decide +kernel
theorem x106_34 {d : Nat} {a0 a1 a2 a3 a4 a5 : Value} {s0 : Nat} {h : AHp} : Rf d 106 34 [a0, a1, a2, a3, a4, a5] [.ref s0] h = if cls (h.1 s0) = 11 ∧ oKr (h.1 s0) 4 = true then Rf d 106 37 [a0, a1, a2, a3, a4, a5] [.ref (oR (h.1 s0) 4)] h else Rx d 106 34 [a0, a1, a2, a3, a4, a5] [.ref s0] h := getR c106_34
theorem c106_37 : cd 106 37 = some (37, .invokevirtual 87, 3, [(6, 65)]) := by decide +kernel
theorem xc106_37 {d : Nat} {a0 a1 a2 a3 a4 a5 : Value} {s0 : Nat} {h : AHp} {h1 : AHp} {v : Int32} (hr : cls (h.1 s0) = 6) (hq : Rf d 65 0 [.ref s0, noV, noV] [] h = some (some (.int v), h1)) : Rf (d + 1) 106 37 [a0, a1, a2, a3, a4, a5] [.ref s0] h = Rf (d + 1) 106 40 [a0, a1, a2, a3, a4, a5] [.int v] h1 := clV (c := 65) (as := []) c106_37 rfl (by simp [isV]) (by rw [hr]; rfl) hq
theorem c106_40 : cd 106 40 = some (40, .invokestatic 162, 3, [(0, 200)]) := by decide +kernel
theorem xc106_40 {d : Nat} {a0 a1 a2 a3 a4 a5 : Value} {s0 : Int32} {h : AHp} {h1 : AHp} {v : Int32} (hq : Rf d 200 0 [.int s0] [] h = some (some (.int v), h1)) : Rf (d + 1) 106 40 [a0, a1, a2, a3, a4, a5] [.int s0] h = Rf (d + 1) 106 43 [a0, a1, a2, a3, a4, a5] [.int v] h1 := clS (as := [.int s0]) c106_40 rfl rfl (by simp [isV]) hq
theorem c106_43 : cd 106 43 = some (43, .istore 5, 2, []) := by decide +kernel
theorem x106_43 {d : Nat} {a0 a1 a2 a3 a4 a5 : Value} {s0 : Int32} {h : AHp} : Rf d 106 43 [a0, a1, a2, a3, a4, a5] [.int s0] h = Rf d 106 45 [a0, a1, a2, a3, a4, .int s0] [] h := Rf_go ((stp_of c106_43).trans rfl)
theorem c106_45 : cd 106 45 = some (45, .iload 4, 2, []) := by decide +kernel
theorem x106_45 {d : Nat} {a0 a1 a2 a3 a5 : Value} {x : Int32} {h : AHp} : Rf d 106 45 [a0, a1, a2, a3, .int x, a5] [] h = Rf d 106 47 [a0, a1, a2, a3, .int x, a5] [.int x] h := Rf_go ((stp_of c106_45).trans rfl)
theorem c106_47 : cd 106 47 = some (47, .ifCond .eq 9, 3, [(56, 0)]) := by decide +kernel
theorem x106_47 {d : Nat} {a0 a1 a2 a3 a4 a5 : Value} {s0 : Int32} {h : AHp} : Rf d 106 47 [a0, a1, a2, a3, a4, a5] [.int s0] h = if s0 = 0 then Rf d 106 56 [a0, a1, a2, a3, a4, a5] [] h else Rf d 106 50 [a0, a1, a2, a3, a4, a5] [] h := Rf_brd ((stp_of c106_47).trans rfl)
theorem c106_56 : cd 106 56 = some (56, .iload 5, 2, []) := by decide +kernel
theorem x106_56 {d : Nat} {a0 a1 a2 a3 a4 : Value} {x : Int32} {h : AHp} : Rf d 106 56 [a0, a1, a2, a3, a4, .int x] [] h = Rf d 106 58 [a0, a1, a2, a3, a4, .int x] [.int x] h := Rf_go ((stp_of c106_56).trans rfl)
theorem c106_58 : cd 106 58 = some (58, .istore_n 3, 1, []) := by decide +kernel
theorem x106_58 {d : Nat} {a0 a1 a2 a3 a4 a5 : Value} {s0 : Int32} {h : AHp} : Rf d 106 58 [a0, a1, a2, a3, a4, a5] [.int s0] h = Rf d 106 59 [a0, a1, a2, .int s0, a4, a5] [] h := Rf_go ((stp_of c106_58).trans rfl)
theorem c106_59 : cd 106 59 = some (59, .iload 4, 2, []) := by decide +kernel
theorem x106_59 {d : Nat} {a0 a1 a2 a3 a5 : Value} {x : Int32} {h : AHp} : Rf d 106 59 [a0, a1, a2, a3, .int x, a5] [] h = Rf d 106 61 [a0, a1, a2, a3, .int x, a5] [.int x] h := Rf_go ((stp_of c106_59).trans rfl)
theorem c106_61 : cd 106 61 = some (61, .istore_n 2, 1, []) := by decide +kernel
theorem x106_61 {d : Nat} {a0 a1 a2 a3 a4 a5 : Value} {s0 : Int32} {h : AHp} : Rf d 106 61 [a0, a1, a2, a3, a4, a5] [.int s0] h = Rf d 106 62 [a0, a1, .int s0, a3, a4, a5] [] h := Rf_go ((stp_of c106_61).trans rfl)
theorem c106_62 : cd 106 62 = some (62, .iinc 4 1, 3, []) := by decide +kernel
theorem x106_62 {d : Nat} {a0 a1 a2 a3 a5 : Value} {x : Int32} {h : AHp} : Rf d 106 62 [a0, a1, a2, a3, .int x, a5] [] h = Rf d 106 65 [a0, a1, a2, a3, .int (x + 1), a5] [] h := Rf_go ((stp_of c106_62).trans rfl)
theorem c106_65 : cd 106 65 = some (65, .goto (-46), 3, [(19, 0)]) := by decide +kernel
theorem x106_65 {d : Nat} {a0 a1 a2 a3 a4 a5 : Value} {h : AHp} : Rf d 106 65 [a0, a1, a2, a3, a4, a5] [] h = Rf d 106 19 [a0, a1, a2, a3, a4, a5] [] h := Rf_go ((stp_of c106_65).trans rfl)
theorem c106_50 : cd 106 50 = some (50, .iload 5, 2, []) := by decide +kernel
theorem x106_50 {d : Nat} {a0 a1 a2 a3 a4 : Value} {x : Int32} {h : AHp} : Rf d 106 50 [a0, a1, a2, a3, a4, .int x] [] h = Rf d 106 52 [a0, a1, a2, a3, a4, .int x] [.int x] h := Rf_go ((stp_of c106_50).trans rfl)
theorem c106_52 : cd 106 52 = some (52, .iload_n 3, 1, []) := by decide +kernel
theorem x106_52 {d : Nat} {a0 a1 a2 a4 a5 : Value} {s0 : Int32} {x : Int32} {h : AHp} : Rf d 106 52 [a0, a1, a2, .int x, a4, a5] [.int s0] h = Rf d 106 53 [a0, a1, a2, .int x, a4, a5] [.int x, .int s0] h := Rf_go ((stp_of c106_52).trans rfl)
theorem c106_53 : cd 106 53 = some (53, .if_icmp .ge 9, 3, [(62, 0)]) := by decide +kernel
theorem x106_53 {d : Nat} {a0 a1 a2 a3 a4 a5 : Value} {s0 : Int32} {s1 : Int32} {h : AHp} : Rf d 106 53 [a0, a1, a2, a3, a4, a5] [.int s0, .int s1] h = if s1 < s0 then Rf d 106 56 [a0, a1, a2, a3, a4, a5] [] h else Rf d 106 62 [a0, a1, a2, a3, a4, a5] [] h := Rf_brn ((stp_of c106_53).trans rfl)
theorem c106_9 : cd 106 9 = some (9, .bipush (-2), 2, []) := by decide +kernel
theorem x106_9 {d : Nat} {a0 a1 a2 a3 a4 a5 : Value} {h : AHp} : Rf d 106 9 [a0, a1, a2, a3, a4, a5] [] h = Rf d 106 11 [a0, a1, a2, a3, a4, a5] [.int (-2)] h := Rf_go ((stp_of c106_9).trans rfl)
theorem c106_11 : cd 106 11 = some (11, .ireturn, 1, []) := by decide +kernel
theorem x106_11 {d : Nat} {a0 a1 a2 a3 a4 a5 : Value} {s0 : Int32} {h : AHp} : Rf d 106 11 [a0, a1, a2, a3, a4, a5] [.int s0] h = some (some (.int s0), h) := Rf_end (by rw [stp_of c106_11]; simp only [stpI]; rw [if_pos (show retI (mH 106).2.2.1 s0 = true from retI_int)])
-- 107: X11_tryYears
theorem c107_0 : cd 107 0 = some (0, .aload_n 0, 1, []) := by decide +kernel
theorem x107_0 {d : Nat} {a1 a2 a3 a4 : Value} {x : Nat} {h : AHp} : Rf d 107 0 [.ref x, a1, a2, a3, a4] [] h = Rf d 107 1 [.ref x, a1, a2, a3, a4] [.ref x] h := Rf_go ((stp_of c107_0).trans rfl)
theorem c107_1 : cd 107 1 = some (1, .getfield 29, 3, [(11, 4)]) := by decide +kernel
theorem x107_1 {d : Nat} {a0 a1 a2 a3 a4 : Value} {s0 : Nat} {h : AHp} : Rf d 107 1 [a0, a1, a2, a3, a4] [.ref s0] h = if cls (h.1 s0) = 11 ∧ oKr (h.1 s0) 4 = true then Rf d 107 4 [a0, a1, a2, a3, a4] [.ref (oR (h.1 s0) 4)] h else Rx d 107 1 [a0, a1, a2, a3, a4] [.ref s0] h := getR c107_1
theorem c107_4 : cd 107 4 = some (4, .aload_n 0, 1, []) := by decide +kernel
theorem x107_4 {d : Nat} {a1 a2 a3 a4 : Value} {s0 : Nat} {x : Nat} {h : AHp} : Rf d 107 4 [.ref x, a1, a2, a3, a4] [.ref s0] h = Rf d 107 5 [.ref x, a1, a2, a3, a4] [.ref x, .ref s0] h := Rf_go ((stp_of c107_4).trans rfl)
theorem c107_5 : cd 107 5 = some (5, .getfield 10, 3, [(11, 0)]) := by decide +kernel
theorem x107_5 {d : Nat} {a0 a1 a2 a3 a4 : Value} {s0 : Nat} {s1 : Nat} {h : AHp} : Rf d 107 5 [a0, a1, a2, a3, a4] [.ref s0, .ref s1] h = if cls (h.1 s0) = 11 ∧ oKr (h.1 s0) 0 = true then Rf d 107 8 [a0, a1, a2, a3, a4] [.ref (oR (h.1 s0) 0), .ref s1] h else Rx d 107 5 [a0, a1, a2, a3, a4] [.ref s0, .ref s1] h := getR c107_5
theorem c107_8 : cd 107 8 = some (8, .invokevirtual 167, 3, [(6, 40)]) := by decide +kernel
theorem xc107_8 {d : Nat} {a0 a1 a2 a3 a4 : Value} {s0 : Nat} {s1 : Nat} {h : AHp} {h1 : AHp} (hr : cls (h.1 s1) = 6) (hq : Rf d 40 0 [.ref s1, .ref s0, noV] [] h = some (none, h1)) : Rf (d + 1) 107 8 [a0, a1, a2, a3, a4] [.ref s0, .ref s1] h = Rf (d + 1) 107 11 [a0, a1, a2, a3, a4] [] h1 := clV (c := 40) (as := [.ref s0]) c107_8 rfl (by simp [isV]) (by rw [hr]; rfl) hq
theorem c107_11 : cd 107 11 = some (11, .aload_n 0, 1, []) := by decide +kernel
theorem x107_11 {d : Nat} {a1 a2 a3 a4 : Value} {x : Nat} {h : AHp} : Rf d 107 11 [.ref x, a1, a2, a3, a4] [] h = Rf d 107 12 [.ref x, a1, a2, a3, a4] [.ref x] h := Rf_go ((stp_of c107_11).trans rfl)
theorem c107_12 : cd 107 12 = some (12, .getfield 29, 3, [(11, 4)]) := by decide +kernel
theorem x107_12 {d : Nat} {a0 a1 a2 a3 a4 : Value} {s0 : Nat} {h : AHp} : Rf d 107 12 [a0, a1, a2, a3, a4] [.ref s0] h = if cls (h.1 s0) = 11 ∧ oKr (h.1 s0) 4 = true then Rf d 107 15 [a0, a1, a2, a3, a4] [.ref (oR (h.1 s0) 4)] h else Rx d 107 12 [a0, a1, a2, a3, a4] [.ref s0] h := getR c107_12
theorem c107_15 : cd 107 15 = some (15, .iload_n 2, 1, []) := by decide +kernel
theorem x107_15 {d : Nat} {a0 a1 a3 a4 : Value} {s0 : Nat} {x : Int32} {h : AHp} : Rf d 107 15 [a0, a1, .int x, a3, a4] [.ref s0] h = Rf d 107 16 [a0, a1, .int x, a3, a4] [.int x, .ref s0] h := Rf_go ((stp_of c107_15).trans rfl)
theorem c107_16 : cd 107 16 = some (16, .putfield 81, 3, [(6, 8)]) := by decide +kernel
theorem x107_16 {d : Nat} {a0 a1 a2 a3 a4 : Value} {s0 : Int32} {s1 : Nat} {h : AHp} : Rf d 107 16 [a0, a1, a2, a3, a4] [.int s0, .ref s1] h = if cls (h.1 s1) = 6 ∧ oL (h.1 s1) = 15 then Rf d 107 19 [a0, a1, a2, a3, a4] [] (hset h s1 (oSet (h.1 s1) 8 (.int s0))) else Rx d 107 16 [a0, a1, a2, a3, a4] [.int s0, .ref s1] h := putV c107_16 rfl (fMay_i (by decide +kernel))
theorem c107_19 : cd 107 19 = some (19, .iconst 0, 1, []) := by decide +kernel
theorem x107_19 {d : Nat} {a0 a1 a2 a3 a4 : Value} {h : AHp} : Rf d 107 19 [a0, a1, a2, a3, a4] [] h = Rf d 107 20 [a0, a1, a2, a3, a4] [.int 0] h := Rf_go ((stp_of c107_19).trans rfl)
theorem c107_20 : cd 107 20 = some (20, .istore_n 3, 1, []) := by decide +kernel
theorem x107_20 {d : Nat} {a0 a1 a2 a3 a4 : Value} {s0 : Int32} {h : AHp} : Rf d 107 20 [a0, a1, a2, a3, a4] [.int s0] h = Rf d 107 21 [a0, a1, a2, .int s0, a4] [] h := Rf_go ((stp_of c107_20).trans rfl)
theorem c107_21 : cd 107 21 = some (21, .iconst 0, 1, []) := by decide +kernel
theorem x107_21 {d : Nat} {a0 a1 a2 a3 a4 : Value} {h : AHp} : Rf d 107 21 [a0, a1, a2, a3, a4] [] h = Rf d 107 22 [a0, a1, a2, a3, a4] [.int 0] h := Rf_go ((stp_of c107_21).trans rfl)
theorem c107_22 : cd 107 22 = some (22, .istore 4, 2, []) := by decide +kernel
theorem x107_22 {d : Nat} {a0 a1 a2 a3 a4 : Value} {s0 : Int32} {h : AHp} : Rf d 107 22 [a0, a1, a2, a3, a4] [.int s0] h = Rf d 107 24 [a0, a1, a2, a3, .int s0] [] h := Rf_go ((stp_of c107_22).trans rfl)
theorem c107_24 : cd 107 24 = some (24, .iload 4, 2, []) := by decide +kernel
theorem x107_24 {d : Nat} {a0 a1 a2 a3 : Value} {x : Int32} {h : AHp} : Rf d 107 24 [a0, a1, a2, a3, .int x] [] h = Rf d 107 26 [a0, a1, a2, a3, .int x] [.int x] h := Rf_go ((stp_of c107_24).trans rfl)
theorem c107_26 : cd 107 26 = some (26, .iload_n 1, 1, []) := by decide +kernel
theorem x107_26 {d : Nat} {a0 a2 a3 a4 : Value} {s0 : Int32} {x : Int32} {h : AHp} : Rf d 107 26 [a0, .int x, a2, a3, a4] [.int s0] h = Rf d 107 27 [a0, .int x, a2, a3, a4] [.int x, .int s0] h := Rf_go ((stp_of c107_26).trans rfl)
theorem c107_27 : cd 107 27 = some (27, .if_icmp .ge 19, 3, [(46, 0)]) := by decide +kernel
theorem x107_27 {d : Nat} {a0 a1 a2 a3 a4 : Value} {s0 : Int32} {s1 : Int32} {h : AHp} : Rf d 107 27 [a0, a1, a2, a3, a4] [.int s0, .int s1] h = if s1 < s0 then Rf d 107 30 [a0, a1, a2, a3, a4] [] h else Rf d 107 46 [a0, a1, a2, a3, a4] [] h := Rf_brn ((stp_of c107_27).trans rfl)
theorem c107_46 : cd 107 46 = some (46, .iload_n 3, 1, []) := by decide +kernel
theorem x107_46 {d : Nat} {a0 a1 a2 a4 : Value} {x : Int32} {h : AHp} : Rf d 107 46 [a0, a1, a2, .int x, a4] [] h = Rf d 107 47 [a0, a1, a2, .int x, a4] [.int x] h := Rf_go ((stp_of c107_46).trans rfl)
theorem c107_47 : cd 107 47 = some (47, .ireturn, 1, []) := by decide +kernel
theorem x107_47 {d : Nat} {a0 a1 a2 a3 a4 : Value} {s0 : Int32} {h : AHp} : Rf d 107 47 [a0, a1, a2, a3, a4] [.int s0] h = some (some (.int s0), h) := Rf_end (by rw [stp_of c107_47]; simp only [stpI]; rw [if_pos (show retI (mH 107).2.2.1 s0 = true from retI_int)])
theorem c107_30 : cd 107 30 = some (30, .iload_n 3, 1, []) := by decide +kernel
theorem x107_30 {d : Nat} {a0 a1 a2 a4 : Value} {x : Int32} {h : AHp} : Rf d 107 30 [a0, a1, a2, .int x, a4] [] h = Rf d 107 31 [a0, a1, a2, .int x, a4] [.int x] h := Rf_go ((stp_of c107_30).trans rfl)
theorem c107_31 : cd 107 31 = some (31, .aload_n 0, 1, []) := by decide +kernel
theorem x107_31 {d : Nat} {a1 a2 a3 a4 : Value} {s0 : Int32} {x : Nat} {h : AHp} : Rf d 107 31 [.ref x, a1, a2, a3, a4] [.int s0] h = Rf d 107 32 [.ref x, a1, a2, a3, a4] [.ref x, .int s0] h := Rf_go ((stp_of c107_31).trans rfl)
theorem c107_32 : cd 107 32 = some (32, .getfield 29, 3, [(11, 4)]) := by decide +kernel
theorem x107_32 {d : Nat} {a0 a1 a2 a3 a4 : Value} {s0 : Nat} {s1 : Int32} {h : AHp} : Rf d 107 32 [a0, a1, a2, a3, a4] [.ref s0, .int s1] h = if cls (h.1 s0) = 11 ∧ oKr (h.1 s0) 4 = true then Rf d 107 35 [a0, a1, a2, a3, a4] [.ref (oR (h.1 s0) 4), .int s1] h else Rx d 107 32 [a0, a1, a2, a3, a4] [.ref s0, .int s1] h := getR c107_32
theorem c107_35 : cd 107 35 = some (35, .invokevirtual 156, 3, [(6, 61)]) := by decide +kernel
theorem xc107_35 {d : Nat} {a0 a1 a2 a3 a4 : Value} {s0 : Nat} {s1 : Int32} {h : AHp} {h1 : AHp} {v : Int32} (hr : cls (h.1 s0) = 6) (hq : Rf d 61 0 [.ref s0, noV, noV, noV, noV] [] h = some (some (.int v), h1)) : Rf (d + 1) 107 35 [a0, a1, a2, a3, a4] [.ref s0, .int s1] h = Rf (d + 1) 107 38 [a0, a1, a2, a3, a4] [.int v, .int s1] h1 := clV (c := 61) (as := []) c107_35 rfl (by simp [isV]) (by rw [hr]; rfl) hq
theorem c107_38 : cd 107 38 = some (38, .iadd, 1, []) := by decide +kernel
theorem x107_38 {d : Nat} {a0 a1 a2 a3 a4 : Value} {s0 : Int32} {s1 : Int32} {h : AHp} : Rf d 107 38 [a0, a1, a2, a3, a4] [.int s0, .int s1] h = Rf d 107 39 [a0, a1, a2, a3, a4] [.int (s1 + s0)] h := Rf_go ((stp_of c107_38).trans rfl)
theorem c107_39 : cd 107 39 = some (39, .istore_n 3, 1, []) := by decide +kernel
theorem x107_39 {d : Nat} {a0 a1 a2 a3 a4 : Value} {s0 : Int32} {h : AHp} : Rf d 107 39 [a0, a1, a2, a3, a4] [.int s0] h = Rf d 107 40 [a0, a1, a2, .int s0, a4] [] h := Rf_go ((stp_of c107_39).trans rfl)
theorem c107_40 : cd 107 40 = some (40, .iinc 4 1, 3, []) := by decide +kernel
theorem x107_40 {d : Nat} {a0 a1 a2 a3 : Value} {x : Int32} {h : AHp} : Rf d 107 40 [a0, a1, a2, a3, .int x] [] h = Rf d 107 43 [a0, a1, a2, a3, .int (x + 1)] [] h := Rf_go ((stp_of c107_40).trans rfl)
theorem c107_43 : cd 107 43 = some (43, .goto (-19), 3, [(24, 0)]) := by decide +kernel
theorem x107_43 {d : Nat} {a0 a1 a2 a3 a4 : Value} {h : AHp} : Rf d 107 43 [a0, a1, a2, a3, a4] [] h = Rf d 107 24 [a0, a1, a2, a3, a4] [] h := Rf_go ((stp_of c107_43).trans rfl)
-- 108: X11_even
theorem c108_0 : cd 108 0 = some (0, .iload_n 1, 1, []) := by decide +kernel
theorem x108_0 {d : Nat} {a0 : Value} {x : Int32} {h : AHp} : Rf d 108 0 [a0, .int x] [] h = Rf d 108 1 [a0, .int x] [.int x] h := Rf_go ((stp_of c108_0).trans rfl)
theorem c108_1 : cd 108 1 = some (1, .bipush 99, 2, []) := by decide +kernel
theorem x108_1 {d : Nat} {a0 a1 : Value} {s0 : Int32} {h : AHp} : Rf d 108 1 [a0, a1] [.int s0] h = Rf d 108 3 [a0, a1] [.int 99, .int s0] h := Rf_go ((stp_of c108_1).trans rfl)
theorem c108_3 : cd 108 3 = some (3, .invokestatic 39, 3, [(0, 129)]) := by decide +kernel
theorem xc108_3 {d : Nat} {a0 a1 : Value} {s0 : Int32} {s1 : Int32} {h : AHp} {h1 : AHp} {v : Int32} (hq : Rf d 129 0 [.int s1, .int s0] [] h = some (some (.int v), h1)) : Rf (d + 1) 108 3 [a0, a1] [.int s0, .int s1] h = Rf (d + 1) 108 6 [a0, a1] [.int v] h1 := clS (as := [.int s1, .int s0]) c108_3 rfl rfl (by simp [isV]) hq
theorem c108_6 : cd 108 6 = some (6, .ifCond .eq 14, 3, [(20, 0)]) := by decide +kernel
theorem x108_6 {d : Nat} {a0 a1 : Value} {s0 : Int32} {h : AHp} : Rf d 108 6 [a0, a1] [.int s0] h = if s0 = 0 then Rf d 108 20 [a0, a1] [] h else Rf d 108 9 [a0, a1] [] h := Rf_brd ((stp_of c108_6).trans rfl)
theorem c108_20 : cd 108 20 = some (20, .bipush (-2), 2, []) := by decide +kernel
theorem x108_20 {d : Nat} {a0 a1 : Value} {h : AHp} : Rf d 108 20 [a0, a1] [] h = Rf d 108 22 [a0, a1] [.int (-2)] h := Rf_go ((stp_of c108_20).trans rfl)
theorem c108_22 : cd 108 22 = some (22, .ireturn, 1, []) := by decide +kernel
theorem x108_22 {d : Nat} {a0 a1 : Value} {s0 : Int32} {h : AHp} : Rf d 108 22 [a0, a1] [.int s0] h = some (some (.int s0), h) := Rf_end (by rw [stp_of c108_22]; simp only [stpI]; rw [if_pos (show retI (mH 108).2.2.1 s0 = true from retI_int)])
theorem c108_9 : cd 108 9 = some (9, .aload_n 0, 1, []) := by decide +kernel
theorem x108_9 {d : Nat} {a1 : Value} {x : Nat} {h : AHp} : Rf d 108 9 [.ref x, a1] [] h = Rf d 108 10 [.ref x, a1] [.ref x] h := Rf_go ((stp_of c108_9).trans rfl)
theorem c108_10 : cd 108 10 = some (10, .getfield 10, 3, [(11, 0)]) := by decide +kernel
theorem x108_10 {d : Nat} {a0 a1 : Value} {s0 : Nat} {h : AHp} : Rf d 108 10 [a0, a1] [.ref s0] h = if cls (h.1 s0) = 11 ∧ oKr (h.1 s0) 0 = true then Rf d 108 13 [a0, a1] [.ref (oR (h.1 s0) 0)] h else Rx d 108 10 [a0, a1] [.ref s0] h := getR c108_10
theorem c108_13 : cd 108 13 = some (13, .iload_n 1, 1, []) := by decide +kernel
theorem x108_13 {d : Nat} {a0 : Value} {s0 : Nat} {x : Int32} {h : AHp} : Rf d 108 13 [a0, .int x] [.ref s0] h = Rf d 108 14 [a0, .int x] [.int x, .ref s0] h := Rf_go ((stp_of c108_13).trans rfl)
theorem c108_14 : cd 108 14 = some (14, .invokevirtual 171, 3, [(6, 66)]) := by decide +kernel
theorem xc108_14 {d : Nat} {a0 a1 : Value} {s0 : Int32} {s1 : Nat} {h : AHp} {h1 : AHp} {v : Int32} (hr : cls (h.1 s1) = 6) (hq : Rf d 66 0 [.ref s1, .int s0, noV, noV, noV, noV, noV] [] h = some (some (.int v), h1)) : Rf (d + 1) 108 14 [a0, a1] [.int s0, .ref s1] h = Rf (d + 1) 108 17 [a0, a1] [.int v] h1 := clV (c := 66) (as := [.int s0]) c108_14 rfl (by simp [isV]) (by rw [hr]; rfl) hq
theorem c108_17 : cd 108 17 = some (17, .goto 5, 3, [(22, 0)]) := by decide +kernel
theorem x108_17 {d : Nat} {a0 a1 : Value} {s0 : Int32} {h : AHp} : Rf d 108 17 [a0, a1] [.int s0] h = Rf d 108 22 [a0, a1] [.int s0] h := Rf_go ((stp_of c108_17).trans rfl)
-- 109: X11_spread
theorem c109_0 : cd 109 0 = some (0, .aload_n 0, 1, []) := by decide +kernel
theorem x109_0 {d : Nat} {a1 a2 : Value} {x : Nat} {h : AHp} : Rf d 109 0 [.ref x, a1, a2] [] h = Rf d 109 1 [.ref x, a1, a2] [.ref x] h := Rf_go ((stp_of c109_0).trans rfl)
theorem c109_1 : cd 109 1 = some (1, .getfield 10, 3, [(11, 0)]) := by decide +kernel
theorem x109_1 {d : Nat} {a0 a1 a2 : Value} {s0 : Nat} {h : AHp} : Rf d 109 1 [a0, a1, a2] [.ref s0] h = if cls (h.1 s0) = 11 ∧ oKr (h.1 s0) 0 = true then Rf d 109 4 [a0, a1, a2] [.ref (oR (h.1 s0) 0)] h else Rx d 109 1 [a0, a1, a2] [.ref s0] h := getR c109_1
theorem c109_4 : cd 109 4 = some (4, .iload_n 1, 1, []) := by decide +kernel
theorem x109_4 {d : Nat} {a0 a2 : Value} {s0 : Nat} {x : Int32} {h : AHp} : Rf d 109 4 [a0, .int x, a2] [.ref s0] h = Rf d 109 5 [a0, .int x, a2] [.int x, .ref s0] h := Rf_go ((stp_of c109_4).trans rfl)
theorem c109_5 : cd 109 5 = some (5, .invokevirtual 104, 3, [(6, 42)]) := by decide +kernel
theorem xc109_5 {d : Nat} {a0 a1 a2 : Value} {s0 : Int32} {s1 : Nat} {h : AHp} {h1 : AHp} {v : Int32} (hr : cls (h.1 s1) = 6) (hq : Rf d 42 0 [.ref s1, .int s0] [] h = some (some (.int v), h1)) : Rf (d + 1) 109 5 [a0, a1, a2] [.int s0, .ref s1] h = Rf (d + 1) 109 8 [a0, a1, a2] [.int v] h1 := clV (c := 42) (as := [.int s0]) c109_5 rfl (by simp [isV]) (by rw [hr]; rfl) hq
theorem c109_8 : cd 109 8 = some (8, .ifCond .ne 5, 3, [(13, 0)]) := by decide +kernel
theorem x109_8 {d : Nat} {a0 a1 a2 : Value} {s0 : Int32} {h : AHp} : Rf d 109 8 [a0, a1, a2] [.int s0] h = if s0 = 0 then Rf d 109 11 [a0, a1, a2] [] h else Rf d 109 13 [a0, a1, a2] [] h := Rf_brn ((stp_of c109_8).trans rfl)
theorem c109_13 : cd 109 13 = some (13, .iload_n 2, 1, []) := by decide +kernel
theorem x109_13 {d : Nat} {a0 a1 : Value} {x : Int32} {h : AHp} : Rf d 109 13 [a0, a1, .int x] [] h = Rf d 109 14 [a0, a1, .int x] [.int x] h := Rf_go ((stp_of c109_13).trans rfl)
theorem c109_14 : cd 109 14 = some (14, .bipush 99, 2, []) := by decide +kernel
theorem x109_14 {d : Nat} {a0 a1 a2 : Value} {s0 : Int32} {h : AHp} : Rf d 109 14 [a0, a1, a2] [.int s0] h = Rf d 109 16 [a0, a1, a2] [.int 99, .int s0] h := Rf_go ((stp_of c109_14).trans rfl)
theorem c109_16 : cd 109 16 = some (16, .invokestatic 39, 3, [(0, 129)]) := by decide +kernel
theorem xc109_16 {d : Nat} {a0 a1 a2 : Value} {s0 : Int32} {s1 : Int32} {h : AHp} {h1 : AHp} {v : Int32} (hq : Rf d 129 0 [.int s1, .int s0] [] h = some (some (.int v), h1)) : Rf (d + 1) 109 16 [a0, a1, a2] [.int s0, .int s1] h = Rf (d + 1) 109 19 [a0, a1, a2] [.int v] h1 := clS (as := [.int s1, .int s0]) c109_16 rfl rfl (by simp [isV]) hq
theorem c109_19 : cd 109 19 = some (19, .ifCond .eq 15, 3, [(34, 0)]) := by decide +kernel
theorem x109_19 {d : Nat} {a0 a1 a2 : Value} {s0 : Int32} {h : AHp} : Rf d 109 19 [a0, a1, a2] [.int s0] h = if s0 = 0 then Rf d 109 34 [a0, a1, a2] [] h else Rf d 109 22 [a0, a1, a2] [] h := Rf_brd ((stp_of c109_19).trans rfl)
theorem c109_34 : cd 109 34 = some (34, .bipush (-2), 2, []) := by decide +kernel
theorem x109_34 {d : Nat} {a0 a1 a2 : Value} {h : AHp} : Rf d 109 34 [a0, a1, a2] [] h = Rf d 109 36 [a0, a1, a2] [.int (-2)] h := Rf_go ((stp_of c109_34).trans rfl)
theorem c109_36 : cd 109 36 = some (36, .ireturn, 1, []) := by decide +kernel
theorem x109_36 {d : Nat} {a0 a1 a2 : Value} {s0 : Int32} {h : AHp} : Rf d 109 36 [a0, a1, a2] [.int s0] h = some (some (.int s0), h) := Rf_end (by rw [stp_of c109_36]; simp only [stpI]; rw [if_pos (show retI (mH 109).2.2.1 s0 = true from retI_int)])
theorem c109_22 : cd 109 22 = some (22, .aload_n 0, 1, []) := by decide +kernel
theorem x109_22 {d : Nat} {a1 a2 : Value} {x : Nat} {h : AHp} : Rf d 109 22 [.ref x, a1, a2] [] h = Rf d 109 23 [.ref x, a1, a2] [.ref x] h := Rf_go ((stp_of c109_22).trans rfl)
theorem c109_23 : cd 109 23 = some (23, .getfield 10, 3, [(11, 0)]) := by decide +kernel
theorem x109_23 {d : Nat} {a0 a1 a2 : Value} {s0 : Nat} {h : AHp} : Rf d 109 23 [a0, a1, a2] [.ref s0] h = if cls (h.1 s0) = 11 ∧ oKr (h.1 s0) 0 = true then Rf d 109 26 [a0, a1, a2] [.ref (oR (h.1 s0) 0)] h else Rx d 109 23 [a0, a1, a2] [.ref s0] h := getR c109_23
theorem c109_26 : cd 109 26 = some (26, .iload_n 1, 1, []) := by decide +kernel
theorem x109_26 {d : Nat} {a0 a2 : Value} {s0 : Nat} {x : Int32} {h : AHp} : Rf d 109 26 [a0, .int x, a2] [.ref s0] h = Rf d 109 27 [a0, .int x, a2] [.int x, .ref s0] h := Rf_go ((stp_of c109_26).trans rfl)
theorem c109_27 : cd 109 27 = some (27, .iload_n 2, 1, []) := by decide +kernel
theorem x109_27 {d : Nat} {a0 a1 : Value} {s0 : Int32} {s1 : Nat} {x : Int32} {h : AHp} : Rf d 109 27 [a0, a1, .int x] [.int s0, .ref s1] h = Rf d 109 28 [a0, a1, .int x] [.int x, .int s0, .ref s1] h := Rf_go ((stp_of c109_27).trans rfl)
theorem c109_28 : cd 109 28 = some (28, .invokevirtual 174, 3, [(6, 67)]) := by decide +kernel
theorem xc109_28 {d : Nat} {a0 a1 a2 : Value} {s0 : Int32} {s1 : Int32} {s2 : Nat} {h : AHp} {h1 : AHp} {v : Int32} (hr : cls (h.1 s2) = 6) (hq : Rf d 67 0 [.ref s2, .int s1, .int s0, noV, noV, noV] [] h = some (some (.int v), h1)) : Rf (d + 1) 109 28 [a0, a1, a2] [.int s0, .int s1, .ref s2] h = Rf (d + 1) 109 31 [a0, a1, a2] [.int v] h1 := clV (c := 67) (as := [.int s1, .int s0]) c109_28 rfl (by simp [isV]) (by rw [hr]; rfl) hq
theorem c109_31 : cd 109 31 = some (31, .goto 5, 3, [(36, 0)]) := by decide +kernel
theorem x109_31 {d : Nat} {a0 a1 a2 : Value} {s0 : Int32} {h : AHp} : Rf d 109 31 [a0, a1, a2] [.int s0] h = Rf d 109 36 [a0, a1, a2] [.int s0] h := Rf_go ((stp_of c109_31).trans rfl)
theorem c109_11 : cd 109 11 = some (11, .iconst (-1), 1, []) := by decide +kernel
theorem x109_11 {d : Nat} {a0 a1 a2 : Value} {h : AHp} : Rf d 109 11 [a0, a1, a2] [] h = Rf d 109 12 [a0, a1, a2] [.int (-1)] h := Rf_go ((stp_of c109_11).trans rfl)
theorem c109_12 : cd 109 12 = some (12, .ireturn, 1, []) := by decide +kernel
theorem x109_12 {d : Nat} {a0 a1 a2 : Value} {s0 : Int32} {h : AHp} : Rf d 109 12 [a0, a1, a2] [.int s0] h = some (some (.int s0), h) := Rf_end (by rw [stp_of c109_12]; simp only [stpI]; rw [if_pos (show retI (mH 109).2.2.1 s0 = true from retI_int)])
-- 110: X11_bargain
theorem c110_0 : cd 110 0 = some (0, .aload_n 0, 1, []) := by decide +kernel
theorem x110_0 {d : Nat} {a1 a2 a3 : Value} {x : Nat} {h : AHp} : Rf d 110 0 [.ref x, a1, a2, a3] [] h = Rf d 110 1 [.ref x, a1, a2, a3] [.ref x] h := Rf_go ((stp_of c110_0).trans rfl)
theorem c110_1 : cd 110 1 = some (1, .getfield 10, 3, [(11, 0)]) := by decide +kernel
theorem x110_1 {d : Nat} {a0 a1 a2 a3 : Value} {s0 : Nat} {h : AHp} : Rf d 110 1 [a0, a1, a2, a3] [.ref s0] h = if cls (h.1 s0) = 11 ∧ oKr (h.1 s0) 0 = true then Rf d 110 4 [a0, a1, a2, a3] [.ref (oR (h.1 s0) 0)] h else Rx d 110 1 [a0, a1, a2, a3] [.ref s0] h := getR c110_1
theorem c110_4 : cd 110 4 = some (4, .iload_n 1, 1, []) := by decide +kernel
theorem x110_4 {d : Nat} {a0 a2 a3 : Value} {s0 : Nat} {x : Int32} {h : AHp} : Rf d 110 4 [a0, .int x, a2, a3] [.ref s0] h = Rf d 110 5 [a0, .int x, a2, a3] [.int x, .ref s0] h := Rf_go ((stp_of c110_4).trans rfl)
theorem c110_5 : cd 110 5 = some (5, .invokevirtual 104, 3, [(6, 42)]) := by decide +kernel
theorem xc110_5 {d : Nat} {a0 a1 a2 a3 : Value} {s0 : Int32} {s1 : Nat} {h : AHp} {h1 : AHp} {v : Int32} (hr : cls (h.1 s1) = 6) (hq : Rf d 42 0 [.ref s1, .int s0] [] h = some (some (.int v), h1)) : Rf (d + 1) 110 5 [a0, a1, a2, a3] [.int s0, .ref s1] h = Rf (d + 1) 110 8 [a0, a1, a2, a3] [.int v] h1 := clV (c := 42) (as := [.int s0]) c110_5 rfl (by simp [isV]) (by rw [hr]; rfl) hq
theorem c110_8 : cd 110 8 = some (8, .ifCond .eq 11, 3, [(19, 0)]) := by decide +kernel
theorem x110_8 {d : Nat} {a0 a1 a2 a3 : Value} {s0 : Int32} {h : AHp} : Rf d 110 8 [a0, a1, a2, a3] [.int s0] h = if s0 = 0 then Rf d 110 19 [a0, a1, a2, a3] [] h else Rf d 110 11 [a0, a1, a2, a3] [] h := Rf_brd ((stp_of c110_8).trans rfl)
theorem c110_19 : cd 110 19 = some (19, .iconst (-1), 1, []) := by decide +kernel
theorem x110_19 {d : Nat} {a0 a1 a2 a3 : Value} {h : AHp} : Rf d 110 19 [a0, a1, a2, a3] [] h = Rf d 110 20 [a0, a1, a2, a3] [.int (-1)] h := Rf_go ((stp_of c110_19).trans rfl)
theorem c110_20 : cd 110 20 = some (20, .ireturn, 1, []) := by decide +kernel
theorem x110_20 {d : Nat} {a0 a1 a2 a3 : Value} {s0 : Int32} {h : AHp} : Rf d 110 20 [a0, a1, a2, a3] [.int s0] h = some (some (.int s0), h) := Rf_end (by rw [stp_of c110_20]; simp only [stpI]; rw [if_pos (show retI (mH 110).2.2.1 s0 = true from retI_int)])
theorem c110_11 : cd 110 11 = some (11, .iload_n 2, 1, []) := by decide +kernel
theorem x110_11 {d : Nat} {a0 a1 a3 : Value} {x : Int32} {h : AHp} : Rf d 110 11 [a0, a1, .int x, a3] [] h = Rf d 110 12 [a0, a1, .int x, a3] [.int x] h := Rf_go ((stp_of c110_11).trans rfl)
theorem c110_12 : cd 110 12 = some (12, .iconst 2, 1, []) := by decide +kernel
theorem x110_12 {d : Nat} {a0 a1 a2 a3 : Value} {s0 : Int32} {h : AHp} : Rf d 110 12 [a0, a1, a2, a3] [.int s0] h = Rf d 110 13 [a0, a1, a2, a3] [.int 2, .int s0] h := Rf_go ((stp_of c110_12).trans rfl)
theorem c110_13 : cd 110 13 = some (13, .invokestatic 39, 3, [(0, 129)]) := by decide +kernel
theorem xc110_13 {d : Nat} {a0 a1 a2 a3 : Value} {s0 : Int32} {s1 : Int32} {h : AHp} {h1 : AHp} {v : Int32} (hq : Rf d 129 0 [.int s1, .int s0] [] h = some (some (.int v), h1)) : Rf (d + 1) 110 13 [a0, a1, a2, a3] [.int s0, .int s1] h = Rf (d + 1) 110 16 [a0, a1, a2, a3] [.int v] h1 := clS (as := [.int s1, .int s0]) c110_13 rfl rfl (by simp [isV]) hq
theorem c110_16 : cd 110 16 = some (16, .ifCond .ne 5, 3, [(21, 0)]) := by decide +kernel
theorem x110_16 {d : Nat} {a0 a1 a2 a3 : Value} {s0 : Int32} {h : AHp} : Rf d 110 16 [a0, a1, a2, a3] [.int s0] h = if s0 = 0 then Rf d 110 19 [a0, a1, a2, a3] [] h else Rf d 110 21 [a0, a1, a2, a3] [] h := Rf_brn ((stp_of c110_16).trans rfl)
theorem c110_21 : cd 110 21 = some (21, .iload_n 3, 1, []) := by decide +kernel
theorem x110_21 {d : Nat} {a0 a1 a2 : Value} {x : Int32} {h : AHp} : Rf d 110 21 [a0, a1, a2, .int x] [] h = Rf d 110 22 [a0, a1, a2, .int x] [.int x] h := Rf_go ((stp_of c110_21).trans rfl)
theorem c110_22 : cd 110 22 = some (22, .sipush 999, 3, []) := by decide +kernel
theorem x110_22 {d : Nat} {a0 a1 a2 a3 : Value} {s0 : Int32} {h : AHp} : Rf d 110 22 [a0, a1, a2, a3] [.int s0] h = Rf d 110 25 [a0, a1, a2, a3] [.int 999, .int s0] h := Rf_go ((stp_of c110_22).trans rfl)
theorem c110_25 : cd 110 25 = some (25, .invokestatic 39, 3, [(0, 129)]) := by decide +kernel
theorem xc110_25 {d : Nat} {a0 a1 a2 a3 : Value} {s0 : Int32} {s1 : Int32} {h : AHp} {h1 : AHp} {v : Int32} (hq : Rf d 129 0 [.int s1, .int s0] [] h = some (some (.int v), h1)) : Rf (d + 1) 110 25 [a0, a1, a2, a3] [.int s0, .int s1] h = Rf (d + 1) 110 28 [a0, a1, a2, a3] [.int v] h1 := clS (as := [.int s1, .int s0]) c110_25 rfl rfl (by simp [isV]) hq
theorem c110_28 : cd 110 28 = some (28, .ifCond .eq 16, 3, [(44, 0)]) := by decide +kernel
theorem x110_28 {d : Nat} {a0 a1 a2 a3 : Value} {s0 : Int32} {h : AHp} : Rf d 110 28 [a0, a1, a2, a3] [.int s0] h = if s0 = 0 then Rf d 110 44 [a0, a1, a2, a3] [] h else Rf d 110 31 [a0, a1, a2, a3] [] h := Rf_brd ((stp_of c110_28).trans rfl)
theorem c110_44 : cd 110 44 = some (44, .bipush (-2), 2, []) := by decide +kernel
theorem x110_44 {d : Nat} {a0 a1 a2 a3 : Value} {h : AHp} : Rf d 110 44 [a0, a1, a2, a3] [] h = Rf d 110 46 [a0, a1, a2, a3] [.int (-2)] h := Rf_go ((stp_of c110_44).trans rfl)
theorem c110_46 : cd 110 46 = some (46, .ireturn, 1, []) := by decide +kernel
theorem x110_46 {d : Nat} {a0 a1 a2 a3 : Value} {s0 : Int32} {h : AHp} : Rf d 110 46 [a0, a1, a2, a3] [.int s0] h = some (some (.int s0), h) := Rf_end (by rw [stp_of c110_46]; simp only [stpI]; rw [if_pos (show retI (mH 110).2.2.1 s0 = true from retI_int)])
theorem c110_31 : cd 110 31 = some (31, .aload_n 0, 1, []) := by decide +kernel
theorem x110_31 {d : Nat} {a1 a2 a3 : Value} {x : Nat} {h : AHp} : Rf d 110 31 [.ref x, a1, a2, a3] [] h = Rf d 110 32 [.ref x, a1, a2, a3] [.ref x] h := Rf_go ((stp_of c110_31).trans rfl)
theorem c110_32 : cd 110 32 = some (32, .getfield 10, 3, [(11, 0)]) := by decide +kernel
theorem x110_32 {d : Nat} {a0 a1 a2 a3 : Value} {s0 : Nat} {h : AHp} : Rf d 110 32 [a0, a1, a2, a3] [.ref s0] h = if cls (h.1 s0) = 11 ∧ oKr (h.1 s0) 0 = true then Rf d 110 35 [a0, a1, a2, a3] [.ref (oR (h.1 s0) 0)] h else Rx d 110 32 [a0, a1, a2, a3] [.ref s0] h := getR c110_32
theorem c110_35 : cd 110 35 = some (35, .iload_n 1, 1, []) := by decide +kernel
theorem x110_35 {d : Nat} {a0 a2 a3 : Value} {s0 : Nat} {x : Int32} {h : AHp} : Rf d 110 35 [a0, .int x, a2, a3] [.ref s0] h = Rf d 110 36 [a0, .int x, a2, a3] [.int x, .ref s0] h := Rf_go ((stp_of c110_35).trans rfl)
theorem c110_36 : cd 110 36 = some (36, .iload_n 2, 1, []) := by decide +kernel
theorem x110_36 {d : Nat} {a0 a1 a3 : Value} {s0 : Int32} {s1 : Nat} {x : Int32} {h : AHp} : Rf d 110 36 [a0, a1, .int x, a3] [.int s0, .ref s1] h = Rf d 110 37 [a0, a1, .int x, a3] [.int x, .int s0, .ref s1] h := Rf_go ((stp_of c110_36).trans rfl)
theorem c110_37 : cd 110 37 = some (37, .iload_n 3, 1, []) := by decide +kernel
theorem x110_37 {d : Nat} {a0 a1 a2 : Value} {s0 : Int32} {s1 : Int32} {s2 : Nat} {x : Int32} {h : AHp} : Rf d 110 37 [a0, a1, a2, .int x] [.int s0, .int s1, .ref s2] h = Rf d 110 38 [a0, a1, a2, .int x] [.int x, .int s0, .int s1, .ref s2] h := Rf_go ((stp_of c110_37).trans rfl)
theorem c110_38 : cd 110 38 = some (38, .invokevirtual 177, 3, [(6, 68)]) := by decide +kernel
theorem xc110_38 {d : Nat} {a0 a1 a2 a3 : Value} {s0 : Int32} {s1 : Int32} {s2 : Int32} {s3 : Nat} {h : AHp} {h1 : AHp} {v : Int32} (hr : cls (h.1 s3) = 6) (hq : Rf d 68 0 [.ref s3, .int s2, .int s1, .int s0, noV, noV, noV, noV, noV] [] h = some (some (.int v), h1)) : Rf (d + 1) 110 38 [a0, a1, a2, a3] [.int s0, .int s1, .int s2, .ref s3] h = Rf (d + 1) 110 41 [a0, a1, a2, a3] [.int v] h1 := clV (c := 68) (as := [.int s2, .int s1, .int s0]) c110_38 rfl (by simp [isV]) (by rw [hr]; rfl) hq
theorem c110_41 : cd 110 41 = some (41, .goto 5, 3, [(46, 0)]) := by decide +kernel
theorem x110_41 {d : Nat} {a0 a1 a2 a3 : Value} {s0 : Int32} {h : AHp} : Rf d 110 41 [a0, a1, a2, a3] [.int s0] h = Rf d 110 46 [a0, a1, a2, a3] [.int s0] h := Rf_go ((stp_of c110_41).trans rfl)
-- 111: X11_die
theorem c111_0 : cd 111 0 = some (0, .iload_n 1, 1, []) := by decide +kernel
theorem x111_0 {d : Nat} {a0 a2 : Value} {x : Int32} {h : AHp} : Rf d 111 0 [a0, .int x, a2] [] h = Rf d 111 1 [a0, .int x, a2] [.int x] h := Rf_go ((stp_of c111_0).trans rfl)
theorem c111_1 : cd 111 1 = some (1, .sipush 9999, 3, []) := by decide +kernel
theorem x111_1 {d : Nat} {a0 a1 a2 : Value} {s0 : Int32} {h : AHp} : Rf d 111 1 [a0, a1, a2] [.int s0] h = Rf d 111 4 [a0, a1, a2] [.int 9999, .int s0] h := Rf_go ((stp_of c111_1).trans rfl)
theorem c111_4 : cd 111 4 = some (4, .invokestatic 39, 3, [(0, 129)]) := by decide +kernel
theorem xc111_4 {d : Nat} {a0 a1 a2 : Value} {s0 : Int32} {s1 : Int32} {h : AHp} {h1 : AHp} {v : Int32} (hq : Rf d 129 0 [.int s1, .int s0] [] h = some (some (.int v), h1)) : Rf (d + 1) 111 4 [a0, a1, a2] [.int s0, .int s1] h = Rf (d + 1) 111 7 [a0, a1, a2] [.int v] h1 := clS (as := [.int s1, .int s0]) c111_4 rfl rfl (by simp [isV]) hq
theorem c111_7 : cd 111 7 = some (7, .ifCond .ne 6, 3, [(13, 0)]) := by decide +kernel
theorem x111_7 {d : Nat} {a0 a1 a2 : Value} {s0 : Int32} {h : AHp} : Rf d 111 7 [a0, a1, a2] [.int s0] h = if s0 = 0 then Rf d 111 10 [a0, a1, a2] [] h else Rf d 111 13 [a0, a1, a2] [] h := Rf_brn ((stp_of c111_7).trans rfl)
theorem c111_13 : cd 111 13 = some (13, .aload_n 0, 1, []) := by decide +kernel
theorem x111_13 {d : Nat} {a1 a2 : Value} {x : Nat} {h : AHp} : Rf d 111 13 [.ref x, a1, a2] [] h = Rf d 111 14 [.ref x, a1, a2] [.ref x] h := Rf_go ((stp_of c111_13).trans rfl)
theorem c111_14 : cd 111 14 = some (14, .getfield 19, 3, [(11, 1)]) := by decide +kernel
theorem x111_14 {d : Nat} {a0 a1 a2 : Value} {s0 : Nat} {h : AHp} : Rf d 111 14 [a0, a1, a2] [.ref s0] h = if cls (h.1 s0) = 11 ∧ oKr (h.1 s0) 1 = true then Rf d 111 17 [a0, a1, a2] [.ref (oR (h.1 s0) 1)] h else Rx d 111 14 [a0, a1, a2] [.ref s0] h := getR c111_14
theorem c111_17 : cd 111 17 = some (17, .getfield 180, 3, [(7, 2)]) := by decide +kernel
theorem x111_17 {d : Nat} {a0 a1 a2 : Value} {s0 : Nat} {h : AHp} : Rf d 111 17 [a0, a1, a2] [.ref s0] h = if cls (h.1 s0) = 7 ∧ oKi (h.1 s0) 2 = true then Rf d 111 20 [a0, a1, a2] [.int (oN (h.1 s0) 2)] h else Rx d 111 17 [a0, a1, a2] [.ref s0] h := getI c111_17
theorem c111_20 : cd 111 20 = some (20, .istore_n 2, 1, []) := by decide +kernel
theorem x111_20 {d : Nat} {a0 a1 a2 : Value} {s0 : Int32} {h : AHp} : Rf d 111 20 [a0, a1, a2] [.int s0] h = Rf d 111 21 [a0, a1, .int s0] [] h := Rf_go ((stp_of c111_20).trans rfl)
theorem c111_21 : cd 111 21 = some (21, .aload_n 0, 1, []) := by decide +kernel
theorem x111_21 {d : Nat} {a1 a2 : Value} {x : Nat} {h : AHp} : Rf d 111 21 [.ref x, a1, a2] [] h = Rf d 111 22 [.ref x, a1, a2] [.ref x] h := Rf_go ((stp_of c111_21).trans rfl)
theorem c111_22 : cd 111 22 = some (22, .getfield 19, 3, [(11, 1)]) := by decide +kernel
theorem x111_22 {d : Nat} {a0 a1 a2 : Value} {s0 : Nat} {h : AHp} : Rf d 111 22 [a0, a1, a2] [.ref s0] h = if cls (h.1 s0) = 11 ∧ oKr (h.1 s0) 1 = true then Rf d 111 25 [a0, a1, a2] [.ref (oR (h.1 s0) 1)] h else Rx d 111 22 [a0, a1, a2] [.ref s0] h := getR c111_22
theorem c111_25 : cd 111 25 = some (25, .iload_n 1, 1, []) := by decide +kernel
theorem x111_25 {d : Nat} {a0 a2 : Value} {s0 : Nat} {x : Int32} {h : AHp} : Rf d 111 25 [a0, .int x, a2] [.ref s0] h = Rf d 111 26 [a0, .int x, a2] [.int x, .ref s0] h := Rf_go ((stp_of c111_25).trans rfl)
theorem c111_26 : cd 111 26 = some (26, .putfield 180, 3, [(7, 2)]) := by decide +kernel
theorem x111_26 {d : Nat} {a0 a1 a2 : Value} {s0 : Int32} {s1 : Nat} {h : AHp} : Rf d 111 26 [a0, a1, a2] [.int s0, .ref s1] h = if cls (h.1 s1) = 7 ∧ oL (h.1 s1) = 9 then Rf d 111 29 [a0, a1, a2] [] (hset h s1 (oSet (h.1 s1) 2 (.int s0))) else Rx d 111 26 [a0, a1, a2] [.int s0, .ref s1] h := putV c111_26 rfl (fMay_i (by decide +kernel))
theorem c111_29 : cd 111 29 = some (29, .iload_n 2, 1, []) := by decide +kernel
theorem x111_29 {d : Nat} {a0 a1 : Value} {x : Int32} {h : AHp} : Rf d 111 29 [a0, a1, .int x] [] h = Rf d 111 30 [a0, a1, .int x] [.int x] h := Rf_go ((stp_of c111_29).trans rfl)
theorem c111_30 : cd 111 30 = some (30, .ireturn, 1, []) := by decide +kernel
theorem x111_30 {d : Nat} {a0 a1 a2 : Value} {s0 : Int32} {h : AHp} : Rf d 111 30 [a0, a1, a2] [.int s0] h = some (some (.int s0), h) := Rf_end (by rw [stp_of c111_30]; simp only [stpI]; rw [if_pos (show retI (mH 111).2.2.1 s0 = true from retI_int)])
theorem c111_10 : cd 111 10 = some (10, .bipush (-2), 2, []) := by decide +kernel
theorem x111_10 {d : Nat} {a0 a1 a2 : Value} {h : AHp} : Rf d 111 10 [a0, a1, a2] [] h = Rf d 111 12 [a0, a1, a2] [.int (-2)] h := Rf_go ((stp_of c111_10).trans rfl)
theorem c111_12 : cd 111 12 = some (12, .ireturn, 1, []) := by decide +kernel
theorem x111_12 {d : Nat} {a0 a1 a2 : Value} {s0 : Int32} {h : AHp} : Rf d 111 12 [a0, a1, a2] [.int s0] h = some (some (.int s0), h) := Rf_end (by rw [stp_of c111_12]; simp only [stpI]; rw [if_pos (show retI (mH 111).2.2.1 s0 = true from retI_int)])
-- 112: X11_slip
theorem c112_0 : cd 112 0 = some (0, .iload_n 1, 1, []) := by decide +kernel
theorem x112_0 {d : Nat} {a0 a2 : Value} {x : Int32} {h : AHp} : Rf d 112 0 [a0, .int x, a2] [] h = Rf d 112 1 [a0, .int x, a2] [.int x] h := Rf_go ((stp_of c112_0).trans rfl)
theorem c112_1 : cd 112 1 = some (1, .iconst (-1), 1, []) := by decide +kernel
theorem x112_1 {d : Nat} {a0 a1 a2 : Value} {s0 : Int32} {h : AHp} : Rf d 112 1 [a0, a1, a2] [.int s0] h = Rf d 112 2 [a0, a1, a2] [.int (-1), .int s0] h := Rf_go ((stp_of c112_1).trans rfl)
theorem c112_2 : cd 112 2 = some (2, .if_icmp .lt 14, 3, [(16, 0)]) := by decide +kernel
theorem x112_2 {d : Nat} {a0 a1 a2 : Value} {s0 : Int32} {s1 : Int32} {h : AHp} : Rf d 112 2 [a0, a1, a2] [.int s0, .int s1] h = if s1 < s0 then Rf d 112 16 [a0, a1, a2] [] h else Rf d 112 5 [a0, a1, a2] [] h := Rf_brd ((stp_of c112_2).trans rfl)
theorem c112_16 : cd 112 16 = some (16, .iconst (-1), 1, []) := by decide +kernel
theorem x112_16 {d : Nat} {a0 a1 a2 : Value} {h : AHp} : Rf d 112 16 [a0, a1, a2] [] h = Rf d 112 17 [a0, a1, a2] [.int (-1)] h := Rf_go ((stp_of c112_16).trans rfl)
theorem c112_17 : cd 112 17 = some (17, .ireturn, 1, []) := by decide +kernel
theorem x112_17 {d : Nat} {a0 a1 a2 : Value} {s0 : Int32} {h : AHp} : Rf d 112 17 [a0, a1, a2] [.int s0] h = some (some (.int s0), h) := Rf_end (by rw [stp_of c112_17]; simp only [stpI]; rw [if_pos (show retI (mH 112).2.2.1 s0 = true from retI_int)])
theorem c112_5 : cd 112 5 = some (5, .iload_n 1, 1, []) := by decide +kernel
theorem x112_5 {d : Nat} {a0 a2 : Value} {x : Int32} {h : AHp} : Rf d 112 5 [a0, .int x, a2] [] h = Rf d 112 6 [a0, .int x, a2] [.int x] h := Rf_go ((stp_of c112_5).trans rfl)
theorem c112_6 : cd 112 6 = some (6, .aload_n 0, 1, []) := by decide +kernel
theorem x112_6 {d : Nat} {a1 a2 : Value} {s0 : Int32} {x : Nat} {h : AHp} : Rf d 112 6 [.ref x, a1, a2] [.int s0] h = Rf d 112 7 [.ref x, a1, a2] [.ref x, .int s0] h := Rf_go ((stp_of c112_6).trans rfl)
theorem c112_7 : cd 112 7 = some (7, .getfield 10, 3, [(11, 0)]) := by decide +kernel
theorem x112_7 {d : Nat} {a0 a1 a2 : Value} {s0 : Nat} {s1 : Int32} {h : AHp} : Rf d 112 7 [a0, a1, a2] [.ref s0, .int s1] h = if cls (h.1 s0) = 11 ∧ oKr (h.1 s0) 0 = true then Rf d 112 10 [a0, a1, a2] [.ref (oR (h.1 s0) 0), .int s1] h else Rx d 112 7 [a0, a1, a2] [.ref s0, .int s1] h := getR c112_7
theorem c112_10 : cd 112 10 = some (10, .getfield 97, 3, [(6, 0)]) := by decide +kernel
theorem x112_10 {d : Nat} {a0 a1 a2 : Value} {s0 : Nat} {s1 : Int32} {h : AHp} : Rf d 112 10 [a0, a1, a2] [.ref s0, .int s1] h = if cls (h.1 s0) = 6 ∧ oKi (h.1 s0) 0 = true then Rf d 112 13 [a0, a1, a2] [.int (oN (h.1 s0) 0), .int s1] h else Rx d 112 10 [a0, a1, a2] [.ref s0, .int s1] h := getI c112_10
theorem c112_13 : cd 112 13 = some (13, .if_icmp .lt 5, 3, [(18, 0)]) := by decide +kernel
theorem x112_13 {d : Nat} {a0 a1 a2 : Value} {s0 : Int32} {s1 : Int32} {h : AHp} : Rf d 112 13 [a0, a1, a2] [.int s0, .int s1] h = if s1 < s0 then Rf d 112 18 [a0, a1, a2] [] h else Rf d 112 16 [a0, a1, a2] [] h := Rf_brd ((stp_of c112_13).trans rfl)
theorem c112_18 : cd 112 18 = some (18, .iload_n 1, 1, []) := by decide +kernel
theorem x112_18 {d : Nat} {a0 a2 : Value} {x : Int32} {h : AHp} : Rf d 112 18 [a0, .int x, a2] [] h = Rf d 112 19 [a0, .int x, a2] [.int x] h := Rf_go ((stp_of c112_18).trans rfl)
theorem c112_19 : cd 112 19 = some (19, .iconst (-1), 1, []) := by decide +kernel
theorem x112_19 {d : Nat} {a0 a1 a2 : Value} {s0 : Int32} {h : AHp} : Rf d 112 19 [a0, a1, a2] [.int s0] h = Rf d 112 20 [a0, a1, a2] [.int (-1), .int s0] h := Rf_go ((stp_of c112_19).trans rfl)
theorem c112_20 : cd 112 20 = some (20, .if_icmp .ne 43, 3, [(63, 0)]) := by decide +kernel
theorem x112_20 {d : Nat} {a0 a1 a2 : Value} {s0 : Int32} {s1 : Int32} {h : AHp} : Rf d 112 20 [a0, a1, a2] [.int s0, .int s1] h = if s1 = s0 then Rf d 112 23 [a0, a1, a2] [] h else Rf d 112 63 [a0, a1, a2] [] h := Rf_brn ((stp_of c112_20).trans rfl)
theorem c112_63 : cd 112 63 = some (63, .aload_n 0, 1, []) := by decide +kernel
theorem x112_63 {d : Nat} {a1 a2 : Value} {x : Nat} {h : AHp} : Rf d 112 63 [.ref x, a1, a2] [] h = Rf d 112 64 [.ref x, a1, a2] [.ref x] h := Rf_go ((stp_of c112_63).trans rfl)
theorem c112_64 : cd 112 64 = some (64, .getfield 10, 3, [(11, 0)]) := by decide +kernel
theorem x112_64 {d : Nat} {a0 a1 a2 : Value} {s0 : Nat} {h : AHp} : Rf d 112 64 [a0, a1, a2] [.ref s0] h = if cls (h.1 s0) = 11 ∧ oKr (h.1 s0) 0 = true then Rf d 112 67 [a0, a1, a2] [.ref (oR (h.1 s0) 0)] h else Rx d 112 64 [a0, a1, a2] [.ref s0] h := getR c112_64
theorem c112_67 : cd 112 67 = some (67, .iload_n 1, 1, []) := by decide +kernel
theorem x112_67 {d : Nat} {a0 a2 : Value} {s0 : Nat} {x : Int32} {h : AHp} : Rf d 112 67 [a0, .int x, a2] [.ref s0] h = Rf d 112 68 [a0, .int x, a2] [.int x, .ref s0] h := Rf_go ((stp_of c112_67).trans rfl)
theorem c112_68 : cd 112 68 = some (68, .aload_n 0, 1, []) := by decide +kernel
theorem x112_68 {d : Nat} {a1 a2 : Value} {s0 : Int32} {s1 : Nat} {x : Nat} {h : AHp} : Rf d 112 68 [.ref x, a1, a2] [.int s0, .ref s1] h = Rf d 112 69 [.ref x, a1, a2] [.ref x, .int s0, .ref s1] h := Rf_go ((stp_of c112_68).trans rfl)
theorem c112_69 : cd 112 69 = some (69, .getfield 19, 3, [(11, 1)]) := by decide +kernel
theorem x112_69 {d : Nat} {a0 a1 a2 : Value} {s0 : Nat} {s1 : Int32} {s2 : Nat} {h : AHp} : Rf d 112 69 [a0, a1, a2] [.ref s0, .int s1, .ref s2] h = if cls (h.1 s0) = 11 ∧ oKr (h.1 s0) 1 = true then Rf d 112 72 [a0, a1, a2] [.ref (oR (h.1 s0) 1), .int s1, .ref s2] h else Rx d 112 69 [a0, a1, a2] [.ref s0, .int s1, .ref s2] h := getR c112_69
theorem c112_72 : cd 112 72 = some (72, .getfield 180, 3, [(7, 2)]) := by decide +kernel
theorem x112_72 {d : Nat} {a0 a1 a2 : Value} {s0 : Nat} {s1 : Int32} {s2 : Nat} {h : AHp} : Rf d 112 72 [a0, a1, a2] [.ref s0, .int s1, .ref s2] h = if cls (h.1 s0) = 7 ∧ oKi (h.1 s0) 2 = true then Rf d 112 75 [a0, a1, a2] [.int (oN (h.1 s0) 2), .int s1, .ref s2] h else Rx d 112 72 [a0, a1, a2] [.ref s0, .int s1, .ref s2] h := getI c112_72
theorem c112_75 : cd 112 75 = some (75, .invokevirtual 183, 3, [(6, 69)]) := by decide +kernel
theorem xc112_75 {d : Nat} {a0 a1 a2 : Value} {s0 : Int32} {s1 : Int32} {s2 : Nat} {h : AHp} {h1 : AHp} {v : Int32} (hr : cls (h.1 s2) = 6) (hq : Rf d 69 0 [.ref s2, .int s1, .int s0, noV, noV, noV] [] h = some (some (.int v), h1)) : Rf (d + 1) 112 75 [a0, a1, a2] [.int s0, .int s1, .ref s2] h = Rf (d + 1) 112 78 [a0, a1, a2] [.int v] h1 := clV (c := 69) (as := [.int s1, .int s0]) c112_75 rfl (by simp [isV]) (by rw [hr]; rfl) hq
theorem c112_78 : cd 112 78 = some (78, .ireturn, 1, []) := by decide +kernel
theorem x112_78 {d : Nat} {a0 a1 a2 : Value} {s0 : Int32} {h : AHp} : Rf d 112 78 [a0, a1, a2] [.int s0] h = some (some (.int s0), h) := Rf_end (by rw [stp_of c112_78]; simp only [stpI]; rw [if_pos (show retI (mH 112).2.2.1 s0 = true from retI_int)])
theorem c112_23 : cd 112 23 = some (23, .aload_n 0, 1, []) := by decide +kernel
theorem x112_23 {d : Nat} {a1 a2 : Value} {x : Nat} {h : AHp} : Rf d 112 23 [.ref x, a1, a2] [] h = Rf d 112 24 [.ref x, a1, a2] [.ref x] h := Rf_go ((stp_of c112_23).trans rfl)
theorem c112_24 : cd 112 24 = some (24, .getfield 10, 3, [(11, 0)]) := by decide +kernel
theorem x112_24 {d : Nat} {a0 a1 a2 : Value} {s0 : Nat} {h : AHp} : Rf d 112 24 [a0, a1, a2] [.ref s0] h = if cls (h.1 s0) = 11 ∧ oKr (h.1 s0) 0 = true then Rf d 112 27 [a0, a1, a2] [.ref (oR (h.1 s0) 0)] h else Rx d 112 24 [a0, a1, a2] [.ref s0] h := getR c112_24
theorem c112_27 : cd 112 27 = some (27, .aload_n 0, 1, []) := by decide +kernel
theorem x112_27 {d : Nat} {a1 a2 : Value} {s0 : Nat} {x : Nat} {h : AHp} : Rf d 112 27 [.ref x, a1, a2] [.ref s0] h = Rf d 112 28 [.ref x, a1, a2] [.ref x, .ref s0] h := Rf_go ((stp_of c112_27).trans rfl)
theorem c112_28 : cd 112 28 = some (28, .getfield 10, 3, [(11, 0)]) := by decide +kernel
theorem x112_28 {d : Nat} {a0 a1 a2 : Value} {s0 : Nat} {s1 : Nat} {h : AHp} : Rf d 112 28 [a0, a1, a2] [.ref s0, .ref s1] h = if cls (h.1 s0) = 11 ∧ oKr (h.1 s0) 0 = true then Rf d 112 31 [a0, a1, a2] [.ref (oR (h.1 s0) 0), .ref s1] h else Rx d 112 28 [a0, a1, a2] [.ref s0, .ref s1] h := getR c112_28
theorem c112_31 : cd 112 31 = some (31, .getfield 97, 3, [(6, 0)]) := by decide +kernel
theorem x112_31 {d : Nat} {a0 a1 a2 : Value} {s0 : Nat} {s1 : Nat} {h : AHp} : Rf d 112 31 [a0, a1, a2] [.ref s0, .ref s1] h = if cls (h.1 s0) = 6 ∧ oKi (h.1 s0) 0 = true then Rf d 112 34 [a0, a1, a2] [.int (oN (h.1 s0) 0), .ref s1] h else Rx d 112 31 [a0, a1, a2] [.ref s0, .ref s1] h := getI c112_31
theorem c112_34 : cd 112 34 = some (34, .iconst 1, 1, []) := by decide +kernel
theorem x112_34 {d : Nat} {a0 a1 a2 : Value} {s0 : Int32} {s1 : Nat} {h : AHp} : Rf d 112 34 [a0, a1, a2] [.int s0, .ref s1] h = Rf d 112 35 [a0, a1, a2] [.int 1, .int s0, .ref s1] h := Rf_go ((stp_of c112_34).trans rfl)
theorem c112_35 : cd 112 35 = some (35, .isub, 1, []) := by decide +kernel
theorem x112_35 {d : Nat} {a0 a1 a2 : Value} {s0 : Int32} {s1 : Int32} {s2 : Nat} {h : AHp} : Rf d 112 35 [a0, a1, a2] [.int s0, .int s1, .ref s2] h = Rf d 112 36 [a0, a1, a2] [.int (s1 - s0), .ref s2] h := Rf_go ((stp_of c112_35).trans rfl)
theorem c112_36 : cd 112 36 = some (36, .aload_n 0, 1, []) := by decide +kernel
theorem x112_36 {d : Nat} {a1 a2 : Value} {s0 : Int32} {s1 : Nat} {x : Nat} {h : AHp} : Rf d 112 36 [.ref x, a1, a2] [.int s0, .ref s1] h = Rf d 112 37 [.ref x, a1, a2] [.ref x, .int s0, .ref s1] h := Rf_go ((stp_of c112_36).trans rfl)
theorem c112_37 : cd 112 37 = some (37, .getfield 19, 3, [(11, 1)]) := by decide +kernel
theorem x112_37 {d : Nat} {a0 a1 a2 : Value} {s0 : Nat} {s1 : Int32} {s2 : Nat} {h : AHp} : Rf d 112 37 [a0, a1, a2] [.ref s0, .int s1, .ref s2] h = if cls (h.1 s0) = 11 ∧ oKr (h.1 s0) 1 = true then Rf d 112 40 [a0, a1, a2] [.ref (oR (h.1 s0) 1), .int s1, .ref s2] h else Rx d 112 37 [a0, a1, a2] [.ref s0, .int s1, .ref s2] h := getR c112_37
theorem c112_40 : cd 112 40 = some (40, .getfield 180, 3, [(7, 2)]) := by decide +kernel
theorem x112_40 {d : Nat} {a0 a1 a2 : Value} {s0 : Nat} {s1 : Int32} {s2 : Nat} {h : AHp} : Rf d 112 40 [a0, a1, a2] [.ref s0, .int s1, .ref s2] h = if cls (h.1 s0) = 7 ∧ oKi (h.1 s0) 2 = true then Rf d 112 43 [a0, a1, a2] [.int (oN (h.1 s0) 2), .int s1, .ref s2] h else Rx d 112 40 [a0, a1, a2] [.ref s0, .int s1, .ref s2] h := getI c112_40
theorem c112_43 : cd 112 43 = some (43, .invokevirtual 183, 3, [(6, 69)]) := by decide +kernel
theorem xc112_43 {d : Nat} {a0 a1 a2 : Value} {s0 : Int32} {s1 : Int32} {s2 : Nat} {h : AHp} {h1 : AHp} {v : Int32} (hr : cls (h.1 s2) = 6) (hq : Rf d 69 0 [.ref s2, .int s1, .int s0, noV, noV, noV] [] h = some (some (.int v), h1)) : Rf (d + 1) 112 43 [a0, a1, a2] [.int s0, .int s1, .ref s2] h = Rf (d + 1) 112 46 [a0, a1, a2] [.int v] h1 := clV (c := 69) (as := [.int s1, .int s0]) c112_43 rfl (by simp [isV]) (by rw [hr]; rfl) hq
theorem c112_46 : cd 112 46 = some (46, .istore_n 2, 1, []) := by decide +kernel
theorem x112_46 {d : Nat} {a0 a1 a2 : Value} {s0 : Int32} {h : AHp} : Rf d 112 46 [a0, a1, a2] [.int s0] h = Rf d 112 47 [a0, a1, .int s0] [] h := Rf_go ((stp_of c112_46).trans rfl)
theorem c112_47 : cd 112 47 = some (47, .iload_n 2, 1, []) := by decide +kernel
theorem x112_47 {d : Nat} {a0 a1 : Value} {x : Int32} {h : AHp} : Rf d 112 47 [a0, a1, .int x] [] h = Rf d 112 48 [a0, a1, .int x] [.int x] h := Rf_go ((stp_of c112_47).trans rfl)
theorem c112_48 : cd 112 48 = some (48, .aload_n 0, 1, []) := by decide +kernel
theorem x112_48 {d : Nat} {a1 a2 : Value} {s0 : Int32} {x : Nat} {h : AHp} : Rf d 112 48 [.ref x, a1, a2] [.int s0] h = Rf d 112 49 [.ref x, a1, a2] [.ref x, .int s0] h := Rf_go ((stp_of c112_48).trans rfl)
theorem c112_49 : cd 112 49 = some (49, .getfield 19, 3, [(11, 1)]) := by decide +kernel
theorem x112_49 {d : Nat} {a0 a1 a2 : Value} {s0 : Nat} {s1 : Int32} {h : AHp} : Rf d 112 49 [a0, a1, a2] [.ref s0, .int s1] h = if cls (h.1 s0) = 11 ∧ oKr (h.1 s0) 1 = true then Rf d 112 52 [a0, a1, a2] [.ref (oR (h.1 s0) 1), .int s1] h else Rx d 112 49 [a0, a1, a2] [.ref s0, .int s1] h := getR c112_49
theorem c112_52 : cd 112 52 = some (52, .getfield 180, 3, [(7, 2)]) := by decide +kernel
theorem x112_52 {d : Nat} {a0 a1 a2 : Value} {s0 : Nat} {s1 : Int32} {h : AHp} : Rf d 112 52 [a0, a1, a2] [.ref s0, .int s1] h = if cls (h.1 s0) = 7 ∧ oKi (h.1 s0) 2 = true then Rf d 112 55 [a0, a1, a2] [.int (oN (h.1 s0) 2), .int s1] h else Rx d 112 52 [a0, a1, a2] [.ref s0, .int s1] h := getI c112_52
theorem c112_55 : cd 112 55 = some (55, .isub, 1, []) := by decide +kernel
theorem x112_55 {d : Nat} {a0 a1 a2 : Value} {s0 : Int32} {s1 : Int32} {h : AHp} : Rf d 112 55 [a0, a1, a2] [.int s0, .int s1] h = Rf d 112 56 [a0, a1, a2] [.int (s1 - s0)] h := Rf_go ((stp_of c112_55).trans rfl)
theorem c112_56 : cd 112 56 = some (56, .sipush 10000, 3, []) := by decide +kernel
theorem x112_56 {d : Nat} {a0 a1 a2 : Value} {s0 : Int32} {h : AHp} : Rf d 112 56 [a0, a1, a2] [.int s0] h = Rf d 112 59 [a0, a1, a2] [.int 10000, .int s0] h := Rf_go ((stp_of c112_56).trans rfl)
theorem c112_59 : cd 112 59 = some (59, .invokestatic 186, 3, [(0, 199)]) := by decide +kernel
theorem xc112_59 {d : Nat} {a0 a1 a2 : Value} {s0 : Int32} {s1 : Int32} {h : AHp} {h1 : AHp} {v : Int32} (hq : Rf d 199 0 [.int s1, .int s0, noV] [] h = some (some (.int v), h1)) : Rf (d + 1) 112 59 [a0, a1, a2] [.int s0, .int s1] h = Rf (d + 1) 112 62 [a0, a1, a2] [.int v] h1 := clS (as := [.int s1, .int s0]) c112_59 rfl rfl (by simp [isV]) hq
theorem c112_62 : cd 112 62 = some (62, .ireturn, 1, []) := by decide +kernel
theorem x112_62 {d : Nat} {a0 a1 a2 : Value} {s0 : Int32} {h : AHp} : Rf d 112 62 [a0, a1, a2] [.int s0] h = some (some (.int s0), h) := Rf_end (by rw [stp_of c112_62]; simp only [stpI]; rw [if_pos (show retI (mH 112).2.2.1 s0 = true from retI_int)])
-- 113: X11_known
theorem c113_0 : cd 113 0 = some (0, .iconst 1, 1, []) := by decide +kernel
theorem x113_0 {d : Nat} {a0 a1 a2 : Value} {h : AHp} : Rf d 113 0 [a0, a1, a2] [] h = Rf d 113 1 [a0, a1, a2] [.int 1] h := Rf_go ((stp_of c113_0).trans rfl)
theorem c113_1 : cd 113 1 = some (1, .aload_n 0, 1, []) := by decide +kernel
theorem x113_1 {d : Nat} {a1 a2 : Value} {s0 : Int32} {x : Nat} {h : AHp} : Rf d 113 1 [.ref x, a1, a2] [.int s0] h = Rf d 113 2 [.ref x, a1, a2] [.ref x, .int s0] h := Rf_go ((stp_of c113_1).trans rfl)
theorem c113_2 : cd 113 2 = some (2, .getfield 10, 3, [(11, 0)]) := by decide +kernel
theorem x113_2 {d : Nat} {a0 a1 a2 : Value} {s0 : Nat} {s1 : Int32} {h : AHp} : Rf d 113 2 [a0, a1, a2] [.ref s0, .int s1] h = if cls (h.1 s0) = 11 ∧ oKr (h.1 s0) 0 = true then Rf d 113 5 [a0, a1, a2] [.ref (oR (h.1 s0) 0), .int s1] h else Rx d 113 2 [a0, a1, a2] [.ref s0, .int s1] h := getR c113_2
theorem c113_5 : cd 113 5 = some (5, .getfield 97, 3, [(6, 0)]) := by decide +kernel
theorem x113_5 {d : Nat} {a0 a1 a2 : Value} {s0 : Nat} {s1 : Int32} {h : AHp} : Rf d 113 5 [a0, a1, a2] [.ref s0, .int s1] h = if cls (h.1 s0) = 6 ∧ oKi (h.1 s0) 0 = true then Rf d 113 8 [a0, a1, a2] [.int (oN (h.1 s0) 0), .int s1] h else Rx d 113 5 [a0, a1, a2] [.ref s0, .int s1] h := getI c113_5
theorem c113_8 : cd 113 8 = some (8, .ishl, 1, []) := by decide +kernel
theorem x113_8 {d : Nat} {a0 a1 a2 : Value} {s0 : Int32} {s1 : Int32} {h : AHp} : Rf d 113 8 [a0, a1, a2] [.int s0, .int s1] h = Rf d 113 9 [a0, a1, a2] [.int (s1 <<< (s0 &&& 31))] h := Rf_go ((stp_of c113_8).trans rfl)
theorem c113_9 : cd 113 9 = some (9, .iconst 1, 1, []) := by decide +kernel
theorem x113_9 {d : Nat} {a0 a1 a2 : Value} {s0 : Int32} {h : AHp} : Rf d 113 9 [a0, a1, a2] [.int s0] h = Rf d 113 10 [a0, a1, a2] [.int 1, .int s0] h := Rf_go ((stp_of c113_9).trans rfl)
theorem c113_10 : cd 113 10 = some (10, .isub, 1, []) := by decide +kernel
theorem x113_10 {d : Nat} {a0 a1 a2 : Value} {s0 : Int32} {s1 : Int32} {h : AHp} : Rf d 113 10 [a0, a1, a2] [.int s0, .int s1] h = Rf d 113 11 [a0, a1, a2] [.int (s1 - s0)] h := Rf_go ((stp_of c113_10).trans rfl)
theorem c113_11 : cd 113 11 = some (11, .istore_n 2, 1, []) := by decide +kernel
theorem x113_11 {d : Nat} {a0 a1 a2 : Value} {s0 : Int32} {h : AHp} : Rf d 113 11 [a0, a1, a2] [.int s0] h = Rf d 113 12 [a0, a1, .int s0] [] h := Rf_go ((stp_of c113_11).trans rfl)
theorem c113_12 : cd 113 12 = some (12, .iload_n 1, 1, []) := by decide +kernel
theorem x113_12 {d : Nat} {a0 a2 : Value} {x : Int32} {h : AHp} : Rf d 113 12 [a0, .int x, a2] [] h = Rf d 113 13 [a0, .int x, a2] [.int x] h := Rf_go ((stp_of c113_12).trans rfl)
theorem c113_13 : cd 113 13 = some (13, .iload_n 2, 1, []) := by decide +kernel
theorem x113_13 {d : Nat} {a0 a1 : Value} {s0 : Int32} {x : Int32} {h : AHp} : Rf d 113 13 [a0, a1, .int x] [.int s0] h = Rf d 113 14 [a0, a1, .int x] [.int x, .int s0] h := Rf_go ((stp_of c113_13).trans rfl)
theorem c113_14 : cd 113 14 = some (14, .iconst (-1), 1, []) := by decide +kernel
theorem x113_14 {d : Nat} {a0 a1 a2 : Value} {s0 : Int32} {s1 : Int32} {h : AHp} : Rf d 113 14 [a0, a1, a2] [.int s0, .int s1] h = Rf d 113 15 [a0, a1, a2] [.int (-1), .int s0, .int s1] h := Rf_go ((stp_of c113_14).trans rfl)
theorem c113_15 : cd 113 15 = some (15, .ixor, 1, []) := by decide +kernel
theorem x113_15 {d : Nat} {a0 a1 a2 : Value} {s0 : Int32} {s1 : Int32} {s2 : Int32} {h : AHp} : Rf d 113 15 [a0, a1, a2] [.int s0, .int s1, .int s2] h = Rf d 113 16 [a0, a1, a2] [.int (s1 ^^^ s0), .int s2] h := Rf_go ((stp_of c113_15).trans rfl)
theorem c113_16 : cd 113 16 = some (16, .iand, 1, []) := by decide +kernel
theorem x113_16 {d : Nat} {a0 a1 a2 : Value} {s0 : Int32} {s1 : Int32} {h : AHp} : Rf d 113 16 [a0, a1, a2] [.int s0, .int s1] h = Rf d 113 17 [a0, a1, a2] [.int (s1 &&& s0)] h := Rf_go ((stp_of c113_16).trans rfl)
theorem c113_17 : cd 113 17 = some (17, .ifCond .eq 8, 3, [(25, 0)]) := by decide +kernel
theorem x113_17 {d : Nat} {a0 a1 a2 : Value} {s0 : Int32} {h : AHp} : Rf d 113 17 [a0, a1, a2] [.int s0] h = if s0 = 0 then Rf d 113 25 [a0, a1, a2] [] h else Rf d 113 20 [a0, a1, a2] [] h := Rf_brd ((stp_of c113_17).trans rfl)
theorem c113_25 : cd 113 25 = some (25, .aload_n 0, 1, []) := by decide +kernel
theorem x113_25 {d : Nat} {a1 a2 : Value} {x : Nat} {h : AHp} : Rf d 113 25 [.ref x, a1, a2] [] h = Rf d 113 26 [.ref x, a1, a2] [.ref x] h := Rf_go ((stp_of c113_25).trans rfl)
theorem c113_26 : cd 113 26 = some (26, .getfield 10, 3, [(11, 0)]) := by decide +kernel
theorem x113_26 {d : Nat} {a0 a1 a2 : Value} {s0 : Nat} {h : AHp} : Rf d 113 26 [a0, a1, a2] [.ref s0] h = if cls (h.1 s0) = 11 ∧ oKr (h.1 s0) 0 = true then Rf d 113 29 [a0, a1, a2] [.ref (oR (h.1 s0) 0)] h else Rx d 113 26 [a0, a1, a2] [.ref s0] h := getR c113_26
theorem c113_29 : cd 113 29 = some (29, .iload_n 1, 1, []) := by decide +kernel
theorem x113_29 {d : Nat} {a0 a2 : Value} {s0 : Nat} {x : Int32} {h : AHp} : Rf d 113 29 [a0, .int x, a2] [.ref s0] h = Rf d 113 30 [a0, .int x, a2] [.int x, .ref s0] h := Rf_go ((stp_of c113_29).trans rfl)
theorem c113_30 : cd 113 30 = some (30, .iload_n 2, 1, []) := by decide +kernel
theorem x113_30 {d : Nat} {a0 a1 : Value} {s0 : Int32} {s1 : Nat} {x : Int32} {h : AHp} : Rf d 113 30 [a0, a1, .int x] [.int s0, .ref s1] h = Rf d 113 31 [a0, a1, .int x] [.int x, .int s0, .ref s1] h := Rf_go ((stp_of c113_30).trans rfl)
theorem c113_31 : cd 113 31 = some (31, .invokevirtual 189, 3, [(6, 70)]) := by decide +kernel
theorem xc113_31 {d : Nat} {a0 a1 a2 : Value} {s0 : Int32} {s1 : Int32} {s2 : Nat} {h : AHp} {h1 : AHp} {v : Int32} (hr : cls (h.1 s2) = 6) (hq : Rf d 70 0 [.ref s2, .int s1, .int s0, noV, noV, noV, noV, noV] [] h = some (some (.int v), h1)) : Rf (d + 1) 113 31 [a0, a1, a2] [.int s0, .int s1, .ref s2] h = Rf (d + 1) 113 34 [a0, a1, a2] [.int v] h1 := clV (c := 70) (as := [.int s1, .int s0]) c113_31 rfl (by simp [isV]) (by rw [hr]; rfl) hq
theorem c113_34 : cd 113 34 = some (34, .ireturn, 1, []) := by decide +kernel
theorem x113_34 {d : Nat} {a0 a1 a2 : Value} {s0 : Int32} {h : AHp} : Rf d 113 34 [a0, a1, a2] [.int s0] h = some (some (.int s0), h) := Rf_end (by rw [stp_of c113_34]; simp only [stpI]; rw [if_pos (show retI (mH 113).2.2.1 s0 = true from retI_int)])
theorem c113_20 : cd 113 20 = some (20, .bipush (-2), 2, []) := by decide +kernel
theorem x113_20 {d : Nat} {a0 a1 a2 : Value} {h : AHp} : Rf d 113 20 [a0, a1, a2] [] h = Rf d 113 22 [a0, a1, a2] [.int (-2)] h := Rf_go ((stp_of c113_20).trans rfl)
theorem c113_22 : cd 113 22 = some (22, .goto 12, 3, [(34, 0)]) := by decide +kernel
theorem x113_22 {d : Nat} {a0 a1 a2 : Value} {s0 : Int32} {h : AHp} : Rf d 113 22 [a0, a1, a2] [.int s0] h = Rf d 113 34 [a0, a1, a2] [.int s0] h := Rf_go ((stp_of c113_22).trans rfl)
-- 114: X11_advert
theorem c114_0 : cd 114 0 = some (0, .aload_n 0, 1, []) := by decide +kernel
theorem x114_0 {d : Nat} {a1 a2 a3 : Value} {x : Nat} {h : AHp} : Rf d 114 0 [.ref x, a1, a2, a3] [] h = Rf d 114 1 [.ref x, a1, a2, a3] [.ref x] h := Rf_go ((stp_of c114_0).trans rfl)
theorem c114_1 : cd 114 1 = some (1, .getfield 10, 3, [(11, 0)]) := by decide +kernel
theorem x114_1 {d : Nat} {a0 a1 a2 a3 : Value} {s0 : Nat} {h : AHp} : Rf d 114 1 [a0, a1, a2, a3] [.ref s0] h = if cls (h.1 s0) = 11 ∧ oKr (h.1 s0) 0 = true then Rf d 114 4 [a0, a1, a2, a3] [.ref (oR (h.1 s0) 0)] h else Rx d 114 1 [a0, a1, a2, a3] [.ref s0] h := getR c114_1
theorem c114_4 : cd 114 4 = some (4, .iload_n 1, 1, []) := by decide +kernel
theorem x114_4 {d : Nat} {a0 a2 a3 : Value} {s0 : Nat} {x : Int32} {h : AHp} : Rf d 114 4 [a0, .int x, a2, a3] [.ref s0] h = Rf d 114 5 [a0, .int x, a2, a3] [.int x, .ref s0] h := Rf_go ((stp_of c114_4).trans rfl)
theorem c114_5 : cd 114 5 = some (5, .invokevirtual 104, 3, [(6, 42)]) := by decide +kernel
theorem xc114_5 {d : Nat} {a0 a1 a2 a3 : Value} {s0 : Int32} {s1 : Nat} {h : AHp} {h1 : AHp} {v : Int32} (hr : cls (h.1 s1) = 6) (hq : Rf d 42 0 [.ref s1, .int s0] [] h = some (some (.int v), h1)) : Rf (d + 1) 114 5 [a0, a1, a2, a3] [.int s0, .ref s1] h = Rf (d + 1) 114 8 [a0, a1, a2, a3] [.int v] h1 := clV (c := 42) (as := [.int s0]) c114_5 rfl (by simp [isV]) (by rw [hr]; rfl) hq
theorem c114_8 : cd 114 8 = some (8, .ifCond .ne 5, 3, [(13, 0)]) := by decide +kernel
theorem x114_8 {d : Nat} {a0 a1 a2 a3 : Value} {s0 : Int32} {h : AHp} : Rf d 114 8 [a0, a1, a2, a3] [.int s0] h = if s0 = 0 then Rf d 114 11 [a0, a1, a2, a3] [] h else Rf d 114 13 [a0, a1, a2, a3] [] h := Rf_brn ((stp_of c114_8).trans rfl)
theorem c114_13 : cd 114 13 = some (13, .iload_n 2, 1, []) := by decide +kernel
theorem x114_13 {d : Nat} {a0 a1 a3 : Value} {x : Int32} {h : AHp} : Rf d 114 13 [a0, a1, .int x, a3] [] h = Rf d 114 14 [a0, a1, .int x, a3] [.int x] h := Rf_go ((stp_of c114_13).trans rfl)
theorem c114_14 : cd 114 14 = some (14, .sipush 999, 3, []) := by decide +kernel
theorem x114_14 {d : Nat} {a0 a1 a2 a3 : Value} {s0 : Int32} {h : AHp} : Rf d 114 14 [a0, a1, a2, a3] [.int s0] h = Rf d 114 17 [a0, a1, a2, a3] [.int 999, .int s0] h := Rf_go ((stp_of c114_14).trans rfl)
theorem c114_17 : cd 114 17 = some (17, .invokestatic 39, 3, [(0, 129)]) := by decide +kernel
theorem xc114_17 {d : Nat} {a0 a1 a2 a3 : Value} {s0 : Int32} {s1 : Int32} {h : AHp} {h1 : AHp} {v : Int32} (hq : Rf d 129 0 [.int s1, .int s0] [] h = some (some (.int v), h1)) : Rf (d + 1) 114 17 [a0, a1, a2, a3] [.int s0, .int s1] h = Rf (d + 1) 114 20 [a0, a1, a2, a3] [.int v] h1 := clS (as := [.int s1, .int s0]) c114_17 rfl rfl (by simp [isV]) hq
theorem c114_20 : cd 114 20 = some (20, .ifCond .eq 18, 3, [(38, 0)]) := by decide +kernel
theorem x114_20 {d : Nat} {a0 a1 a2 a3 : Value} {s0 : Int32} {h : AHp} : Rf d 114 20 [a0, a1, a2, a3] [.int s0] h = if s0 = 0 then Rf d 114 38 [a0, a1, a2, a3] [] h else Rf d 114 23 [a0, a1, a2, a3] [] h := Rf_brd ((stp_of c114_20).trans rfl)
theorem c114_38 : cd 114 38 = some (38, .bipush (-2), 2, []) := by decide +kernel
theorem x114_38 {d : Nat} {a0 a1 a2 a3 : Value} {h : AHp} : Rf d 114 38 [a0, a1, a2, a3] [] h = Rf d 114 40 [a0, a1, a2, a3] [.int (-2)] h := Rf_go ((stp_of c114_38).trans rfl)
theorem c114_40 : cd 114 40 = some (40, .ireturn, 1, []) := by decide +kernel
theorem x114_40 {d : Nat} {a0 a1 a2 a3 : Value} {s0 : Int32} {h : AHp} : Rf d 114 40 [a0, a1, a2, a3] [.int s0] h = some (some (.int s0), h) := Rf_end (by rw [stp_of c114_40]; simp only [stpI]; rw [if_pos (show retI (mH 114).2.2.1 s0 = true from retI_int)])
theorem c114_23 : cd 114 23 = some (23, .iload_n 3, 1, []) := by decide +kernel
theorem x114_23 {d : Nat} {a0 a1 a2 : Value} {x : Int32} {h : AHp} : Rf d 114 23 [a0, a1, a2, .int x] [] h = Rf d 114 24 [a0, a1, a2, .int x] [.int x] h := Rf_go ((stp_of c114_23).trans rfl)
theorem c114_24 : cd 114 24 = some (24, .sipush 999, 3, []) := by decide +kernel
theorem x114_24 {d : Nat} {a0 a1 a2 a3 : Value} {s0 : Int32} {h : AHp} : Rf d 114 24 [a0, a1, a2, a3] [.int s0] h = Rf d 114 27 [a0, a1, a2, a3] [.int 999, .int s0] h := Rf_go ((stp_of c114_24).trans rfl)
theorem c114_27 : cd 114 27 = some (27, .invokestatic 39, 3, [(0, 129)]) := by decide +kernel
theorem xc114_27 {d : Nat} {a0 a1 a2 a3 : Value} {s0 : Int32} {s1 : Int32} {h : AHp} {h1 : AHp} {v : Int32} (hq : Rf d 129 0 [.int s1, .int s0] [] h = some (some (.int v), h1)) : Rf (d + 1) 114 27 [a0, a1, a2, a3] [.int s0, .int s1] h = Rf (d + 1) 114 30 [a0, a1, a2, a3] [.int v] h1 := clS (as := [.int s1, .int s0]) c114_27 rfl rfl (by simp [isV]) hq
theorem c114_30 : cd 114 30 = some (30, .ifCond .eq 8, 3, [(38, 0)]) := by decide +kernel
theorem x114_30 {d : Nat} {a0 a1 a2 a3 : Value} {s0 : Int32} {h : AHp} : Rf d 114 30 [a0, a1, a2, a3] [.int s0] h = if s0 = 0 then Rf d 114 38 [a0, a1, a2, a3] [] h else Rf d 114 33 [a0, a1, a2, a3] [] h := Rf_brd ((stp_of c114_30).trans rfl)
theorem c114_33 : cd 114 33 = some (33, .iload_n 2, 1, []) := by decide +kernel
theorem x114_33 {d : Nat} {a0 a1 a3 : Value} {x : Int32} {h : AHp} : Rf d 114 33 [a0, a1, .int x, a3] [] h = Rf d 114 34 [a0, a1, .int x, a3] [.int x] h := Rf_go ((stp_of c114_33).trans rfl)
theorem c114_34 : cd 114 34 = some (34, .iload_n 3, 1, []) := by decide +kernel
theorem x114_34 {d : Nat} {a0 a1 a2 : Value} {s0 : Int32} {x : Int32} {h : AHp} : Rf d 114 34 [a0, a1, a2, .int x] [.int s0] h = Rf d 114 35 [a0, a1, a2, .int x] [.int x, .int s0] h := Rf_go ((stp_of c114_34).trans rfl)
theorem c114_35 : cd 114 35 = some (35, .if_icmp .le 6, 3, [(41, 0)]) := by decide +kernel
theorem x114_35 {d : Nat} {a0 a1 a2 a3 : Value} {s0 : Int32} {s1 : Int32} {h : AHp} : Rf d 114 35 [a0, a1, a2, a3] [.int s0, .int s1] h = if s0 < s1 then Rf d 114 38 [a0, a1, a2, a3] [] h else Rf d 114 41 [a0, a1, a2, a3] [] h := Rf_brn ((stp_of c114_35).trans rfl)
theorem c114_41 : cd 114 41 = some (41, .aload_n 0, 1, []) := by decide +kernel
theorem x114_41 {d : Nat} {a1 a2 a3 : Value} {x : Nat} {h : AHp} : Rf d 114 41 [.ref x, a1, a2, a3] [] h = Rf d 114 42 [.ref x, a1, a2, a3] [.ref x] h := Rf_go ((stp_of c114_41).trans rfl)
theorem c114_42 : cd 114 42 = some (42, .getfield 19, 3, [(11, 1)]) := by decide +kernel
theorem x114_42 {d : Nat} {a0 a1 a2 a3 : Value} {s0 : Nat} {h : AHp} : Rf d 114 42 [a0, a1, a2, a3] [.ref s0] h = if cls (h.1 s0) = 11 ∧ oKr (h.1 s0) 1 = true then Rf d 114 45 [a0, a1, a2, a3] [.ref (oR (h.1 s0) 1)] h else Rx d 114 42 [a0, a1, a2, a3] [.ref s0] h := getR c114_42
theorem c114_45 : cd 114 45 = some (45, .getfield 192, 3, [(7, 6)]) := by decide +kernel
theorem x114_45 {d : Nat} {a0 a1 a2 a3 : Value} {s0 : Nat} {h : AHp} : Rf d 114 45 [a0, a1, a2, a3] [.ref s0] h = if cls (h.1 s0) = 7 ∧ oKi (h.1 s0) 6 = true then Rf d 114 48 [a0, a1, a2, a3] [.int (oN (h.1 s0) 6)] h else Rx d 114 45 [a0, a1, a2, a3] [.ref s0] h := getI c114_45
theorem c114_48 : cd 114 48 = some (48, .bipush 12, 2, []) := by decide +kernel
theorem x114_48 {d : Nat} {a0 a1 a2 a3 : Value} {s0 : Int32} {h : AHp} : Rf d 114 48 [a0, a1, a2, a3] [.int s0] h = Rf d 114 50 [a0, a1, a2, a3] [.int 12, .int s0] h := Rf_go ((stp_of c114_48).trans rfl)
theorem c114_50 : cd 114 50 = some (50, .if_icmp .lt 8, 3, [(58, 0)]) := by decide +kernel
theorem x114_50 {d : Nat} {a0 a1 a2 a3 : Value} {s0 : Int32} {s1 : Int32} {h : AHp} : Rf d 114 50 [a0, a1, a2, a3] [.int s0, .int s1] h = if s1 < s0 then Rf d 114 58 [a0, a1, a2, a3] [] h else Rf d 114 53 [a0, a1, a2, a3] [] h := Rf_brd ((stp_of c114_50).trans rfl)
theorem c114_58 : cd 114 58 = some (58, .aload_n 0, 1, []) := by decide +kernel
theorem x114_58 {d : Nat} {a1 a2 a3 : Value} {x : Nat} {h : AHp} : Rf d 114 58 [.ref x, a1, a2, a3] [] h = Rf d 114 59 [.ref x, a1, a2, a3] [.ref x] h := Rf_go ((stp_of c114_58).trans rfl)
theorem c114_59 : cd 114 59 = some (59, .getfield 19, 3, [(11, 1)]) := by decide +kernel
theorem x114_59 {d : Nat} {a0 a1 a2 a3 : Value} {s0 : Nat} {h : AHp} : Rf d 114 59 [a0, a1, a2, a3] [.ref s0] h = if cls (h.1 s0) = 11 ∧ oKr (h.1 s0) 1 = true then Rf d 114 62 [a0, a1, a2, a3] [.ref (oR (h.1 s0) 1)] h else Rx d 114 59 [a0, a1, a2, a3] [.ref s0] h := getR c114_59
theorem c114_62 : cd 114 62 = some (62, .iload_n 1, 1, []) := by decide +kernel
theorem x114_62 {d : Nat} {a0 a2 a3 : Value} {s0 : Nat} {x : Int32} {h : AHp} : Rf d 114 62 [a0, .int x, a2, a3] [.ref s0] h = Rf d 114 63 [a0, .int x, a2, a3] [.int x, .ref s0] h := Rf_go ((stp_of c114_62).trans rfl)
theorem c114_63 : cd 114 63 = some (63, .iload_n 2, 1, []) := by decide +kernel
theorem x114_63 {d : Nat} {a0 a1 a3 : Value} {s0 : Int32} {s1 : Nat} {x : Int32} {h : AHp} : Rf d 114 63 [a0, a1, .int x, a3] [.int s0, .ref s1] h = Rf d 114 64 [a0, a1, .int x, a3] [.int x, .int s0, .ref s1] h := Rf_go ((stp_of c114_63).trans rfl)
theorem c114_64 : cd 114 64 = some (64, .iload_n 3, 1, []) := by decide +kernel
theorem x114_64 {d : Nat} {a0 a1 a2 : Value} {s0 : Int32} {s1 : Int32} {s2 : Nat} {x : Int32} {h : AHp} : Rf d 114 64 [a0, a1, a2, .int x] [.int s0, .int s1, .ref s2] h = Rf d 114 65 [a0, a1, a2, .int x] [.int x, .int s0, .int s1, .ref s2] h := Rf_go ((stp_of c114_64).trans rfl)
theorem c114_65 : cd 114 65 = some (65, .invokevirtual 195, 3, [(7, 80)]) := by decide +kernel
theorem xc114_65 {d : Nat} {a0 a1 a2 a3 : Value} {s0 : Int32} {s1 : Int32} {s2 : Int32} {s3 : Nat} {h : AHp} {h1 : AHp} {v : Int32} (hr : cls (h.1 s3) = 7) (hq : Rf d 80 0 [.ref s3, .int s2, .int s1, .int s0] [] h = some (some (.int v), h1)) : Rf (d + 1) 114 65 [a0, a1, a2, a3] [.int s0, .int s1, .int s2, .ref s3] h = Rf (d + 1) 114 68 [a0, a1, a2, a3] [.int v] h1 := clV (c := 80) (as := [.int s2, .int s1, .int s0]) c114_65 rfl (by simp [isV]) (by rw [hr]; rfl) hq
theorem c114_68 : cd 114 68 = some (68, .ireturn, 1, []) := by decide +kernel
theorem x114_68 {d : Nat} {a0 a1 a2 a3 : Value} {s0 : Int32} {h : AHp} : Rf d 114 68 [a0, a1, a2, a3] [.int s0] h = some (some (.int s0), h) := Rf_end (by rw [stp_of c114_68]; simp only [stpI]; rw [if_pos (show retI (mH 114).2.2.1 s0 = true from retI_int)])
theorem c114_53 : cd 114 53 = some (53, .bipush (-4), 2, []) := by decide +kernel
theorem x114_53 {d : Nat} {a0 a1 a2 a3 : Value} {h : AHp} : Rf d 114 53 [a0, a1, a2, a3] [] h = Rf d 114 55 [a0, a1, a2, a3] [.int (-4)] h := Rf_go ((stp_of c114_53).trans rfl)
theorem c114_55 : cd 114 55 = some (55, .goto 13, 3, [(68, 0)]) := by decide +kernel
theorem x114_55 {d : Nat} {a0 a1 a2 a3 : Value} {s0 : Int32} {h : AHp} : Rf d 114 55 [a0, a1, a2, a3] [.int s0] h = Rf d 114 68 [a0, a1, a2, a3] [.int s0] h := Rf_go ((stp_of c114_55).trans rfl)
theorem c114_11 : cd 114 11 = some (11, .iconst (-1), 1, []) := by decide +kernel
theorem x114_11 {d : Nat} {a0 a1 a2 a3 : Value} {h : AHp} : Rf d 114 11 [a0, a1, a2, a3] [] h = Rf d 114 12 [a0, a1, a2, a3] [.int (-1)] h := Rf_go ((stp_of c114_11).trans rfl)
theorem c114_12 : cd 114 12 = some (12, .ireturn, 1, []) := by decide +kernel
theorem x114_12 {d : Nat} {a0 a1 a2 a3 : Value} {s0 : Int32} {h : AHp} : Rf d 114 12 [a0, a1, a2, a3] [.int s0] h = some (some (.int s0), h) := Rf_end (by rw [stp_of c114_12]; simp only [stpI]; rw [if_pos (show retI (mH 114).2.2.1 s0 = true from retI_int)])
-- 115: X11_clear
theorem c115_0 : cd 115 0 = some (0, .aload_n 0, 1, []) := by decide +kernel
theorem x115_0 {d : Nat} {a1 : Value} {x : Nat} {h : AHp} : Rf d 115 0 [.ref x, a1] [] h = Rf d 115 1 [.ref x, a1] [.ref x] h := Rf_go ((stp_of c115_0).trans rfl)
theorem c115_1 : cd 115 1 = some (1, .getfield 19, 3, [(11, 1)]) := by decide +kernel
theorem x115_1 {d : Nat} {a0 a1 : Value} {s0 : Nat} {h : AHp} : Rf d 115 1 [a0, a1] [.ref s0] h = if cls (h.1 s0) = 11 ∧ oKr (h.1 s0) 1 = true then Rf d 115 4 [a0, a1] [.ref (oR (h.1 s0) 1)] h else Rx d 115 1 [a0, a1] [.ref s0] h := getR c115_1
theorem c115_4 : cd 115 4 = some (4, .getfield 192, 3, [(7, 6)]) := by decide +kernel
theorem x115_4 {d : Nat} {a0 a1 : Value} {s0 : Nat} {h : AHp} : Rf d 115 4 [a0, a1] [.ref s0] h = if cls (h.1 s0) = 7 ∧ oKi (h.1 s0) 6 = true then Rf d 115 7 [a0, a1] [.int (oN (h.1 s0) 6)] h else Rx d 115 4 [a0, a1] [.ref s0] h := getI c115_4
theorem c115_7 : cd 115 7 = some (7, .istore_n 1, 1, []) := by decide +kernel
theorem x115_7 {d : Nat} {a0 a1 : Value} {s0 : Int32} {h : AHp} : Rf d 115 7 [a0, a1] [.int s0] h = Rf d 115 8 [a0, .int s0] [] h := Rf_go ((stp_of c115_7).trans rfl)
theorem c115_8 : cd 115 8 = some (8, .aload_n 0, 1, []) := by decide +kernel
theorem x115_8 {d : Nat} {a1 : Value} {x : Nat} {h : AHp} : Rf d 115 8 [.ref x, a1] [] h = Rf d 115 9 [.ref x, a1] [.ref x] h := Rf_go ((stp_of c115_8).trans rfl)
theorem c115_9 : cd 115 9 = some (9, .getfield 19, 3, [(11, 1)]) := by decide +kernel
theorem x115_9 {d : Nat} {a0 a1 : Value} {s0 : Nat} {h : AHp} : Rf d 115 9 [a0, a1] [.ref s0] h = if cls (h.1 s0) = 11 ∧ oKr (h.1 s0) 1 = true then Rf d 115 12 [a0, a1] [.ref (oR (h.1 s0) 1)] h else Rx d 115 9 [a0, a1] [.ref s0] h := getR c115_9
theorem c115_12 : cd 115 12 = some (12, .iconst 0, 1, []) := by decide +kernel
theorem x115_12 {d : Nat} {a0 a1 : Value} {s0 : Nat} {h : AHp} : Rf d 115 12 [a0, a1] [.ref s0] h = Rf d 115 13 [a0, a1] [.int 0, .ref s0] h := Rf_go ((stp_of c115_12).trans rfl)
theorem c115_13 : cd 115 13 = some (13, .putfield 192, 3, [(7, 6)]) := by decide +kernel
theorem x115_13 {d : Nat} {a0 a1 : Value} {s0 : Int32} {s1 : Nat} {h : AHp} : Rf d 115 13 [a0, a1] [.int s0, .ref s1] h = if cls (h.1 s1) = 7 ∧ oL (h.1 s1) = 9 then Rf d 115 16 [a0, a1] [] (hset h s1 (oSet (h.1 s1) 6 (.int s0))) else Rx d 115 13 [a0, a1] [.int s0, .ref s1] h := putV c115_13 rfl (fMay_i (by decide +kernel))
theorem c115_16 : cd 115 16 = some (16, .iload_n 1, 1, []) := by decide +kernel
theorem x115_16 {d : Nat} {a0 : Value} {x : Int32} {h : AHp} : Rf d 115 16 [a0, .int x] [] h = Rf d 115 17 [a0, .int x] [.int x] h := Rf_go ((stp_of c115_16).trans rfl)
theorem c115_17 : cd 115 17 = some (17, .ireturn, 1, []) := by decide +kernel
theorem x115_17 {d : Nat} {a0 a1 : Value} {s0 : Int32} {h : AHp} : Rf d 115 17 [a0, a1] [.int s0] h = some (some (.int s0), h) := Rf_end (by rw [stp_of c115_17]; simp only [stpI]; rw [if_pos (show retI (mH 115).2.2.1 s0 = true from retI_int)])
-- 116: X11_span
theorem c116_0 : cd 116 0 = some (0, .aload_n 0, 1, []) := by decide +kernel
theorem x116_0 {d : Nat} {a1 a2 : Value} {x : Nat} {h : AHp} : Rf d 116 0 [.ref x, a1, a2] [] h = Rf d 116 1 [.ref x, a1, a2] [.ref x] h := Rf_go ((stp_of c116_0).trans rfl)
theorem c116_1 : cd 116 1 = some (1, .getfield 10, 3, [(11, 0)]) := by decide +kernel
theorem x116_1 {d : Nat} {a0 a1 a2 : Value} {s0 : Nat} {h : AHp} : Rf d 116 1 [a0, a1, a2] [.ref s0] h = if cls (h.1 s0) = 11 ∧ oKr (h.1 s0) 0 = true then Rf d 116 4 [a0, a1, a2] [.ref (oR (h.1 s0) 0)] h else Rx d 116 1 [a0, a1, a2] [.ref s0] h := getR c116_1
theorem c116_4 : cd 116 4 = some (4, .iload_n 1, 1, []) := by decide +kernel
theorem x116_4 {d : Nat} {a0 a2 : Value} {s0 : Nat} {x : Int32} {h : AHp} : Rf d 116 4 [a0, .int x, a2] [.ref s0] h = Rf d 116 5 [a0, .int x, a2] [.int x, .ref s0] h := Rf_go ((stp_of c116_4).trans rfl)
theorem c116_5 : cd 116 5 = some (5, .invokevirtual 104, 3, [(6, 42)]) := by decide +kernel
theorem xc116_5 {d : Nat} {a0 a1 a2 : Value} {s0 : Int32} {s1 : Nat} {h : AHp} {h1 : AHp} {v : Int32} (hr : cls (h.1 s1) = 6) (hq : Rf d 42 0 [.ref s1, .int s0] [] h = some (some (.int v), h1)) : Rf (d + 1) 116 5 [a0, a1, a2] [.int s0, .ref s1] h = Rf (d + 1) 116 8 [a0, a1, a2] [.int v] h1 := clV (c := 42) (as := [.int s0]) c116_5 rfl (by simp [isV]) (by rw [hr]; rfl) hq
theorem c116_8 : cd 116 8 = some (8, .ifCond .eq 11, 3, [(19, 0)]) := by decide +kernel
theorem x116_8 {d : Nat} {a0 a1 a2 : Value} {s0 : Int32} {h : AHp} : Rf d 116 8 [a0, a1, a2] [.int s0] h = if s0 = 0 then Rf d 116 19 [a0, a1, a2] [] h else Rf d 116 11 [a0, a1, a2] [] h := Rf_brd ((stp_of c116_8).trans rfl)
theorem c116_19 : cd 116 19 = some (19, .iconst (-1), 1, []) := by decide +kernel
theorem x116_19 {d : Nat} {a0 a1 a2 : Value} {h : AHp} : Rf d 116 19 [a0, a1, a2] [] h = Rf d 116 20 [a0, a1, a2] [.int (-1)] h := Rf_go ((stp_of c116_19).trans rfl)
theorem c116_20 : cd 116 20 = some (20, .ireturn, 1, []) := by decide +kernel
theorem x116_20 {d : Nat} {a0 a1 a2 : Value} {s0 : Int32} {h : AHp} : Rf d 116 20 [a0, a1, a2] [.int s0] h = some (some (.int s0), h) := Rf_end (by rw [stp_of c116_20]; simp only [stpI]; rw [if_pos (show retI (mH 116).2.2.1 s0 = true from retI_int)])
theorem c116_11 : cd 116 11 = some (11, .iload_n 2, 1, []) := by decide +kernel
theorem x116_11 {d : Nat} {a0 a1 : Value} {x : Int32} {h : AHp} : Rf d 116 11 [a0, a1, .int x] [] h = Rf d 116 12 [a0, a1, .int x] [.int x] h := Rf_go ((stp_of c116_11).trans rfl)
theorem c116_12 : cd 116 12 = some (12, .iconst 1, 1, []) := by decide +kernel
theorem x116_12 {d : Nat} {a0 a1 a2 : Value} {s0 : Int32} {h : AHp} : Rf d 116 12 [a0, a1, a2] [.int s0] h = Rf d 116 13 [a0, a1, a2] [.int 1, .int s0] h := Rf_go ((stp_of c116_12).trans rfl)
theorem c116_13 : cd 116 13 = some (13, .invokestatic 39, 3, [(0, 129)]) := by decide +kernel
theorem xc116_13 {d : Nat} {a0 a1 a2 : Value} {s0 : Int32} {s1 : Int32} {h : AHp} {h1 : AHp} {v : Int32} (hq : Rf d 129 0 [.int s1, .int s0] [] h = some (some (.int v), h1)) : Rf (d + 1) 116 13 [a0, a1, a2] [.int s0, .int s1] h = Rf (d + 1) 116 16 [a0, a1, a2] [.int v] h1 := clS (as := [.int s1, .int s0]) c116_13 rfl rfl (by simp [isV]) hq
theorem c116_16 : cd 116 16 = some (16, .ifCond .ne 5, 3, [(21, 0)]) := by decide +kernel
theorem x116_16 {d : Nat} {a0 a1 a2 : Value} {s0 : Int32} {h : AHp} : Rf d 116 16 [a0, a1, a2] [.int s0] h = if s0 = 0 then Rf d 116 19 [a0, a1, a2] [] h else Rf d 116 21 [a0, a1, a2] [] h := Rf_brn ((stp_of c116_16).trans rfl)
theorem c116_21 : cd 116 21 = some (21, .aload_n 0, 1, []) := by decide +kernel
theorem x116_21 {d : Nat} {a1 a2 : Value} {x : Nat} {h : AHp} : Rf d 116 21 [.ref x, a1, a2] [] h = Rf d 116 22 [.ref x, a1, a2] [.ref x] h := Rf_go ((stp_of c116_21).trans rfl)
theorem c116_22 : cd 116 22 = some (22, .getfield 19, 3, [(11, 1)]) := by decide +kernel
theorem x116_22 {d : Nat} {a0 a1 a2 : Value} {s0 : Nat} {h : AHp} : Rf d 116 22 [a0, a1, a2] [.ref s0] h = if cls (h.1 s0) = 11 ∧ oKr (h.1 s0) 1 = true then Rf d 116 25 [a0, a1, a2] [.ref (oR (h.1 s0) 1)] h else Rx d 116 22 [a0, a1, a2] [.ref s0] h := getR c116_22
theorem c116_25 : cd 116 25 = some (25, .iload_n 1, 1, []) := by decide +kernel
theorem x116_25 {d : Nat} {a0 a2 : Value} {s0 : Nat} {x : Int32} {h : AHp} : Rf d 116 25 [a0, .int x, a2] [.ref s0] h = Rf d 116 26 [a0, .int x, a2] [.int x, .ref s0] h := Rf_go ((stp_of c116_25).trans rfl)
theorem c116_26 : cd 116 26 = some (26, .iload_n 2, 1, []) := by decide +kernel
theorem x116_26 {d : Nat} {a0 a1 : Value} {s0 : Int32} {s1 : Nat} {x : Int32} {h : AHp} : Rf d 116 26 [a0, a1, .int x] [.int s0, .ref s1] h = Rf d 116 27 [a0, a1, .int x] [.int x, .int s0, .ref s1] h := Rf_go ((stp_of c116_26).trans rfl)
theorem c116_27 : cd 116 27 = some (27, .invokevirtual 198, 3, [(7, 81)]) := by decide +kernel
theorem xc116_27 {d : Nat} {a0 a1 a2 : Value} {s0 : Int32} {s1 : Int32} {s2 : Nat} {h : AHp} {h1 : AHp} {v : Int32} (hr : cls (h.1 s2) = 7) (hq : Rf d 81 0 [.ref s2, .int s1, .int s0, noV, noV, noV] [] h = some (some (.int v), h1)) : Rf (d + 1) 116 27 [a0, a1, a2] [.int s0, .int s1, .ref s2] h = Rf (d + 1) 116 30 [a0, a1, a2] [.int v] h1 := clV (c := 81) (as := [.int s1, .int s0]) c116_27 rfl (by simp [isV]) (by rw [hr]; rfl) hq
theorem c116_30 : cd 116 30 = some (30, .ireturn, 1, []) := by decide +kernel
theorem x116_30 {d : Nat} {a0 a1 a2 : Value} {s0 : Int32} {h : AHp} : Rf d 116 30 [a0, a1, a2] [.int s0] h = some (some (.int s0), h) := Rf_end (by rw [stp_of c116_30]; simp only [stpI]; rw [if_pos (show retI (mH 116).2.2.1 s0 = true from retI_int)])
-- 117: X11_can
theorem c117_0 : cd 117 0 = some (0, .iload_n 1, 1, []) := by decide +kernel
theorem x117_0 {d : Nat} {a0 : Value} {x : Int32} {h : AHp} : Rf d 117 0 [a0, .int x] [] h = Rf d 117 1 [a0, .int x] [.int x] h := Rf_go ((stp_of c117_0).trans rfl)
theorem c117_1 : cd 117 1 = some (1, .iconst 1, 1, []) := by decide +kernel
theorem x117_1 {d : Nat} {a0 a1 : Value} {s0 : Int32} {h : AHp} : Rf d 117 1 [a0, a1] [.int s0] h = Rf d 117 2 [a0, a1] [.int 1, .int s0] h := Rf_go ((stp_of c117_1).trans rfl)
theorem c117_2 : cd 117 2 = some (2, .invokestatic 39, 3, [(0, 129)]) := by decide +kernel
theorem xc117_2 {d : Nat} {a0 a1 : Value} {s0 : Int32} {s1 : Int32} {h : AHp} {h1 : AHp} {v : Int32} (hq : Rf d 129 0 [.int s1, .int s0] [] h = some (some (.int v), h1)) : Rf (d + 1) 117 2 [a0, a1] [.int s0, .int s1] h = Rf (d + 1) 117 5 [a0, a1] [.int v] h1 := clS (as := [.int s1, .int s0]) c117_2 rfl rfl (by simp [isV]) hq
theorem c117_5 : cd 117 5 = some (5, .ifCond .eq 21, 3, [(26, 0)]) := by decide +kernel
theorem x117_5 {d : Nat} {a0 a1 : Value} {s0 : Int32} {h : AHp} : Rf d 117 5 [a0, a1] [.int s0] h = if s0 = 0 then Rf d 117 26 [a0, a1] [] h else Rf d 117 8 [a0, a1] [] h := Rf_brd ((stp_of c117_5).trans rfl)
theorem c117_26 : cd 117 26 = some (26, .iconst (-1), 1, []) := by decide +kernel
theorem x117_26 {d : Nat} {a0 a1 : Value} {h : AHp} : Rf d 117 26 [a0, a1] [] h = Rf d 117 27 [a0, a1] [.int (-1)] h := Rf_go ((stp_of c117_26).trans rfl)
theorem c117_27 : cd 117 27 = some (27, .ireturn, 1, []) := by decide +kernel
theorem x117_27 {d : Nat} {a0 a1 : Value} {s0 : Int32} {h : AHp} : Rf d 117 27 [a0, a1] [.int s0] h = some (some (.int s0), h) := Rf_end (by rw [stp_of c117_27]; simp only [stpI]; rw [if_pos (show retI (mH 117).2.2.1 s0 = true from retI_int)])
theorem c117_8 : cd 117 8 = some (8, .aload_n 0, 1, []) := by decide +kernel
theorem x117_8 {d : Nat} {a1 : Value} {x : Nat} {h : AHp} : Rf d 117 8 [.ref x, a1] [] h = Rf d 117 9 [.ref x, a1] [.ref x] h := Rf_go ((stp_of c117_8).trans rfl)
theorem c117_9 : cd 117 9 = some (9, .getfield 19, 3, [(11, 1)]) := by decide +kernel
theorem x117_9 {d : Nat} {a0 a1 : Value} {s0 : Nat} {h : AHp} : Rf d 117 9 [a0, a1] [.ref s0] h = if cls (h.1 s0) = 11 ∧ oKr (h.1 s0) 1 = true then Rf d 117 12 [a0, a1] [.ref (oR (h.1 s0) 1)] h else Rx d 117 9 [a0, a1] [.ref s0] h := getR c117_9
theorem c117_12 : cd 117 12 = some (12, .aload_n 0, 1, []) := by decide +kernel
theorem x117_12 {d : Nat} {a1 : Value} {s0 : Nat} {x : Nat} {h : AHp} : Rf d 117 12 [.ref x, a1] [.ref s0] h = Rf d 117 13 [.ref x, a1] [.ref x, .ref s0] h := Rf_go ((stp_of c117_12).trans rfl)
theorem c117_13 : cd 117 13 = some (13, .getfield 10, 3, [(11, 0)]) := by decide +kernel
theorem x117_13 {d : Nat} {a0 a1 : Value} {s0 : Nat} {s1 : Nat} {h : AHp} : Rf d 117 13 [a0, a1] [.ref s0, .ref s1] h = if cls (h.1 s0) = 11 ∧ oKr (h.1 s0) 0 = true then Rf d 117 16 [a0, a1] [.ref (oR (h.1 s0) 0), .ref s1] h else Rx d 117 13 [a0, a1] [.ref s0, .ref s1] h := getR c117_13
theorem c117_16 : cd 117 16 = some (16, .getfield 97, 3, [(6, 0)]) := by decide +kernel
theorem x117_16 {d : Nat} {a0 a1 : Value} {s0 : Nat} {s1 : Nat} {h : AHp} : Rf d 117 16 [a0, a1] [.ref s0, .ref s1] h = if cls (h.1 s0) = 6 ∧ oKi (h.1 s0) 0 = true then Rf d 117 19 [a0, a1] [.int (oN (h.1 s0) 0), .ref s1] h else Rx d 117 16 [a0, a1] [.ref s0, .ref s1] h := getI c117_16
theorem c117_19 : cd 117 19 = some (19, .iload_n 1, 1, []) := by decide +kernel
theorem x117_19 {d : Nat} {a0 : Value} {s0 : Int32} {s1 : Nat} {x : Int32} {h : AHp} : Rf d 117 19 [a0, .int x] [.int s0, .ref s1] h = Rf d 117 20 [a0, .int x] [.int x, .int s0, .ref s1] h := Rf_go ((stp_of c117_19).trans rfl)
theorem c117_20 : cd 117 20 = some (20, .invokevirtual 201, 3, [(7, 82)]) := by decide +kernel
theorem xc117_20 {d : Nat} {a0 a1 : Value} {s0 : Int32} {s1 : Int32} {s2 : Nat} {h : AHp} {h1 : AHp} {v : Int32} (hr : cls (h.1 s2) = 7) (hq : Rf d 82 0 [.ref s2, .int s1, .int s0, noV, noV, noV] [] h = some (some (.int v), h1)) : Rf (d + 1) 117 20 [a0, a1] [.int s0, .int s1, .ref s2] h = Rf (d + 1) 117 23 [a0, a1] [.int v] h1 := clV (c := 82) (as := [.int s1, .int s0]) c117_20 rfl (by simp [isV]) (by rw [hr]; rfl) hq
theorem c117_23 : cd 117 23 = some (23, .goto 4, 3, [(27, 0)]) := by decide +kernel
theorem x117_23 {d : Nat} {a0 a1 : Value} {s0 : Int32} {h : AHp} : Rf d 117 23 [a0, a1] [.int s0] h = Rf d 117 27 [a0, a1] [.int s0] h := Rf_go ((stp_of c117_23).trans rfl)
-- 118: X11_list
theorem c118_0 : cd 118 0 = some (0, .iload_n 1, 1, []) := by decide +kernel
theorem x118_0 {d : Nat} {a0 : Value} {x : Int32} {h : AHp} : Rf d 118 0 [a0, .int x] [] h = Rf d 118 1 [a0, .int x] [.int x] h := Rf_go ((stp_of c118_0).trans rfl)
theorem c118_1 : cd 118 1 = some (1, .iconst (-1), 1, []) := by decide +kernel
theorem x118_1 {d : Nat} {a0 a1 : Value} {s0 : Int32} {h : AHp} : Rf d 118 1 [a0, a1] [.int s0] h = Rf d 118 2 [a0, a1] [.int (-1), .int s0] h := Rf_go ((stp_of c118_1).trans rfl)
theorem c118_2 : cd 118 2 = some (2, .if_icmp .ne 13, 3, [(15, 0)]) := by decide +kernel
theorem x118_2 {d : Nat} {a0 a1 : Value} {s0 : Int32} {s1 : Int32} {h : AHp} : Rf d 118 2 [a0, a1] [.int s0, .int s1] h = if s1 = s0 then Rf d 118 5 [a0, a1] [] h else Rf d 118 15 [a0, a1] [] h := Rf_brn ((stp_of c118_2).trans rfl)
theorem c118_15 : cd 118 15 = some (15, .iload_n 1, 1, []) := by decide +kernel
theorem x118_15 {d : Nat} {a0 : Value} {x : Int32} {h : AHp} : Rf d 118 15 [a0, .int x] [] h = Rf d 118 16 [a0, .int x] [.int x] h := Rf_go ((stp_of c118_15).trans rfl)
theorem c118_16 : cd 118 16 = some (16, .sipush 999, 3, []) := by decide +kernel
theorem x118_16 {d : Nat} {a0 a1 : Value} {s0 : Int32} {h : AHp} : Rf d 118 16 [a0, a1] [.int s0] h = Rf d 118 19 [a0, a1] [.int 999, .int s0] h := Rf_go ((stp_of c118_16).trans rfl)
theorem c118_19 : cd 118 19 = some (19, .invokestatic 39, 3, [(0, 129)]) := by decide +kernel
theorem xc118_19 {d : Nat} {a0 a1 : Value} {s0 : Int32} {s1 : Int32} {h : AHp} {h1 : AHp} {v : Int32} (hq : Rf d 129 0 [.int s1, .int s0] [] h = some (some (.int v), h1)) : Rf (d + 1) 118 19 [a0, a1] [.int s0, .int s1] h = Rf (d + 1) 118 22 [a0, a1] [.int v] h1 := clS (as := [.int s1, .int s0]) c118_19 rfl rfl (by simp [isV]) hq
theorem c118_22 : cd 118 22 = some (22, .ifCond .ne 6, 3, [(28, 0)]) := by decide +kernel
theorem x118_22 {d : Nat} {a0 a1 : Value} {s0 : Int32} {h : AHp} : Rf d 118 22 [a0, a1] [.int s0] h = if s0 = 0 then Rf d 118 25 [a0, a1] [] h else Rf d 118 28 [a0, a1] [] h := Rf_brn ((stp_of c118_22).trans rfl)
theorem c118_28 : cd 118 28 = some (28, .aload_n 0, 1, []) := by decide +kernel
theorem x118_28 {d : Nat} {a1 : Value} {x : Nat} {h : AHp} : Rf d 118 28 [.ref x, a1] [] h = Rf d 118 29 [.ref x, a1] [.ref x] h := Rf_go ((stp_of c118_28).trans rfl)
theorem c118_29 : cd 118 29 = some (29, .getfield 19, 3, [(11, 1)]) := by decide +kernel
theorem x118_29 {d : Nat} {a0 a1 : Value} {s0 : Nat} {h : AHp} : Rf d 118 29 [a0, a1] [.ref s0] h = if cls (h.1 s0) = 11 ∧ oKr (h.1 s0) 1 = true then Rf d 118 32 [a0, a1] [.ref (oR (h.1 s0) 1)] h else Rx d 118 29 [a0, a1] [.ref s0] h := getR c118_29
theorem c118_32 : cd 118 32 = some (32, .getfield 204, 3, [(7, 8)]) := by decide +kernel
theorem x118_32 {d : Nat} {a0 a1 : Value} {s0 : Nat} {h : AHp} : Rf d 118 32 [a0, a1] [.ref s0] h = if cls (h.1 s0) = 7 ∧ oKi (h.1 s0) 8 = true then Rf d 118 35 [a0, a1] [.int (oN (h.1 s0) 8)] h else Rx d 118 32 [a0, a1] [.ref s0] h := getI c118_32
theorem c118_35 : cd 118 35 = some (35, .bipush 10, 2, []) := by decide +kernel
theorem x118_35 {d : Nat} {a0 a1 : Value} {s0 : Int32} {h : AHp} : Rf d 118 35 [a0, a1] [.int s0] h = Rf d 118 37 [a0, a1] [.int 10, .int s0] h := Rf_go ((stp_of c118_35).trans rfl)
theorem c118_37 : cd 118 37 = some (37, .if_icmp .lt 8, 3, [(45, 0)]) := by decide +kernel
theorem x118_37 {d : Nat} {a0 a1 : Value} {s0 : Int32} {s1 : Int32} {h : AHp} : Rf d 118 37 [a0, a1] [.int s0, .int s1] h = if s1 < s0 then Rf d 118 45 [a0, a1] [] h else Rf d 118 40 [a0, a1] [] h := Rf_brd ((stp_of c118_37).trans rfl)
theorem c118_45 : cd 118 45 = some (45, .aload_n 0, 1, []) := by decide +kernel
theorem x118_45 {d : Nat} {a1 : Value} {x : Nat} {h : AHp} : Rf d 118 45 [.ref x, a1] [] h = Rf d 118 46 [.ref x, a1] [.ref x] h := Rf_go ((stp_of c118_45).trans rfl)
theorem c118_46 : cd 118 46 = some (46, .getfield 19, 3, [(11, 1)]) := by decide +kernel
theorem x118_46 {d : Nat} {a0 a1 : Value} {s0 : Nat} {h : AHp} : Rf d 118 46 [a0, a1] [.ref s0] h = if cls (h.1 s0) = 11 ∧ oKr (h.1 s0) 1 = true then Rf d 118 49 [a0, a1] [.ref (oR (h.1 s0) 1)] h else Rx d 118 46 [a0, a1] [.ref s0] h := getR c118_46
theorem c118_49 : cd 118 49 = some (49, .iload_n 1, 1, []) := by decide +kernel
theorem x118_49 {d : Nat} {a0 : Value} {s0 : Nat} {x : Int32} {h : AHp} : Rf d 118 49 [a0, .int x] [.ref s0] h = Rf d 118 50 [a0, .int x] [.int x, .ref s0] h := Rf_go ((stp_of c118_49).trans rfl)
theorem c118_50 : cd 118 50 = some (50, .invokevirtual 207, 3, [(7, 83)]) := by decide +kernel
theorem xc118_50 {d : Nat} {a0 a1 : Value} {s0 : Int32} {s1 : Nat} {h : AHp} {h1 : AHp} {v : Int32} (hr : cls (h.1 s1) = 7) (hq : Rf d 83 0 [.ref s1, .int s0] [] h = some (some (.int v), h1)) : Rf (d + 1) 118 50 [a0, a1] [.int s0, .ref s1] h = Rf (d + 1) 118 53 [a0, a1] [.int v] h1 := clV (c := 83) (as := [.int s0]) c118_50 rfl (by simp [isV]) (by rw [hr]; rfl) hq
theorem c118_53 : cd 118 53 = some (53, .ireturn, 1, []) := by decide +kernel
theorem x118_53 {d : Nat} {a0 a1 : Value} {s0 : Int32} {h : AHp} : Rf d 118 53 [a0, a1] [.int s0] h = some (some (.int s0), h) := Rf_end (by rw [stp_of c118_53]; simp only [stpI]; rw [if_pos (show retI (mH 118).2.2.1 s0 = true from retI_int)])
theorem c118_40 : cd 118 40 = some (40, .bipush (-4), 2, []) := by decide +kernel
theorem x118_40 {d : Nat} {a0 a1 : Value} {h : AHp} : Rf d 118 40 [a0, a1] [] h = Rf d 118 42 [a0, a1] [.int (-4)] h := Rf_go ((stp_of c118_40).trans rfl)
theorem c118_42 : cd 118 42 = some (42, .goto 11, 3, [(53, 0)]) := by decide +kernel
theorem x118_42 {d : Nat} {a0 a1 : Value} {s0 : Int32} {h : AHp} : Rf d 118 42 [a0, a1] [.int s0] h = Rf d 118 53 [a0, a1] [.int s0] h := Rf_go ((stp_of c118_42).trans rfl)
theorem c118_25 : cd 118 25 = some (25, .bipush (-2), 2, []) := by decide +kernel
theorem x118_25 {d : Nat} {a0 a1 : Value} {h : AHp} : Rf d 118 25 [a0, a1] [] h = Rf d 118 27 [a0, a1] [.int (-2)] h := Rf_go ((stp_of c118_25).trans rfl)
theorem c118_27 : cd 118 27 = some (27, .ireturn, 1, []) := by decide +kernel
theorem x118_27 {d : Nat} {a0 a1 : Value} {s0 : Int32} {h : AHp} : Rf d 118 27 [a0, a1] [.int s0] h = some (some (.int s0), h) := Rf_end (by rw [stp_of c118_27]; simp only [stpI]; rw [if_pos (show retI (mH 118).2.2.1 s0 = true from retI_int)])
theorem c118_5 : cd 118 5 = some (5, .aload_n 0, 1, []) := by decide +kernel
theorem x118_5 {d : Nat} {a1 : Value} {x : Nat} {h : AHp} : Rf d 118 5 [.ref x, a1] [] h = Rf d 118 6 [.ref x, a1] [.ref x] h := Rf_go ((stp_of c118_5).trans rfl)
theorem c118_6 : cd 118 6 = some (6, .getfield 19, 3, [(11, 1)]) := by decide +kernel
theorem x118_6 {d : Nat} {a0 a1 : Value} {s0 : Nat} {h : AHp} : Rf d 118 6 [a0, a1] [.ref s0] h = if cls (h.1 s0) = 11 ∧ oKr (h.1 s0) 1 = true then Rf d 118 9 [a0, a1] [.ref (oR (h.1 s0) 1)] h else Rx d 118 6 [a0, a1] [.ref s0] h := getR c118_6
theorem c118_9 : cd 118 9 = some (9, .iconst 0, 1, []) := by decide +kernel
theorem x118_9 {d : Nat} {a0 a1 : Value} {s0 : Nat} {h : AHp} : Rf d 118 9 [a0, a1] [.ref s0] h = Rf d 118 10 [a0, a1] [.int 0, .ref s0] h := Rf_go ((stp_of c118_9).trans rfl)
theorem c118_10 : cd 118 10 = some (10, .putfield 204, 3, [(7, 8)]) := by decide +kernel
theorem x118_10 {d : Nat} {a0 a1 : Value} {s0 : Int32} {s1 : Nat} {h : AHp} : Rf d 118 10 [a0, a1] [.int s0, .ref s1] h = if cls (h.1 s1) = 7 ∧ oL (h.1 s1) = 9 then Rf d 118 13 [a0, a1] [] (hset h s1 (oSet (h.1 s1) 8 (.int s0))) else Rx d 118 10 [a0, a1] [.int s0, .ref s1] h := putV c118_10 rfl (fMay_i (by decide +kernel))
theorem c118_13 : cd 118 13 = some (13, .iconst 0, 1, []) := by decide +kernel
theorem x118_13 {d : Nat} {a0 a1 : Value} {h : AHp} : Rf d 118 13 [a0, a1] [] h = Rf d 118 14 [a0, a1] [.int 0] h := Rf_go ((stp_of c118_13).trans rfl)
theorem c118_14 : cd 118 14 = some (14, .ireturn, 1, []) := by decide +kernel
theorem x118_14 {d : Nat} {a0 a1 : Value} {s0 : Int32} {h : AHp} : Rf d 118 14 [a0, a1] [.int s0] h = some (some (.int s0), h) := Rf_end (by rw [stp_of c118_14]; simp only [stpI]; rw [if_pos (show retI (mH 118).2.2.1 s0 = true from retI_int)])
-- 119: X11_looked
theorem c119_0 : cd 119 0 = some (0, .iload_n 1, 1, []) := by decide +kernel
theorem x119_0 {d : Nat} {a0 a2 : Value} {x : Int32} {h : AHp} : Rf d 119 0 [a0, .int x, a2] [] h = Rf d 119 1 [a0, .int x, a2] [.int x] h := Rf_go ((stp_of c119_0).trans rfl)
theorem c119_1 : cd 119 1 = some (1, .iconst 2, 1, []) := by decide +kernel
theorem x119_1 {d : Nat} {a0 a1 a2 : Value} {s0 : Int32} {h : AHp} : Rf d 119 1 [a0, a1, a2] [.int s0] h = Rf d 119 2 [a0, a1, a2] [.int 2, .int s0] h := Rf_go ((stp_of c119_1).trans rfl)
theorem c119_2 : cd 119 2 = some (2, .invokestatic 39, 3, [(0, 129)]) := by decide +kernel
theorem xc119_2 {d : Nat} {a0 a1 a2 : Value} {s0 : Int32} {s1 : Int32} {h : AHp} {h1 : AHp} {v : Int32} (hq : Rf d 129 0 [.int s1, .int s0] [] h = some (some (.int v), h1)) : Rf (d + 1) 119 2 [a0, a1, a2] [.int s0, .int s1] h = Rf (d + 1) 119 5 [a0, a1, a2] [.int v] h1 := clS (as := [.int s1, .int s0]) c119_2 rfl rfl (by simp [isV]) hq
theorem c119_5 : cd 119 5 = some (5, .ifCond .ne 5, 3, [(10, 0)]) := by decide +kernel
theorem x119_5 {d : Nat} {a0 a1 a2 : Value} {s0 : Int32} {h : AHp} : Rf d 119 5 [a0, a1, a2] [.int s0] h = if s0 = 0 then Rf d 119 8 [a0, a1, a2] [] h else Rf d 119 10 [a0, a1, a2] [] h := Rf_brn ((stp_of c119_5).trans rfl)
theorem c119_10 : cd 119 10 = some (10, .aload_n 0, 1, []) := by decide +kernel
theorem x119_10 {d : Nat} {a1 a2 : Value} {x : Nat} {h : AHp} : Rf d 119 10 [.ref x, a1, a2] [] h = Rf d 119 11 [.ref x, a1, a2] [.ref x] h := Rf_go ((stp_of c119_10).trans rfl)
theorem c119_11 : cd 119 11 = some (11, .getfield 19, 3, [(11, 1)]) := by decide +kernel
theorem x119_11 {d : Nat} {a0 a1 a2 : Value} {s0 : Nat} {h : AHp} : Rf d 119 11 [a0, a1, a2] [.ref s0] h = if cls (h.1 s0) = 11 ∧ oKr (h.1 s0) 1 = true then Rf d 119 14 [a0, a1, a2] [.ref (oR (h.1 s0) 1)] h else Rx d 119 11 [a0, a1, a2] [.ref s0] h := getR c119_11
theorem c119_14 : cd 119 14 = some (14, .getfield 204, 3, [(7, 8)]) := by decide +kernel
theorem x119_14 {d : Nat} {a0 a1 a2 : Value} {s0 : Nat} {h : AHp} : Rf d 119 14 [a0, a1, a2] [.ref s0] h = if cls (h.1 s0) = 7 ∧ oKi (h.1 s0) 8 = true then Rf d 119 17 [a0, a1, a2] [.int (oN (h.1 s0) 8)] h else Rx d 119 14 [a0, a1, a2] [.ref s0] h := getI c119_14
theorem c119_17 : cd 119 17 = some (17, .aload_n 0, 1, []) := by decide +kernel
theorem x119_17 {d : Nat} {a1 a2 : Value} {s0 : Int32} {x : Nat} {h : AHp} : Rf d 119 17 [.ref x, a1, a2] [.int s0] h = Rf d 119 18 [.ref x, a1, a2] [.ref x, .int s0] h := Rf_go ((stp_of c119_17).trans rfl)
theorem c119_18 : cd 119 18 = some (18, .getfield 10, 3, [(11, 0)]) := by decide +kernel
theorem x119_18 {d : Nat} {a0 a1 a2 : Value} {s0 : Nat} {s1 : Int32} {h : AHp} : Rf d 119 18 [a0, a1, a2] [.ref s0, .int s1] h = if cls (h.1 s0) = 11 ∧ oKr (h.1 s0) 0 = true then Rf d 119 21 [a0, a1, a2] [.ref (oR (h.1 s0) 0), .int s1] h else Rx d 119 18 [a0, a1, a2] [.ref s0, .int s1] h := getR c119_18
theorem c119_21 : cd 119 21 = some (21, .getfield 97, 3, [(6, 0)]) := by decide +kernel
theorem x119_21 {d : Nat} {a0 a1 a2 : Value} {s0 : Nat} {s1 : Int32} {h : AHp} : Rf d 119 21 [a0, a1, a2] [.ref s0, .int s1] h = if cls (h.1 s0) = 6 ∧ oKi (h.1 s0) 0 = true then Rf d 119 24 [a0, a1, a2] [.int (oN (h.1 s0) 0), .int s1] h else Rx d 119 21 [a0, a1, a2] [.ref s0, .int s1] h := getI c119_21
theorem c119_24 : cd 119 24 = some (24, .invokestatic 210, 3, [(0, 202)]) := by decide +kernel
theorem xc119_24 {d : Nat} {a0 a1 a2 : Value} {s0 : Int32} {s1 : Int32} {h : AHp} {h1 : AHp} {v : Int32} (hq : Rf d 202 0 [.int s1, .int s0] [] h = some (some (.int v), h1)) : Rf (d + 1) 119 24 [a0, a1, a2] [.int s0, .int s1] h = Rf (d + 1) 119 27 [a0, a1, a2] [.int v] h1 := clS (as := [.int s1, .int s0]) c119_24 rfl rfl (by simp [isV]) hq
theorem c119_27 : cd 119 27 = some (27, .istore_n 2, 1, []) := by decide +kernel
theorem x119_27 {d : Nat} {a0 a1 a2 : Value} {s0 : Int32} {h : AHp} : Rf d 119 27 [a0, a1, a2] [.int s0] h = Rf d 119 28 [a0, a1, .int s0] [] h := Rf_go ((stp_of c119_27).trans rfl)
theorem c119_28 : cd 119 28 = some (28, .iload_n 1, 1, []) := by decide +kernel
theorem x119_28 {d : Nat} {a0 a2 : Value} {x : Int32} {h : AHp} : Rf d 119 28 [a0, .int x, a2] [] h = Rf d 119 29 [a0, .int x, a2] [.int x] h := Rf_go ((stp_of c119_28).trans rfl)
theorem c119_29 : cd 119 29 = some (29, .ifCond .ne 11, 3, [(40, 0)]) := by decide +kernel
theorem x119_29 {d : Nat} {a0 a1 a2 : Value} {s0 : Int32} {h : AHp} : Rf d 119 29 [a0, a1, a2] [.int s0] h = if s0 = 0 then Rf d 119 32 [a0, a1, a2] [] h else Rf d 119 40 [a0, a1, a2] [] h := Rf_brn ((stp_of c119_29).trans rfl)
theorem c119_40 : cd 119 40 = some (40, .aload_n 0, 1, []) := by decide +kernel
theorem x119_40 {d : Nat} {a1 a2 : Value} {x : Nat} {h : AHp} : Rf d 119 40 [.ref x, a1, a2] [] h = Rf d 119 41 [.ref x, a1, a2] [.ref x] h := Rf_go ((stp_of c119_40).trans rfl)
theorem c119_41 : cd 119 41 = some (41, .iload_n 2, 1, []) := by decide +kernel
theorem x119_41 {d : Nat} {a0 a1 : Value} {s0 : Nat} {x : Int32} {h : AHp} : Rf d 119 41 [a0, a1, .int x] [.ref s0] h = Rf d 119 42 [a0, a1, .int x] [.int x, .ref s0] h := Rf_go ((stp_of c119_41).trans rfl)
theorem c119_42 : cd 119 42 = some (42, .iload_n 1, 1, []) := by decide +kernel
theorem x119_42 {d : Nat} {a0 a2 : Value} {s0 : Int32} {s1 : Nat} {x : Int32} {h : AHp} : Rf d 119 42 [a0, .int x, a2] [.int s0, .ref s1] h = Rf d 119 43 [a0, .int x, a2] [.int x, .int s0, .ref s1] h := Rf_go ((stp_of c119_42).trans rfl)
theorem c119_43 : cd 119 43 = some (43, .iconst 1, 1, []) := by decide +kernel
theorem x119_43 {d : Nat} {a0 a1 a2 : Value} {s0 : Int32} {s1 : Int32} {s2 : Nat} {h : AHp} : Rf d 119 43 [a0, a1, a2] [.int s0, .int s1, .ref s2] h = Rf d 119 44 [a0, a1, a2] [.int 1, .int s0, .int s1, .ref s2] h := Rf_go ((stp_of c119_43).trans rfl)
theorem c119_44 : cd 119 44 = some (44, .if_icmp .ne 7, 3, [(51, 0)]) := by decide +kernel
theorem x119_44 {d : Nat} {a0 a1 a2 : Value} {s0 : Int32} {s1 : Int32} {s2 : Int32} {s3 : Nat} {h : AHp} : Rf d 119 44 [a0, a1, a2] [.int s0, .int s1, .int s2, .ref s3] h = if s1 = s0 then Rf d 119 47 [a0, a1, a2] [.int s2, .ref s3] h else Rf d 119 51 [a0, a1, a2] [.int s2, .ref s3] h := Rf_brn ((stp_of c119_44).trans rfl)
theorem c119_51 : cd 119 51 = some (51, .iconst 0, 1, []) := by decide +kernel
theorem x119_51 {d : Nat} {a0 a1 a2 : Value} {s0 : Int32} {s1 : Nat} {h : AHp} : Rf d 119 51 [a0, a1, a2] [.int s0, .ref s1] h = Rf d 119 52 [a0, a1, a2] [.int 0, .int s0, .ref s1] h := Rf_go ((stp_of c119_51).trans rfl)
theorem c119_52 : cd 119 52 = some (52, .invokevirtual 216, 3, [(11, 121)]) := by decide +kernel
theorem xc119_52 {d : Nat} {a0 a1 a2 : Value} {s0 : Int32} {s1 : Int32} {s2 : Nat} {h : AHp} {h1 : AHp} {v : Int32} (hr : cls (h.1 s2) = 11) (hq : Rf d 121 0 [.ref s2, .int s1, .int s0, noV, noV] [] h = some (some (.int v), h1)) : Rf (d + 1) 119 52 [a0, a1, a2] [.int s0, .int s1, .ref s2] h = Rf (d + 1) 119 55 [a0, a1, a2] [.int v] h1 := clV (c := 121) (as := [.int s1, .int s0]) c119_52 rfl (by simp [isV]) (by rw [hr]; rfl) hq
theorem c119_55 : cd 119 55 = some (55, .ireturn, 1, []) := by decide +kernel
theorem x119_55 {d : Nat} {a0 a1 a2 : Value} {s0 : Int32} {h : AHp} : Rf d 119 55 [a0, a1, a2] [.int s0] h = some (some (.int s0), h) := Rf_end (by rw [stp_of c119_55]; simp only [stpI]; rw [if_pos (show retI (mH 119).2.2.1 s0 = true from retI_int)])
theorem c119_47 : cd 119 47 = some (47, .iconst 1, 1, []) := by decide +kernel
theorem x119_47 {d : Nat} {a0 a1 a2 : Value} {s0 : Int32} {s1 : Nat} {h : AHp} : Rf d 119 47 [a0, a1, a2] [.int s0, .ref s1] h = Rf d 119 48 [a0, a1, a2] [.int 1, .int s0, .ref s1] h := Rf_go ((stp_of c119_47).trans rfl)
theorem c119_48 : cd 119 48 = some (48, .goto 4, 3, [(52, 0)]) := by decide +kernel
theorem x119_48 {d : Nat} {a0 a1 a2 : Value} {s0 : Int32} {s1 : Int32} {s2 : Nat} {h : AHp} : Rf d 119 48 [a0, a1, a2] [.int s0, .int s1, .ref s2] h = Rf d 119 52 [a0, a1, a2] [.int s0, .int s1, .ref s2] h := Rf_go ((stp_of c119_48).trans rfl)
theorem c119_32 : cd 119 32 = some (32, .aload_n 0, 1, []) := by decide +kernel
theorem x119_32 {d : Nat} {a1 a2 : Value} {x : Nat} {h : AHp} : Rf d 119 32 [.ref x, a1, a2] [] h = Rf d 119 33 [.ref x, a1, a2] [.ref x] h := Rf_go ((stp_of c119_32).trans rfl)
theorem c119_33 : cd 119 33 = some (33, .iload_n 2, 1, []) := by decide +kernel
theorem x119_33 {d : Nat} {a0 a1 : Value} {s0 : Nat} {x : Int32} {h : AHp} : Rf d 119 33 [a0, a1, .int x] [.ref s0] h = Rf d 119 34 [a0, a1, .int x] [.int x, .ref s0] h := Rf_go ((stp_of c119_33).trans rfl)
theorem c119_34 : cd 119 34 = some (34, .invokevirtual 213, 3, [(11, 120)]) := by decide +kernel
theorem xc119_34 {d : Nat} {a0 a1 a2 : Value} {s0 : Int32} {s1 : Nat} {h : AHp} {h1 : AHp} {v : Int32} (hr : cls (h.1 s1) = 11) (hq : Rf d 120 0 [.ref s1, .int s0, noV] [] h = some (some (.int v), h1)) : Rf (d + 1) 119 34 [a0, a1, a2] [.int s0, .ref s1] h = Rf (d + 1) 119 37 [a0, a1, a2] [.int v] h1 := clV (c := 120) (as := [.int s0]) c119_34 rfl (by simp [isV]) (by rw [hr]; rfl) hq
theorem c119_37 : cd 119 37 = some (37, .goto 18, 3, [(55, 0)]) := by decide +kernel
theorem x119_37 {d : Nat} {a0 a1 a2 : Value} {s0 : Int32} {h : AHp} : Rf d 119 37 [a0, a1, a2] [.int s0] h = Rf d 119 55 [a0, a1, a2] [.int s0] h := Rf_go ((stp_of c119_37).trans rfl)
theorem c119_8 : cd 119 8 = some (8, .iconst (-1), 1, []) := by decide +kernel
theorem x119_8 {d : Nat} {a0 a1 a2 : Value} {h : AHp} : Rf d 119 8 [a0, a1, a2] [] h = Rf d 119 9 [a0, a1, a2] [.int (-1)] h := Rf_go ((stp_of c119_8).trans rfl)
theorem c119_9 : cd 119 9 = some (9, .ireturn, 1, []) := by decide +kernel
theorem x119_9 {d : Nat} {a0 a1 a2 : Value} {s0 : Int32} {h : AHp} : Rf d 119 9 [a0, a1, a2] [.int s0] h = some (some (.int s0), h) := Rf_end (by rw [stp_of c119_9]; simp only [stpI]; rw [if_pos (show retI (mH 119).2.2.1 s0 = true from retI_int)])
-- 120: X11_firstUnlike
theorem c120_0 : cd 120 0 = some (0, .iconst 0, 1, []) := by decide +kernel
theorem x120_0 {d : Nat} {a0 a1 a2 : Value} {h : AHp} : Rf d 120 0 [a0, a1, a2] [] h = Rf d 120 1 [a0, a1, a2] [.int 0] h := Rf_go ((stp_of c120_0).trans rfl)
theorem c120_1 : cd 120 1 = some (1, .istore_n 2, 1, []) := by decide +kernel
theorem x120_1 {d : Nat} {a0 a1 a2 : Value} {s0 : Int32} {h : AHp} : Rf d 120 1 [a0, a1, a2] [.int s0] h = Rf d 120 2 [a0, a1, .int s0] [] h := Rf_go ((stp_of c120_1).trans rfl)
theorem c120_2 : cd 120 2 = some (2, .iload_n 2, 1, []) := by decide +kernel
theorem x120_2 {d : Nat} {a0 a1 : Value} {x : Int32} {h : AHp} : Rf d 120 2 [a0, a1, .int x] [] h = Rf d 120 3 [a0, a1, .int x] [.int x] h := Rf_go ((stp_of c120_2).trans rfl)
theorem c120_3 : cd 120 3 = some (3, .iload_n 1, 1, []) := by decide +kernel
theorem x120_3 {d : Nat} {a0 a2 : Value} {s0 : Int32} {x : Int32} {h : AHp} : Rf d 120 3 [a0, .int x, a2] [.int s0] h = Rf d 120 4 [a0, .int x, a2] [.int x, .int s0] h := Rf_go ((stp_of c120_3).trans rfl)
theorem c120_4 : cd 120 4 = some (4, .if_icmp .ge 32, 3, [(36, 0)]) := by decide +kernel
theorem x120_4 {d : Nat} {a0 a1 a2 : Value} {s0 : Int32} {s1 : Int32} {h : AHp} : Rf d 120 4 [a0, a1, a2] [.int s0, .int s1] h = if s1 < s0 then Rf d 120 7 [a0, a1, a2] [] h else Rf d 120 36 [a0, a1, a2] [] h := Rf_brn ((stp_of c120_4).trans rfl)
theorem c120_36 : cd 120 36 = some (36, .bipush (-5), 2, []) := by decide +kernel
theorem x120_36 {d : Nat} {a0 a1 a2 : Value} {h : AHp} : Rf d 120 36 [a0, a1, a2] [] h = Rf d 120 38 [a0, a1, a2] [.int (-5)] h := Rf_go ((stp_of c120_36).trans rfl)
theorem c120_38 : cd 120 38 = some (38, .ireturn, 1, []) := by decide +kernel
theorem x120_38 {d : Nat} {a0 a1 a2 : Value} {s0 : Int32} {h : AHp} : Rf d 120 38 [a0, a1, a2] [.int s0] h = some (some (.int s0), h) := Rf_end (by rw [stp_of c120_38]; simp only [stpI]; rw [if_pos (show retI (mH 120).2.2.1 s0 = true from retI_int)])
theorem c120_7 : cd 120 7 = some (7, .aload_n 0, 1, []) := by decide +kernel
theorem x120_7 {d : Nat} {a1 a2 : Value} {x : Nat} {h : AHp} : Rf d 120 7 [.ref x, a1, a2] [] h = Rf d 120 8 [.ref x, a1, a2] [.ref x] h := Rf_go ((stp_of c120_7).trans rfl)
theorem c120_8 : cd 120 8 = some (8, .getfield 10, 3, [(11, 0)]) := by decide +kernel
theorem x120_8 {d : Nat} {a0 a1 a2 : Value} {s0 : Nat} {h : AHp} : Rf d 120 8 [a0, a1, a2] [.ref s0] h = if cls (h.1 s0) = 11 ∧ oKr (h.1 s0) 0 = true then Rf d 120 11 [a0, a1, a2] [.ref (oR (h.1 s0) 0)] h else Rx d 120 8 [a0, a1, a2] [.ref s0] h := getR c120_8
theorem c120_11 : cd 120 11 = some (11, .getfield 118, 3, [(6, 3)]) := by decide +kernel
theorem x120_11 {d : Nat} {a0 a1 a2 : Value} {s0 : Nat} {h : AHp} : Rf d 120 11 [a0, a1, a2] [.ref s0] h = if cls (h.1 s0) = 6 ∧ oKr (h.1 s0) 3 = true then Rf d 120 14 [a0, a1, a2] [.ref (oR (h.1 s0) 3)] h else Rx d 120 11 [a0, a1, a2] [.ref s0] h := getR c120_11
theorem c120_14 : cd 120 14 = some (14, .iload_n 2, 1, []) := by decide +kernel
theorem x120_14 {d : Nat} {a0 a1 : Value} {s0 : Nat} {x : Int32} {h : AHp} : Rf d 120 14 [a0, a1, .int x] [.ref s0] h = Rf d 120 15 [a0, a1, .int x] [.int x, .ref s0] h := Rf_go ((stp_of c120_14).trans rfl)
theorem c120_15 : cd 120 15 = some (15, .iaload, 1, []) := by decide +kernel
theorem x120_15 {d : Nat} {a0 a1 a2 : Value} {s0 : Int32} {s1 : Nat} {h : AHp} : Rf d 120 15 [a0, a1, a2] [.int s0, .ref s1] h = if (aT (h.1 s1) = 0 ∨ aT (h.1 s1) = 10) ∧ inB s0 (aN (h.1 s1)) = true then Rf d 120 16 [a0, a1, a2] [.int (aF (h.1 s1) s0.toNatClampNeg)] h else Rx d 120 15 [a0, a1, a2] [.int s0, .ref s1] h := ldI c120_15
theorem c120_16 : cd 120 16 = some (16, .aload_n 0, 1, []) := by decide +kernel
theorem x120_16 {d : Nat} {a1 a2 : Value} {s0 : Int32} {x : Nat} {h : AHp} : Rf d 120 16 [.ref x, a1, a2] [.int s0] h = Rf d 120 17 [.ref x, a1, a2] [.ref x, .int s0] h := Rf_go ((stp_of c120_16).trans rfl)
theorem c120_17 : cd 120 17 = some (17, .getfield 19, 3, [(11, 1)]) := by decide +kernel
theorem x120_17 {d : Nat} {a0 a1 a2 : Value} {s0 : Nat} {s1 : Int32} {h : AHp} : Rf d 120 17 [a0, a1, a2] [.ref s0, .int s1] h = if cls (h.1 s0) = 11 ∧ oKr (h.1 s0) 1 = true then Rf d 120 20 [a0, a1, a2] [.ref (oR (h.1 s0) 1), .int s1] h else Rx d 120 17 [a0, a1, a2] [.ref s0, .int s1] h := getR c120_17
theorem c120_20 : cd 120 20 = some (20, .getfield 220, 3, [(7, 7)]) := by decide +kernel
theorem x120_20 {d : Nat} {a0 a1 a2 : Value} {s0 : Nat} {s1 : Int32} {h : AHp} : Rf d 120 20 [a0, a1, a2] [.ref s0, .int s1] h = if cls (h.1 s0) = 7 ∧ oKr (h.1 s0) 7 = true then Rf d 120 23 [a0, a1, a2] [.ref (oR (h.1 s0) 7), .int s1] h else Rx d 120 20 [a0, a1, a2] [.ref s0, .int s1] h := getR c120_20
theorem c120_23 : cd 120 23 = some (23, .iload_n 2, 1, []) := by decide +kernel
theorem x120_23 {d : Nat} {a0 a1 : Value} {s0 : Nat} {s1 : Int32} {x : Int32} {h : AHp} : Rf d 120 23 [a0, a1, .int x] [.ref s0, .int s1] h = Rf d 120 24 [a0, a1, .int x] [.int x, .ref s0, .int s1] h := Rf_go ((stp_of c120_23).trans rfl)
theorem c120_24 : cd 120 24 = some (24, .iaload, 1, []) := by decide +kernel
theorem x120_24 {d : Nat} {a0 a1 a2 : Value} {s0 : Int32} {s1 : Nat} {s2 : Int32} {h : AHp} : Rf d 120 24 [a0, a1, a2] [.int s0, .ref s1, .int s2] h = if (aT (h.1 s1) = 0 ∨ aT (h.1 s1) = 10) ∧ inB s0 (aN (h.1 s1)) = true then Rf d 120 25 [a0, a1, a2] [.int (aF (h.1 s1) s0.toNatClampNeg), .int s2] h else Rx d 120 24 [a0, a1, a2] [.int s0, .ref s1, .int s2] h := ldI c120_24
theorem c120_25 : cd 120 25 = some (25, .if_icmp .eq 5, 3, [(30, 0)]) := by decide +kernel
theorem x120_25 {d : Nat} {a0 a1 a2 : Value} {s0 : Int32} {s1 : Int32} {h : AHp} : Rf d 120 25 [a0, a1, a2] [.int s0, .int s1] h = if s1 = s0 then Rf d 120 30 [a0, a1, a2] [] h else Rf d 120 28 [a0, a1, a2] [] h := Rf_brd ((stp_of c120_25).trans rfl)
theorem c120_30 : cd 120 30 = some (30, .iinc 2 1, 3, []) := by decide +kernel
theorem x120_30 {d : Nat} {a0 a1 : Value} {x : Int32} {h : AHp} : Rf d 120 30 [a0, a1, .int x] [] h = Rf d 120 33 [a0, a1, .int (x + 1)] [] h := Rf_go ((stp_of c120_30).trans rfl)
theorem c120_33 : cd 120 33 = some (33, .goto (-31), 3, [(2, 0)]) := by decide +kernel
theorem x120_33 {d : Nat} {a0 a1 a2 : Value} {h : AHp} : Rf d 120 33 [a0, a1, a2] [] h = Rf d 120 2 [a0, a1, a2] [] h := Rf_go ((stp_of c120_33).trans rfl)
theorem c120_28 : cd 120 28 = some (28, .iload_n 2, 1, []) := by decide +kernel
theorem x120_28 {d : Nat} {a0 a1 : Value} {x : Int32} {h : AHp} : Rf d 120 28 [a0, a1, .int x] [] h = Rf d 120 29 [a0, a1, .int x] [.int x] h := Rf_go ((stp_of c120_28).trans rfl)
theorem c120_29 : cd 120 29 = some (29, .ireturn, 1, []) := by decide +kernel
theorem x120_29 {d : Nat} {a0 a1 a2 : Value} {s0 : Int32} {h : AHp} : Rf d 120 29 [a0, a1, a2] [.int s0] h = some (some (.int s0), h) := Rf_end (by rw [stp_of c120_29]; simp only [stpI]; rw [if_pos (show retI (mH 120).2.2.1 s0 = true from retI_int)])
-- 121: X11_changed
theorem c121_0 : cd 121 0 = some (0, .iconst 0, 1, []) := by decide +kernel
theorem x121_0 {d : Nat} {a0 a1 a2 a3 a4 : Value} {h : AHp} : Rf d 121 0 [a0, a1, a2, a3, a4] [] h = Rf d 121 1 [a0, a1, a2, a3, a4] [.int 0] h := Rf_go ((stp_of c121_0).trans rfl)
theorem c121_1 : cd 121 1 = some (1, .istore_n 3, 1, []) := by decide +kernel
theorem x121_1 {d : Nat} {a0 a1 a2 a3 a4 : Value} {s0 : Int32} {h : AHp} : Rf d 121 1 [a0, a1, a2, a3, a4] [.int s0] h = Rf d 121 2 [a0, a1, a2, .int s0, a4] [] h := Rf_go ((stp_of c121_1).trans rfl)
theorem c121_2 : cd 121 2 = some (2, .iconst 0, 1, []) := by decide +kernel
theorem x121_2 {d : Nat} {a0 a1 a2 a3 a4 : Value} {h : AHp} : Rf d 121 2 [a0, a1, a2, a3, a4] [] h = Rf d 121 3 [a0, a1, a2, a3, a4] [.int 0] h := Rf_go ((stp_of c121_2).trans rfl)
theorem c121_3 : cd 121 3 = some (3, .istore 4, 2, []) := by decide +kernel
theorem x121_3 {d : Nat} {a0 a1 a2 a3 a4 : Value} {s0 : Int32} {h : AHp} : Rf d 121 3 [a0, a1, a2, a3, a4] [.int s0] h = Rf d 121 5 [a0, a1, a2, a3, .int s0] [] h := Rf_go ((stp_of c121_3).trans rfl)
theorem c121_5 : cd 121 5 = some (5, .iload 4, 2, []) := by decide +kernel
theorem x121_5 {d : Nat} {a0 a1 a2 a3 : Value} {x : Int32} {h : AHp} : Rf d 121 5 [a0, a1, a2, a3, .int x] [] h = Rf d 121 7 [a0, a1, a2, a3, .int x] [.int x] h := Rf_go ((stp_of c121_5).trans rfl)
theorem c121_7 : cd 121 7 = some (7, .iload_n 1, 1, []) := by decide +kernel
theorem x121_7 {d : Nat} {a0 a2 a3 a4 : Value} {s0 : Int32} {x : Int32} {h : AHp} : Rf d 121 7 [a0, .int x, a2, a3, a4] [.int s0] h = Rf d 121 8 [a0, .int x, a2, a3, a4] [.int x, .int s0] h := Rf_go ((stp_of c121_7).trans rfl)
theorem c121_8 : cd 121 8 = some (8, .if_icmp .ge 65, 3, [(73, 0)]) := by decide +kernel
theorem x121_8 {d : Nat} {a0 a1 a2 a3 a4 : Value} {s0 : Int32} {s1 : Int32} {h : AHp} : Rf d 121 8 [a0, a1, a2, a3, a4] [.int s0, .int s1] h = if s1 < s0 then Rf d 121 11 [a0, a1, a2, a3, a4] [] h else Rf d 121 73 [a0, a1, a2, a3, a4] [] h := Rf_brn ((stp_of c121_8).trans rfl)
theorem c121_73 : cd 121 73 = some (73, .iload_n 3, 1, []) := by decide +kernel
theorem x121_73 {d : Nat} {a0 a1 a2 a4 : Value} {x : Int32} {h : AHp} : Rf d 121 73 [a0, a1, a2, .int x, a4] [] h = Rf d 121 74 [a0, a1, a2, .int x, a4] [.int x] h := Rf_go ((stp_of c121_73).trans rfl)
theorem c121_74 : cd 121 74 = some (74, .ireturn, 1, []) := by decide +kernel
theorem x121_74 {d : Nat} {a0 a1 a2 a3 a4 : Value} {s0 : Int32} {h : AHp} : Rf d 121 74 [a0, a1, a2, a3, a4] [.int s0] h = some (some (.int s0), h) := Rf_end (by rw [stp_of c121_74]; simp only [stpI]; rw [if_pos (show retI (mH 121).2.2.1 s0 = true from retI_int)])
theorem c121_11 : cd 121 11 = some (11, .iload_n 2, 1, []) := by decide +kernel
theorem x121_11 {d : Nat} {a0 a1 a3 a4 : Value} {x : Int32} {h : AHp} : Rf d 121 11 [a0, a1, .int x, a3, a4] [] h = Rf d 121 12 [a0, a1, .int x, a3, a4] [.int x] h := Rf_go ((stp_of c121_11).trans rfl)
theorem c121_12 : cd 121 12 = some (12, .ifCond .eq 29, 3, [(41, 0)]) := by decide +kernel
theorem x121_12 {d : Nat} {a0 a1 a2 a3 a4 : Value} {s0 : Int32} {h : AHp} : Rf d 121 12 [a0, a1, a2, a3, a4] [.int s0] h = if s0 = 0 then Rf d 121 41 [a0, a1, a2, a3, a4] [] h else Rf d 121 15 [a0, a1, a2, a3, a4] [] h := Rf_brd ((stp_of c121_12).trans rfl)
theorem c121_41 : cd 121 41 = some (41, .aload_n 0, 1, []) := by decide +kernel
theorem x121_41 {d : Nat} {a1 a2 a3 a4 : Value} {x : Nat} {h : AHp} : Rf d 121 41 [.ref x, a1, a2, a3, a4] [] h = Rf d 121 42 [.ref x, a1, a2, a3, a4] [.ref x] h := Rf_go ((stp_of c121_41).trans rfl)
theorem c121_42 : cd 121 42 = some (42, .getfield 10, 3, [(11, 0)]) := by decide +kernel
theorem x121_42 {d : Nat} {a0 a1 a2 a3 a4 : Value} {s0 : Nat} {h : AHp} : Rf d 121 42 [a0, a1, a2, a3, a4] [.ref s0] h = if cls (h.1 s0) = 11 ∧ oKr (h.1 s0) 0 = true then Rf d 121 45 [a0, a1, a2, a3, a4] [.ref (oR (h.1 s0) 0)] h else Rx d 121 42 [a0, a1, a2, a3, a4] [.ref s0] h := getR c121_42
theorem c121_45 : cd 121 45 = some (45, .getfield 118, 3, [(6, 3)]) := by decide +kernel
theorem x121_45 {d : Nat} {a0 a1 a2 a3 a4 : Value} {s0 : Nat} {h : AHp} : Rf d 121 45 [a0, a1, a2, a3, a4] [.ref s0] h = if cls (h.1 s0) = 6 ∧ oKr (h.1 s0) 3 = true then Rf d 121 48 [a0, a1, a2, a3, a4] [.ref (oR (h.1 s0) 3)] h else Rx d 121 45 [a0, a1, a2, a3, a4] [.ref s0] h := getR c121_45
theorem c121_48 : cd 121 48 = some (48, .iload 4, 2, []) := by decide +kernel
theorem x121_48 {d : Nat} {a0 a1 a2 a3 : Value} {s0 : Nat} {x : Int32} {h : AHp} : Rf d 121 48 [a0, a1, a2, a3, .int x] [.ref s0] h = Rf d 121 50 [a0, a1, a2, a3, .int x] [.int x, .ref s0] h := Rf_go ((stp_of c121_48).trans rfl)
theorem c121_50 : cd 121 50 = some (50, .iaload, 1, []) := by decide +kernel
theorem x121_50 {d : Nat} {a0 a1 a2 a3 a4 : Value} {s0 : Int32} {s1 : Nat} {h : AHp} : Rf d 121 50 [a0, a1, a2, a3, a4] [.int s0, .ref s1] h = if (aT (h.1 s1) = 0 ∨ aT (h.1 s1) = 10) ∧ inB s0 (aN (h.1 s1)) = true then Rf d 121 51 [a0, a1, a2, a3, a4] [.int (aF (h.1 s1) s0.toNatClampNeg)] h else Rx d 121 50 [a0, a1, a2, a3, a4] [.int s0, .ref s1] h := ldI c121_50
theorem c121_51 : cd 121 51 = some (51, .aload_n 0, 1, []) := by decide +kernel
theorem x121_51 {d : Nat} {a1 a2 a3 a4 : Value} {s0 : Int32} {x : Nat} {h : AHp} : Rf d 121 51 [.ref x, a1, a2, a3, a4] [.int s0] h = Rf d 121 52 [.ref x, a1, a2, a3, a4] [.ref x, .int s0] h := Rf_go ((stp_of c121_51).trans rfl)
theorem c121_52 : cd 121 52 = some (52, .getfield 19, 3, [(11, 1)]) := by decide +kernel
theorem x121_52 {d : Nat} {a0 a1 a2 a3 a4 : Value} {s0 : Nat} {s1 : Int32} {h : AHp} : Rf d 121 52 [a0, a1, a2, a3, a4] [.ref s0, .int s1] h = if cls (h.1 s0) = 11 ∧ oKr (h.1 s0) 1 = true then Rf d 121 55 [a0, a1, a2, a3, a4] [.ref (oR (h.1 s0) 1), .int s1] h else Rx d 121 52 [a0, a1, a2, a3, a4] [.ref s0, .int s1] h := getR c121_52
theorem c121_55 : cd 121 55 = some (55, .getfield 220, 3, [(7, 7)]) := by decide +kernel
theorem x121_55 {d : Nat} {a0 a1 a2 a3 a4 : Value} {s0 : Nat} {s1 : Int32} {h : AHp} : Rf d 121 55 [a0, a1, a2, a3, a4] [.ref s0, .int s1] h = if cls (h.1 s0) = 7 ∧ oKr (h.1 s0) 7 = true then Rf d 121 58 [a0, a1, a2, a3, a4] [.ref (oR (h.1 s0) 7), .int s1] h else Rx d 121 55 [a0, a1, a2, a3, a4] [.ref s0, .int s1] h := getR c121_55
theorem c121_58 : cd 121 58 = some (58, .iload 4, 2, []) := by decide +kernel
theorem x121_58 {d : Nat} {a0 a1 a2 a3 : Value} {s0 : Nat} {s1 : Int32} {x : Int32} {h : AHp} : Rf d 121 58 [a0, a1, a2, a3, .int x] [.ref s0, .int s1] h = Rf d 121 60 [a0, a1, a2, a3, .int x] [.int x, .ref s0, .int s1] h := Rf_go ((stp_of c121_58).trans rfl)
theorem c121_60 : cd 121 60 = some (60, .iaload, 1, []) := by decide +kernel
theorem x121_60 {d : Nat} {a0 a1 a2 a3 a4 : Value} {s0 : Int32} {s1 : Nat} {s2 : Int32} {h : AHp} : Rf d 121 60 [a0, a1, a2, a3, a4] [.int s0, .ref s1, .int s2] h = if (aT (h.1 s1) = 0 ∨ aT (h.1 s1) = 10) ∧ inB s0 (aN (h.1 s1)) = true then Rf d 121 61 [a0, a1, a2, a3, a4] [.int (aF (h.1 s1) s0.toNatClampNeg), .int s2] h else Rx d 121 60 [a0, a1, a2, a3, a4] [.int s0, .ref s1, .int s2] h := ldI c121_60
theorem c121_61 : cd 121 61 = some (61, .if_icmp .le 6, 3, [(67, 0)]) := by decide +kernel
theorem x121_61 {d : Nat} {a0 a1 a2 a3 a4 : Value} {s0 : Int32} {s1 : Int32} {h : AHp} : Rf d 121 61 [a0, a1, a2, a3, a4] [.int s0, .int s1] h = if s0 < s1 then Rf d 121 64 [a0, a1, a2, a3, a4] [] h else Rf d 121 67 [a0, a1, a2, a3, a4] [] h := Rf_brn ((stp_of c121_61).trans rfl)
theorem c121_67 : cd 121 67 = some (67, .iinc 4 1, 3, []) := by decide +kernel
theorem x121_67 {d : Nat} {a0 a1 a2 a3 : Value} {x : Int32} {h : AHp} : Rf d 121 67 [a0, a1, a2, a3, .int x] [] h = Rf d 121 70 [a0, a1, a2, a3, .int (x + 1)] [] h := Rf_go ((stp_of c121_67).trans rfl)
theorem c121_70 : cd 121 70 = some (70, .goto (-65), 3, [(5, 0)]) := by decide +kernel
theorem x121_70 {d : Nat} {a0 a1 a2 a3 a4 : Value} {h : AHp} : Rf d 121 70 [a0, a1, a2, a3, a4] [] h = Rf d 121 5 [a0, a1, a2, a3, a4] [] h := Rf_go ((stp_of c121_70).trans rfl)
theorem c121_64 : cd 121 64 = some (64, .iinc 3 1, 3, []) := by decide +kernel
theorem x121_64 {d : Nat} {a0 a1 a2 a4 : Value} {x : Int32} {h : AHp} : Rf d 121 64 [a0, a1, a2, .int x, a4] [] h = Rf d 121 67 [a0, a1, a2, .int (x + 1), a4] [] h := Rf_go ((stp_of c121_64).trans rfl)
theorem c121_15 : cd 121 15 = some (15, .aload_n 0, 1, []) := by decide +kernel
theorem x121_15 {d : Nat} {a1 a2 a3 a4 : Value} {x : Nat} {h : AHp} : Rf d 121 15 [.ref x, a1, a2, a3, a4] [] h = Rf d 121 16 [.ref x, a1, a2, a3, a4] [.ref x] h := Rf_go ((stp_of c121_15).trans rfl)
theorem c121_16 : cd 121 16 = some (16, .getfield 10, 3, [(11, 0)]) := by decide +kernel
theorem x121_16 {d : Nat} {a0 a1 a2 a3 a4 : Value} {s0 : Nat} {h : AHp} : Rf d 121 16 [a0, a1, a2, a3, a4] [.ref s0] h = if cls (h.1 s0) = 11 ∧ oKr (h.1 s0) 0 = true then Rf d 121 19 [a0, a1, a2, a3, a4] [.ref (oR (h.1 s0) 0)] h else Rx d 121 16 [a0, a1, a2, a3, a4] [.ref s0] h := getR c121_16
theorem c121_19 : cd 121 19 = some (19, .getfield 118, 3, [(6, 3)]) := by decide +kernel
theorem x121_19 {d : Nat} {a0 a1 a2 a3 a4 : Value} {s0 : Nat} {h : AHp} : Rf d 121 19 [a0, a1, a2, a3, a4] [.ref s0] h = if cls (h.1 s0) = 6 ∧ oKr (h.1 s0) 3 = true then Rf d 121 22 [a0, a1, a2, a3, a4] [.ref (oR (h.1 s0) 3)] h else Rx d 121 19 [a0, a1, a2, a3, a4] [.ref s0] h := getR c121_19
theorem c121_22 : cd 121 22 = some (22, .iload 4, 2, []) := by decide +kernel
theorem x121_22 {d : Nat} {a0 a1 a2 a3 : Value} {s0 : Nat} {x : Int32} {h : AHp} : Rf d 121 22 [a0, a1, a2, a3, .int x] [.ref s0] h = Rf d 121 24 [a0, a1, a2, a3, .int x] [.int x, .ref s0] h := Rf_go ((stp_of c121_22).trans rfl)
theorem c121_24 : cd 121 24 = some (24, .iaload, 1, []) := by decide +kernel
theorem x121_24 {d : Nat} {a0 a1 a2 a3 a4 : Value} {s0 : Int32} {s1 : Nat} {h : AHp} : Rf d 121 24 [a0, a1, a2, a3, a4] [.int s0, .ref s1] h = if (aT (h.1 s1) = 0 ∨ aT (h.1 s1) = 10) ∧ inB s0 (aN (h.1 s1)) = true then Rf d 121 25 [a0, a1, a2, a3, a4] [.int (aF (h.1 s1) s0.toNatClampNeg)] h else Rx d 121 24 [a0, a1, a2, a3, a4] [.int s0, .ref s1] h := ldI c121_24
theorem c121_25 : cd 121 25 = some (25, .aload_n 0, 1, []) := by decide +kernel
theorem x121_25 {d : Nat} {a1 a2 a3 a4 : Value} {s0 : Int32} {x : Nat} {h : AHp} : Rf d 121 25 [.ref x, a1, a2, a3, a4] [.int s0] h = Rf d 121 26 [.ref x, a1, a2, a3, a4] [.ref x, .int s0] h := Rf_go ((stp_of c121_25).trans rfl)
theorem c121_26 : cd 121 26 = some (26, .getfield 19, 3, [(11, 1)]) := by decide +kernel
theorem x121_26 {d : Nat} {a0 a1 a2 a3 a4 : Value} {s0 : Nat} {s1 : Int32} {h : AHp} : Rf d 121 26 [a0, a1, a2, a3, a4] [.ref s0, .int s1] h = if cls (h.1 s0) = 11 ∧ oKr (h.1 s0) 1 = true then Rf d 121 29 [a0, a1, a2, a3, a4] [.ref (oR (h.1 s0) 1), .int s1] h else Rx d 121 26 [a0, a1, a2, a3, a4] [.ref s0, .int s1] h := getR c121_26
theorem c121_29 : cd 121 29 = some (29, .getfield 220, 3, [(7, 7)]) := by decide +kernel
theorem x121_29 {d : Nat} {a0 a1 a2 a3 a4 : Value} {s0 : Nat} {s1 : Int32} {h : AHp} : Rf d 121 29 [a0, a1, a2, a3, a4] [.ref s0, .int s1] h = if cls (h.1 s0) = 7 ∧ oKr (h.1 s0) 7 = true then Rf d 121 32 [a0, a1, a2, a3, a4] [.ref (oR (h.1 s0) 7), .int s1] h else Rx d 121 29 [a0, a1, a2, a3, a4] [.ref s0, .int s1] h := getR c121_29
theorem c121_32 : cd 121 32 = some (32, .iload 4, 2, []) := by decide +kernel
theorem x121_32 {d : Nat} {a0 a1 a2 a3 : Value} {s0 : Nat} {s1 : Int32} {x : Int32} {h : AHp} : Rf d 121 32 [a0, a1, a2, a3, .int x] [.ref s0, .int s1] h = Rf d 121 34 [a0, a1, a2, a3, .int x] [.int x, .ref s0, .int s1] h := Rf_go ((stp_of c121_32).trans rfl)
theorem c121_34 : cd 121 34 = some (34, .iaload, 1, []) := by decide +kernel
theorem x121_34 {d : Nat} {a0 a1 a2 a3 a4 : Value} {s0 : Int32} {s1 : Nat} {s2 : Int32} {h : AHp} : Rf d 121 34 [a0, a1, a2, a3, a4] [.int s0, .ref s1, .int s2] h = if (aT (h.1 s1) = 0 ∨ aT (h.1 s1) = 10) ∧ inB s0 (aN (h.1 s1)) = true then Rf d 121 35 [a0, a1, a2, a3, a4] [.int (aF (h.1 s1) s0.toNatClampNeg), .int s2] h else Rx d 121 34 [a0, a1, a2, a3, a4] [.int s0, .ref s1, .int s2] h := ldI c121_34
theorem c121_35 : cd 121 35 = some (35, .if_icmp .ge 32, 3, [(67, 0)]) := by decide +kernel
theorem x121_35 {d : Nat} {a0 a1 a2 a3 a4 : Value} {s0 : Int32} {s1 : Int32} {h : AHp} : Rf d 121 35 [a0, a1, a2, a3, a4] [.int s0, .int s1] h = if s1 < s0 then Rf d 121 38 [a0, a1, a2, a3, a4] [] h else Rf d 121 67 [a0, a1, a2, a3, a4] [] h := Rf_brn ((stp_of c121_35).trans rfl)
theorem c121_38 : cd 121 38 = some (38, .goto 26, 3, [(64, 0)]) := by decide +kernel
theorem x121_38 {d : Nat} {a0 a1 a2 a3 a4 : Value} {h : AHp} : Rf d 121 38 [a0, a1, a2, a3, a4] [] h = Rf d 121 64 [a0, a1, a2, a3, a4] [] h := Rf_go ((stp_of c121_38).trans rfl)
-- 122: X11_act
theorem c122_0 : cd 122 0 = some (0, .aload_n 0, 1, []) := by decide +kernel
theorem x122_0 {d : Nat} {a1 a2 a3 a4 : Value} {x : Nat} {h : AHp} : Rf d 122 0 [.ref x, a1, a2, a3, a4] [] h = Rf d 122 1 [.ref x, a1, a2, a3, a4] [.ref x] h := Rf_go ((stp_of c122_0).trans rfl)
theorem c122_1 : cd 122 1 = some (1, .getfield 35, 3, [(11, 5)]) := by decide +kernel
theorem x122_1 {d : Nat} {a0 a1 a2 a3 a4 : Value} {s0 : Nat} {h : AHp} : Rf d 122 1 [a0, a1, a2, a3, a4] [.ref s0] h = if cls (h.1 s0) = 11 ∧ oKr (h.1 s0) 5 = true then Rf d 122 4 [a0, a1, a2, a3, a4] [.ref (oR (h.1 s0) 5)] h else Rx d 122 1 [a0, a1, a2, a3, a4] [.ref s0] h := getR c122_1
theorem c122_4 : cd 122 4 = some (4, .iconst 0, 1, []) := by decide +kernel
theorem x122_4 {d : Nat} {a0 a1 a2 a3 a4 : Value} {s0 : Nat} {h : AHp} : Rf d 122 4 [a0, a1, a2, a3, a4] [.ref s0] h = Rf d 122 5 [a0, a1, a2, a3, a4] [.int 0, .ref s0] h := Rf_go ((stp_of c122_4).trans rfl)
theorem c122_5 : cd 122 5 = some (5, .putfield 223, 3, [(10, 1)]) := by decide +kernel
theorem x122_5 {d : Nat} {a0 a1 a2 a3 a4 : Value} {s0 : Int32} {s1 : Nat} {h : AHp} : Rf d 122 5 [a0, a1, a2, a3, a4] [.int s0, .ref s1] h = if cls (h.1 s1) = 10 ∧ oL (h.1 s1) = 2 then Rf d 122 8 [a0, a1, a2, a3, a4] [] (hset h s1 (oSet (h.1 s1) 1 (.int s0))) else Rx d 122 5 [a0, a1, a2, a3, a4] [.int s0, .ref s1] h := putV c122_5 rfl (fMay_i (by decide +kernel))
theorem c122_8 : cd 122 8 = some (8, .aload_n 0, 1, []) := by decide +kernel
theorem x122_8 {d : Nat} {a1 a2 a3 a4 : Value} {x : Nat} {h : AHp} : Rf d 122 8 [.ref x, a1, a2, a3, a4] [] h = Rf d 122 9 [.ref x, a1, a2, a3, a4] [.ref x] h := Rf_go ((stp_of c122_8).trans rfl)
theorem c122_9 : cd 122 9 = some (9, .getfield 10, 3, [(11, 0)]) := by decide +kernel
theorem x122_9 {d : Nat} {a0 a1 a2 a3 a4 : Value} {s0 : Nat} {h : AHp} : Rf d 122 9 [a0, a1, a2, a3, a4] [.ref s0] h = if cls (h.1 s0) = 11 ∧ oKr (h.1 s0) 0 = true then Rf d 122 12 [a0, a1, a2, a3, a4] [.ref (oR (h.1 s0) 0)] h else Rx d 122 9 [a0, a1, a2, a3, a4] [.ref s0] h := getR c122_9
theorem c122_12 : cd 122 12 = some (12, .iload_n 1, 1, []) := by decide +kernel
theorem x122_12 {d : Nat} {a0 a2 a3 a4 : Value} {s0 : Nat} {x : Int32} {h : AHp} : Rf d 122 12 [a0, .int x, a2, a3, a4] [.ref s0] h = Rf d 122 13 [a0, .int x, a2, a3, a4] [.int x, .ref s0] h := Rf_go ((stp_of c122_12).trans rfl)
theorem c122_13 : cd 122 13 = some (13, .invokevirtual 104, 3, [(6, 42)]) := by decide +kernel
theorem xc122_13 {d : Nat} {a0 a1 a2 a3 a4 : Value} {s0 : Int32} {s1 : Nat} {h : AHp} {h1 : AHp} {v : Int32} (hr : cls (h.1 s1) = 6) (hq : Rf d 42 0 [.ref s1, .int s0] [] h = some (some (.int v), h1)) : Rf (d + 1) 122 13 [a0, a1, a2, a3, a4] [.int s0, .ref s1] h = Rf (d + 1) 122 16 [a0, a1, a2, a3, a4] [.int v] h1 := clV (c := 42) (as := [.int s0]) c122_13 rfl (by simp [isV]) (by rw [hr]; rfl) hq
theorem c122_16 : cd 122 16 = some (16, .ifCond .ne 5, 3, [(21, 0)]) := by decide +kernel
theorem x122_16 {d : Nat} {a0 a1 a2 a3 a4 : Value} {s0 : Int32} {h : AHp} : Rf d 122 16 [a0, a1, a2, a3, a4] [.int s0] h = if s0 = 0 then Rf d 122 19 [a0, a1, a2, a3, a4] [] h else Rf d 122 21 [a0, a1, a2, a3, a4] [] h := Rf_brn ((stp_of c122_16).trans rfl)
theorem c122_21 : cd 122 21 = some (21, .aload_n 0, 1, []) := by decide +kernel
theorem x122_21 {d : Nat} {a1 a2 a3 a4 : Value} {x : Nat} {h : AHp} : Rf d 122 21 [.ref x, a1, a2, a3, a4] [] h = Rf d 122 22 [.ref x, a1, a2, a3, a4] [.ref x] h := Rf_go ((stp_of c122_21).trans rfl)
theorem c122_22 : cd 122 22 = some (22, .getfield 10, 3, [(11, 0)]) := by decide +kernel
theorem x122_22 {d : Nat} {a0 a1 a2 a3 a4 : Value} {s0 : Nat} {h : AHp} : Rf d 122 22 [a0, a1, a2, a3, a4] [.ref s0] h = if cls (h.1 s0) = 11 ∧ oKr (h.1 s0) 0 = true then Rf d 122 25 [a0, a1, a2, a3, a4] [.ref (oR (h.1 s0) 0)] h else Rx d 122 22 [a0, a1, a2, a3, a4] [.ref s0] h := getR c122_22
theorem c122_25 : cd 122 25 = some (25, .getfield 127, 3, [(6, 7)]) := by decide +kernel
theorem x122_25 {d : Nat} {a0 a1 a2 a3 a4 : Value} {s0 : Nat} {h : AHp} : Rf d 122 25 [a0, a1, a2, a3, a4] [.ref s0] h = if cls (h.1 s0) = 6 ∧ oKr (h.1 s0) 7 = true then Rf d 122 28 [a0, a1, a2, a3, a4] [.ref (oR (h.1 s0) 7)] h else Rx d 122 25 [a0, a1, a2, a3, a4] [.ref s0] h := getR c122_25
theorem c122_28 : cd 122 28 = some (28, .iload_n 1, 1, []) := by decide +kernel
theorem x122_28 {d : Nat} {a0 a2 a3 a4 : Value} {s0 : Nat} {x : Int32} {h : AHp} : Rf d 122 28 [a0, .int x, a2, a3, a4] [.ref s0] h = Rf d 122 29 [a0, .int x, a2, a3, a4] [.int x, .ref s0] h := Rf_go ((stp_of c122_28).trans rfl)
theorem c122_29 : cd 122 29 = some (29, .aaload, 1, []) := by decide +kernel
theorem x122_29 {d : Nat} {a0 a1 a2 a3 a4 : Value} {s0 : Int32} {s1 : Nat} {h : AHp} : Rf d 122 29 [a0, a1, a2, a3, a4] [.int s0, .ref s1] h = if aTq (h.1 s1) = 3 ∧ inB s0 (aN (h.1 s1)) = true ∧ (aG (h.1 s1) s0.toNatClampNeg).isSome = true then Rf d 122 30 [a0, a1, a2, a3, a4] [.ref ((aG (h.1 s1) s0.toNatClampNeg).getD 0)] h else Rx d 122 29 [a0, a1, a2, a3, a4] [.int s0, .ref s1] h := ldQ c122_29
theorem c122_30 : cd 122 30 = some (30, .astore 4, 2, []) := by decide +kernel
theorem x122_30 {d : Nat} {a0 a1 a2 a3 a4 : Value} {s0 : Nat} {h : AHp} : Rf d 122 30 [a0, a1, a2, a3, a4] [.ref s0] h = Rf d 122 32 [a0, a1, a2, a3, .ref s0] [] h := Rf_go ((stp_of c122_30).trans rfl)
theorem c122_32 : cd 122 32 = some (32, .iload_n 2, 1, []) := by decide +kernel
theorem x122_32 {d : Nat} {a0 a1 a3 a4 : Value} {x : Int32} {h : AHp} : Rf d 122 32 [a0, a1, .int x, a3, a4] [] h = Rf d 122 33 [a0, a1, .int x, a3, a4] [.int x] h := Rf_go ((stp_of c122_32).trans rfl)
theorem c122_33 : cd 122 33 = some (33, .tableswitch 60 0 2 #[27, 38, 49], 27, [(0, 93), (0, 60), (1, 71), (2, 82)]) := by decide +kernel
theorem x122_33 {d : Nat} {a0 a1 a2 a3 a4 : Value} {s0 : Int32} {h : AHp} : Rf d 122 33 [a0, a1, a2, a3, a4] [.int s0] h = if s0 = 0 then Rf d 122 60 [a0, a1, a2, a3, a4] [] h else (if s0 = 1 then Rf d 122 71 [a0, a1, a2, a3, a4] [] h else (if s0 = 2 then Rf d 122 82 [a0, a1, a2, a3, a4] [] h else (Rf d 122 93 [a0, a1, a2, a3, a4] [] h))) := (swE (e := 93) c122_33 rfl).trans (by simp only [List.drop, swT, Rf_ite]; rfl)
theorem c122_82 : cd 122 82 = some (82, .aload 4, 2, []) := by decide +kernel
theorem x122_82 {d : Nat} {a0 a1 a2 a3 : Value} {x : Nat} {h : AHp} : Rf d 122 82 [a0, a1, a2, a3, .ref x] [] h = Rf d 122 84 [a0, a1, a2, a3, .ref x] [.ref x] h := Rf_go ((stp_of c122_82).trans rfl)
theorem c122_84 : cd 122 84 = some (84, .aload_n 0, 1, []) := by decide +kernel
theorem x122_84 {d : Nat} {a1 a2 a3 a4 : Value} {s0 : Nat} {x : Nat} {h : AHp} : Rf d 122 84 [.ref x, a1, a2, a3, a4] [.ref s0] h = Rf d 122 85 [.ref x, a1, a2, a3, a4] [.ref x, .ref s0] h := Rf_go ((stp_of c122_84).trans rfl)
theorem c122_85 : cd 122 85 = some (85, .getfield 35, 3, [(11, 5)]) := by decide +kernel
theorem x122_85 {d : Nat} {a0 a1 a2 a3 a4 : Value} {s0 : Nat} {s1 : Nat} {h : AHp} : Rf d 122 85 [a0, a1, a2, a3, a4] [.ref s0, .ref s1] h = if cls (h.1 s0) = 11 ∧ oKr (h.1 s0) 5 = true then Rf d 122 88 [a0, a1, a2, a3, a4] [.ref (oR (h.1 s0) 5), .ref s1] h else Rx d 122 85 [a0, a1, a2, a3, a4] [.ref s0, .ref s1] h := getR c122_85
theorem c122_88 : cd 122 88 = some (88, .iload_n 3, 1, []) := by decide +kernel
theorem x122_88 {d : Nat} {a0 a1 a2 a4 : Value} {s0 : Nat} {s1 : Nat} {x : Int32} {h : AHp} : Rf d 122 88 [a0, a1, a2, .int x, a4] [.ref s0, .ref s1] h = Rf d 122 89 [a0, a1, a2, .int x, a4] [.int x, .ref s0, .ref s1] h := Rf_go ((stp_of c122_88).trans rfl)
theorem c122_89 : cd 122 89 = some (89, .invokevirtual 233, 3, [(0, 91), (1, 7), (2, 34), (4, 34), (5, 34), (8, 34), (9, 91), (201, 4), (202, 4)]) := by decide +kernel
theorem xc122_89_0 {d : Nat} {a0 a1 a2 a3 a4 : Value} {s0 : Int32} {s1 : Nat} {s2 : Nat} {h : AHp} {h1 : AHp} {v : Int32} (hr : cls (h.1 s2) = 0) (hq : Rf d 91 0 [.ref s2, .ref s1, .int s0] [] h = some (some (.int v), h1)) : Rf (d + 1) 122 89 [a0, a1, a2, a3, a4] [.int s0, .ref s1, .ref s2] h = Rf (d + 1) 122 92 [a0, a1, a2, a3, a4] [.int v] h1 := clV (c := 91) (as := [.ref s1, .int s0]) c122_89 rfl (by simp [isV]) (by rw [hr]; rfl) hq
theorem xc122_89_1 {d : Nat} {a0 a1 a2 a3 a4 : Value} {s0 : Int32} {s1 : Nat} {s2 : Nat} {h : AHp} {h1 : AHp} {v : Int32} (hr : cls (h.1 s2) = 1) (hq : Rf d 7 0 [.ref s2, .ref s1, .int s0] [] h = some (some (.int v), h1)) : Rf (d + 1) 122 89 [a0, a1, a2, a3, a4] [.int s0, .ref s1, .ref s2] h = Rf (d + 1) 122 92 [a0, a1, a2, a3, a4] [.int v] h1 := clV (c := 7) (as := [.ref s1, .int s0]) c122_89 rfl (by simp [isV]) (by rw [hr]; rfl) hq
theorem xc122_89_2 {d : Nat} {a0 a1 a2 a3 a4 : Value} {s0 : Int32} {s1 : Nat} {s2 : Nat} {h : AHp} {h1 : AHp} {v : Int32} (hr : cls (h.1 s2) = 2) (hq : Rf d 34 0 [.ref s2, .ref s1, .int s0] [] h = some (some (.int v), h1)) : Rf (d + 1) 122 89 [a0, a1, a2, a3, a4] [.int s0, .ref s1, .ref s2] h = Rf (d + 1) 122 92 [a0, a1, a2, a3, a4] [.int v] h1 := clV (c := 34) (as := [.ref s1, .int s0]) c122_89 rfl (by simp [isV]) (by rw [hr]; rfl) hq
theorem xc122_89_4 {d : Nat} {a0 a1 a2 a3 a4 : Value} {s0 : Int32} {s1 : Nat} {s2 : Nat} {h : AHp} {h1 : AHp} {v : Int32} (hr : cls (h.1 s2) = 4) (hq : Rf d 34 0 [.ref s2, .ref s1, .int s0] [] h = some (some (.int v), h1)) : Rf (d + 1) 122 89 [a0, a1, a2, a3, a4] [.int s0, .ref s1, .ref s2] h = Rf (d + 1) 122 92 [a0, a1, a2, a3, a4] [.int v] h1 := clV (c := 34) (as := [.ref s1, .int s0]) c122_89 rfl (by simp [isV]) (by rw [hr]; rfl) hq
theorem xc122_89_5 {d : Nat} {a0 a1 a2 a3 a4 : Value} {s0 : Int32} {s1 : Nat} {s2 : Nat} {h : AHp} {h1 : AHp} {v : Int32} (hr : cls (h.1 s2) = 5) (hq : Rf d 34 0 [.ref s2, .ref s1, .int s0] [] h = some (some (.int v), h1)) : Rf (d + 1) 122 89 [a0, a1, a2, a3, a4] [.int s0, .ref s1, .ref s2] h = Rf (d + 1) 122 92 [a0, a1, a2, a3, a4] [.int v] h1 := clV (c := 34) (as := [.ref s1, .int s0]) c122_89 rfl (by simp [isV]) (by rw [hr]; rfl) hq
theorem xc122_89_8 {d : Nat} {a0 a1 a2 a3 a4 : Value} {s0 : Int32} {s1 : Nat} {s2 : Nat} {h : AHp} {h1 : AHp} {v : Int32} (hr : cls (h.1 s2) = 8) (hq : Rf d 34 0 [.ref s2, .ref s1, .int s0] [] h = some (some (.int v), h1)) : Rf (d + 1) 122 89 [a0, a1, a2, a3, a4] [.int s0, .ref s1, .ref s2] h = Rf (d + 1) 122 92 [a0, a1, a2, a3, a4] [.int v] h1 := clV (c := 34) (as := [.ref s1, .int s0]) c122_89 rfl (by simp [isV]) (by rw [hr]; rfl) hq
theorem xc122_89_9 {d : Nat} {a0 a1 a2 a3 a4 : Value} {s0 : Int32} {s1 : Nat} {s2 : Nat} {h : AHp} {h1 : AHp} {v : Int32} (hr : cls (h.1 s2) = 9) (hq : Rf d 91 0 [.ref s2, .ref s1, .int s0] [] h = some (some (.int v), h1)) : Rf (d + 1) 122 89 [a0, a1, a2, a3, a4] [.int s0, .ref s1, .ref s2] h = Rf (d + 1) 122 92 [a0, a1, a2, a3, a4] [.int v] h1 := clV (c := 91) (as := [.ref s1, .int s0]) c122_89 rfl (by simp [isV]) (by rw [hr]; rfl) hq
theorem c122_92 : cd 122 92 = some (92, .ireturn, 1, []) := by decide +kernel
theorem x122_92 {d : Nat} {a0 a1 a2 a3 a4 : Value} {s0 : Int32} {h : AHp} : Rf d 122 92 [a0, a1, a2, a3, a4] [.int s0] h = some (some (.int s0), h) := Rf_end (by rw [stp_of c122_92]; simp only [stpI]; rw [if_pos (show retI (mH 122).2.2.1 s0 = true from retI_int)])
theorem c122_71 : cd 122 71 = some (71, .aload 4, 2, []) := by decide +kernel
theorem x122_71 {d : Nat} {a0 a1 a2 a3 : Value} {x : Nat} {h : AHp} : Rf d 122 71 [a0, a1, a2, a3, .ref x] [] h = Rf d 122 73 [a0, a1, a2, a3, .ref x] [.ref x] h := Rf_go ((stp_of c122_71).trans rfl)
theorem c122_73 : cd 122 73 = some (73, .aload_n 0, 1, []) := by decide +kernel
theorem x122_73 {d : Nat} {a1 a2 a3 a4 : Value} {s0 : Nat} {x : Nat} {h : AHp} : Rf d 122 73 [.ref x, a1, a2, a3, a4] [.ref s0] h = Rf d 122 74 [.ref x, a1, a2, a3, a4] [.ref x, .ref s0] h := Rf_go ((stp_of c122_73).trans rfl)
theorem c122_74 : cd 122 74 = some (74, .getfield 35, 3, [(11, 5)]) := by decide +kernel
theorem x122_74 {d : Nat} {a0 a1 a2 a3 a4 : Value} {s0 : Nat} {s1 : Nat} {h : AHp} : Rf d 122 74 [a0, a1, a2, a3, a4] [.ref s0, .ref s1] h = if cls (h.1 s0) = 11 ∧ oKr (h.1 s0) 5 = true then Rf d 122 77 [a0, a1, a2, a3, a4] [.ref (oR (h.1 s0) 5), .ref s1] h else Rx d 122 74 [a0, a1, a2, a3, a4] [.ref s0, .ref s1] h := getR c122_74
theorem c122_77 : cd 122 77 = some (77, .iload_n 3, 1, []) := by decide +kernel
theorem x122_77 {d : Nat} {a0 a1 a2 a4 : Value} {s0 : Nat} {s1 : Nat} {x : Int32} {h : AHp} : Rf d 122 77 [a0, a1, a2, .int x, a4] [.ref s0, .ref s1] h = Rf d 122 78 [a0, a1, a2, .int x, a4] [.int x, .ref s0, .ref s1] h := Rf_go ((stp_of c122_77).trans rfl)
theorem c122_78 : cd 122 78 = some (78, .invokevirtual 230, 3, [(0, 3), (1, 33), (2, 33), (4, 33), (5, 38), (8, 38), (9, 33), (201, 4), (202, 4)]) := by decide +kernel
theorem xc122_78_0 {d : Nat} {a0 a1 a2 a3 a4 : Value} {s0 : Int32} {s1 : Nat} {s2 : Nat} {h : AHp} {h1 : AHp} {v : Int32} (hr : cls (h.1 s2) = 0) (hq : Rf d 3 0 [.ref s2, .ref s1, .int s0] [] h = some (some (.int v), h1)) : Rf (d + 1) 122 78 [a0, a1, a2, a3, a4] [.int s0, .ref s1, .ref s2] h = Rf (d + 1) 122 81 [a0, a1, a2, a3, a4] [.int v] h1 := clV (c := 3) (as := [.ref s1, .int s0]) c122_78 rfl (by simp [isV]) (by rw [hr]; rfl) hq
theorem xc122_78_1 {d : Nat} {a0 a1 a2 a3 a4 : Value} {s0 : Int32} {s1 : Nat} {s2 : Nat} {h : AHp} {h1 : AHp} {v : Int32} (hr : cls (h.1 s2) = 1) (hq : Rf d 33 0 [.ref s2, .ref s1, .int s0] [] h = some (some (.int v), h1)) : Rf (d + 1) 122 78 [a0, a1, a2, a3, a4] [.int s0, .ref s1, .ref s2] h = Rf (d + 1) 122 81 [a0, a1, a2, a3, a4] [.int v] h1 := clV (c := 33) (as := [.ref s1, .int s0]) c122_78 rfl (by simp [isV]) (by rw [hr]; rfl) hq
theorem xc122_78_2 {d : Nat} {a0 a1 a2 a3 a4 : Value} {s0 : Int32} {s1 : Nat} {s2 : Nat} {h : AHp} {h1 : AHp} {v : Int32} (hr : cls (h.1 s2) = 2) (hq : Rf d 33 0 [.ref s2, .ref s1, .int s0] [] h = some (some (.int v), h1)) : Rf (d + 1) 122 78 [a0, a1, a2, a3, a4] [.int s0, .ref s1, .ref s2] h = Rf (d + 1) 122 81 [a0, a1, a2, a3, a4] [.int v] h1 := clV (c := 33) (as := [.ref s1, .int s0]) c122_78 rfl (by simp [isV]) (by rw [hr]; rfl) hq
theorem xc122_78_4 {d : Nat} {a0 a1 a2 a3 a4 : Value} {s0 : Int32} {s1 : Nat} {s2 : Nat} {h : AHp} {h1 : AHp} {v : Int32} (hr : cls (h.1 s2) = 4) (hq : Rf d 33 0 [.ref s2, .ref s1, .int s0] [] h = some (some (.int v), h1)) : Rf (d + 1) 122 78 [a0, a1, a2, a3, a4] [.int s0, .ref s1, .ref s2] h = Rf (d + 1) 122 81 [a0, a1, a2, a3, a4] [.int v] h1 := clV (c := 33) (as := [.ref s1, .int s0]) c122_78 rfl (by simp [isV]) (by rw [hr]; rfl) hq
theorem xc122_78_5 {d : Nat} {a0 a1 a2 a3 a4 : Value} {s0 : Int32} {s1 : Nat} {s2 : Nat} {h : AHp} {h1 : AHp} {v : Int32} (hr : cls (h.1 s2) = 5) (hq : Rf d 38 0 [.ref s2, .ref s1, .int s0] [] h = some (some (.int v), h1)) : Rf (d + 1) 122 78 [a0, a1, a2, a3, a4] [.int s0, .ref s1, .ref s2] h = Rf (d + 1) 122 81 [a0, a1, a2, a3, a4] [.int v] h1 := clV (c := 38) (as := [.ref s1, .int s0]) c122_78 rfl (by simp [isV]) (by rw [hr]; rfl) hq
theorem xc122_78_8 {d : Nat} {a0 a1 a2 a3 a4 : Value} {s0 : Int32} {s1 : Nat} {s2 : Nat} {h : AHp} {h1 : AHp} {v : Int32} (hr : cls (h.1 s2) = 8) (hq : Rf d 38 0 [.ref s2, .ref s1, .int s0] [] h = some (some (.int v), h1)) : Rf (d + 1) 122 78 [a0, a1, a2, a3, a4] [.int s0, .ref s1, .ref s2] h = Rf (d + 1) 122 81 [a0, a1, a2, a3, a4] [.int v] h1 := clV (c := 38) (as := [.ref s1, .int s0]) c122_78 rfl (by simp [isV]) (by rw [hr]; rfl) hq
theorem xc122_78_9 {d : Nat} {a0 a1 a2 a3 a4 : Value} {s0 : Int32} {s1 : Nat} {s2 : Nat} {h : AHp} {h1 : AHp} {v : Int32} (hr : cls (h.1 s2) = 9) (hq : Rf d 33 0 [.ref s2, .ref s1, .int s0] [] h = some (some (.int v), h1)) : Rf (d + 1) 122 78 [a0, a1, a2, a3, a4] [.int s0, .ref s1, .ref s2] h = Rf (d + 1) 122 81 [a0, a1, a2, a3, a4] [.int v] h1 := clV (c := 33) (as := [.ref s1, .int s0]) c122_78 rfl (by simp [isV]) (by rw [hr]; rfl) hq
theorem c122_81 : cd 122 81 = some (81, .ireturn, 1, []) := by decide +kernel
theorem x122_81 {d : Nat} {a0 a1 a2 a3 a4 : Value} {s0 : Int32} {h : AHp} : Rf d 122 81 [a0, a1, a2, a3, a4] [.int s0] h = some (some (.int s0), h) := Rf_end (by rw [stp_of c122_81]; simp only [stpI]; rw [if_pos (show retI (mH 122).2.2.1 s0 = true from retI_int)])
theorem c122_60 : cd 122 60 = some (60, .aload 4, 2, []) := by decide +kernel
theorem x122_60 {d : Nat} {a0 a1 a2 a3 : Value} {x : Nat} {h : AHp} : Rf d 122 60 [a0, a1, a2, a3, .ref x] [] h = Rf d 122 62 [a0, a1, a2, a3, .ref x] [.ref x] h := Rf_go ((stp_of c122_60).trans rfl)
theorem c122_62 : cd 122 62 = some (62, .aload_n 0, 1, []) := by decide +kernel
theorem x122_62 {d : Nat} {a1 a2 a3 a4 : Value} {s0 : Nat} {x : Nat} {h : AHp} : Rf d 122 62 [.ref x, a1, a2, a3, a4] [.ref s0] h = Rf d 122 63 [.ref x, a1, a2, a3, a4] [.ref x, .ref s0] h := Rf_go ((stp_of c122_62).trans rfl)
theorem c122_63 : cd 122 63 = some (63, .getfield 35, 3, [(11, 5)]) := by decide +kernel
theorem x122_63 {d : Nat} {a0 a1 a2 a3 a4 : Value} {s0 : Nat} {s1 : Nat} {h : AHp} : Rf d 122 63 [a0, a1, a2, a3, a4] [.ref s0, .ref s1] h = if cls (h.1 s0) = 11 ∧ oKr (h.1 s0) 5 = true then Rf d 122 66 [a0, a1, a2, a3, a4] [.ref (oR (h.1 s0) 5), .ref s1] h else Rx d 122 63 [a0, a1, a2, a3, a4] [.ref s0, .ref s1] h := getR c122_63
theorem c122_66 : cd 122 66 = some (66, .iload_n 3, 1, []) := by decide +kernel
theorem x122_66 {d : Nat} {a0 a1 a2 a4 : Value} {s0 : Nat} {s1 : Nat} {x : Int32} {h : AHp} : Rf d 122 66 [a0, a1, a2, .int x, a4] [.ref s0, .ref s1] h = Rf d 122 67 [a0, a1, a2, .int x, a4] [.int x, .ref s0, .ref s1] h := Rf_go ((stp_of c122_66).trans rfl)
theorem c122_67 : cd 122 67 = some (67, .invokevirtual 226, 3, [(0, 32), (1, 11), (2, 11), (4, 32), (5, 32), (8, 87), (9, 32), (201, 4), (202, 4)]) := by decide +kernel
theorem xc122_67_0 {d : Nat} {a0 a1 a2 a3 a4 : Value} {s0 : Int32} {s1 : Nat} {s2 : Nat} {h : AHp} {h1 : AHp} {v : Int32} (hr : cls (h.1 s2) = 0) (hq : Rf d 32 0 [.ref s2, .ref s1, .int s0] [] h = some (some (.int v), h1)) : Rf (d + 1) 122 67 [a0, a1, a2, a3, a4] [.int s0, .ref s1, .ref s2] h = Rf (d + 1) 122 70 [a0, a1, a2, a3, a4] [.int v] h1 := clV (c := 32) (as := [.ref s1, .int s0]) c122_67 rfl (by simp [isV]) (by rw [hr]; rfl) hq
theorem xc122_67_1 {d : Nat} {a0 a1 a2 a3 a4 : Value} {s0 : Int32} {s1 : Nat} {s2 : Nat} {h : AHp} {h1 : AHp} {v : Int32} (hr : cls (h.1 s2) = 1) (hq : Rf d 11 0 [.ref s2, .ref s1, .int s0] [] h = some (some (.int v), h1)) : Rf (d + 1) 122 67 [a0, a1, a2, a3, a4] [.int s0, .ref s1, .ref s2] h = Rf (d + 1) 122 70 [a0, a1, a2, a3, a4] [.int v] h1 := clV (c := 11) (as := [.ref s1, .int s0]) c122_67 rfl (by simp [isV]) (by rw [hr]; rfl) hq
theorem xc122_67_2 {d : Nat} {a0 a1 a2 a3 a4 : Value} {s0 : Int32} {s1 : Nat} {s2 : Nat} {h : AHp} {h1 : AHp} {v : Int32} (hr : cls (h.1 s2) = 2) (hq : Rf d 11 0 [.ref s2, .ref s1, .int s0] [] h = some (some (.int v), h1)) : Rf (d + 1) 122 67 [a0, a1, a2, a3, a4] [.int s0, .ref s1, .ref s2] h = Rf (d + 1) 122 70 [a0, a1, a2, a3, a4] [.int v] h1 := clV (c := 11) (as := [.ref s1, .int s0]) c122_67 rfl (by simp [isV]) (by rw [hr]; rfl) hq
theorem xc122_67_4 {d : Nat} {a0 a1 a2 a3 a4 : Value} {s0 : Int32} {s1 : Nat} {s2 : Nat} {h : AHp} {h1 : AHp} {v : Int32} (hr : cls (h.1 s2) = 4) (hq : Rf d 32 0 [.ref s2, .ref s1, .int s0] [] h = some (some (.int v), h1)) : Rf (d + 1) 122 67 [a0, a1, a2, a3, a4] [.int s0, .ref s1, .ref s2] h = Rf (d + 1) 122 70 [a0, a1, a2, a3, a4] [.int v] h1 := clV (c := 32) (as := [.ref s1, .int s0]) c122_67 rfl (by simp [isV]) (by rw [hr]; rfl) hq
theorem xc122_67_5 {d : Nat} {a0 a1 a2 a3 a4 : Value} {s0 : Int32} {s1 : Nat} {s2 : Nat} {h : AHp} {h1 : AHp} {v : Int32} (hr : cls (h.1 s2) = 5) (hq : Rf d 32 0 [.ref s2, .ref s1, .int s0] [] h = some (some (.int v), h1)) : Rf (d + 1) 122 67 [a0, a1, a2, a3, a4] [.int s0, .ref s1, .ref s2] h = Rf (d + 1) 122 70 [a0, a1, a2, a3, a4] [.int v] h1 := clV (c := 32) (as := [.ref s1, .int s0]) c122_67 rfl (by simp [isV]) (by rw [hr]; rfl) hq
theorem xc122_67_8 {d : Nat} {a0 a1 a2 a3 a4 : Value} {s0 : Int32} {s1 : Nat} {s2 : Nat} {h : AHp} {h1 : AHp} {v : Int32} (hr : cls (h.1 s2) = 8) (hq : Rf d 87 0 [.ref s2, .ref s1, .int s0] [] h = some (some (.int v), h1)) : Rf (d + 1) 122 67 [a0, a1, a2, a3, a4] [.int s0, .ref s1, .ref s2] h = Rf (d + 1) 122 70 [a0, a1, a2, a3, a4] [.int v] h1 := clV (c := 87) (as := [.ref s1, .int s0]) c122_67 rfl (by simp [isV]) (by rw [hr]; rfl) hq
theorem xc122_67_9 {d : Nat} {a0 a1 a2 a3 a4 : Value} {s0 : Int32} {s1 : Nat} {s2 : Nat} {h : AHp} {h1 : AHp} {v : Int32} (hr : cls (h.1 s2) = 9) (hq : Rf d 32 0 [.ref s2, .ref s1, .int s0] [] h = some (some (.int v), h1)) : Rf (d + 1) 122 67 [a0, a1, a2, a3, a4] [.int s0, .ref s1, .ref s2] h = Rf (d + 1) 122 70 [a0, a1, a2, a3, a4] [.int v] h1 := clV (c := 32) (as := [.ref s1, .int s0]) c122_67 rfl (by simp [isV]) (by rw [hr]; rfl) hq
theorem c122_70 : cd 122 70 = some (70, .ireturn, 1, []) := by decide +kernel
theorem x122_70 {d : Nat} {a0 a1 a2 a3 a4 : Value} {s0 : Int32} {h : AHp} : Rf d 122 70 [a0, a1, a2, a3, a4] [.int s0] h = some (some (.int s0), h) := Rf_end (by rw [stp_of c122_70]; simp only [stpI]; rw [if_pos (show retI (mH 122).2.2.1 s0 = true from retI_int)])
theorem c122_93 : cd 122 93 = some (93, .iconst 0, 1, []) := by decide +kernel
theorem x122_93 {d : Nat} {a0 a1 a2 a3 a4 : Value} {h : AHp} : Rf d 122 93 [a0, a1, a2, a3, a4] [] h = Rf d 122 94 [a0, a1, a2, a3, a4] [.int 0] h := Rf_go ((stp_of c122_93).trans rfl)
theorem c122_94 : cd 122 94 = some (94, .ireturn, 1, []) := by decide +kernel
theorem x122_94 {d : Nat} {a0 a1 a2 a3 a4 : Value} {s0 : Int32} {h : AHp} : Rf d 122 94 [a0, a1, a2, a3, a4] [.int s0] h = some (some (.int s0), h) := Rf_end (by rw [stp_of c122_94]; simp only [stpI]; rw [if_pos (show retI (mH 122).2.2.1 s0 = true from retI_int)])
theorem c122_19 : cd 122 19 = some (19, .iconst 0, 1, []) := by decide +kernel
theorem x122_19 {d : Nat} {a0 a1 a2 a3 a4 : Value} {h : AHp} : Rf d 122 19 [a0, a1, a2, a3, a4] [] h = Rf d 122 20 [a0, a1, a2, a3, a4] [.int 0] h := Rf_go ((stp_of c122_19).trans rfl)
theorem c122_20 : cd 122 20 = some (20, .ireturn, 1, []) := by decide +kernel
theorem x122_20 {d : Nat} {a0 a1 a2 a3 a4 : Value} {s0 : Int32} {h : AHp} : Rf d 122 20 [a0, a1, a2, a3, a4] [.int s0] h = some (some (.int s0), h) := Rf_end (by rw [stp_of c122_20]; simp only [stpI]; rw [if_pos (show retI (mH 122).2.2.1 s0 = true from retI_int)])
-- 123: X11_trace
theorem c123_0 : cd 123 0 = some (0, .iload_n 1, 1, []) := by decide +kernel
theorem x123_0 {d : Nat} {a0 : Value} {x : Int32} {h : AHp} : Rf d 123 0 [a0, .int x] [] h = Rf d 123 1 [a0, .int x] [.int x] h := Rf_go ((stp_of c123_0).trans rfl)
theorem c123_1 : cd 123 1 = some (1, .ifCond .lt 20, 3, [(21, 0)]) := by decide +kernel
theorem x123_1 {d : Nat} {a0 a1 : Value} {s0 : Int32} {h : AHp} : Rf d 123 1 [a0, a1] [.int s0] h = if s0 < 0 then Rf d 123 21 [a0, a1] [] h else Rf d 123 4 [a0, a1] [] h := Rf_brd ((stp_of c123_1).trans rfl)
theorem c123_21 : cd 123 21 = some (21, .iconst (-1), 1, []) := by decide +kernel
theorem x123_21 {d : Nat} {a0 a1 : Value} {h : AHp} : Rf d 123 21 [a0, a1] [] h = Rf d 123 22 [a0, a1] [.int (-1)] h := Rf_go ((stp_of c123_21).trans rfl)
theorem c123_22 : cd 123 22 = some (22, .goto 12, 3, [(34, 0)]) := by decide +kernel
theorem x123_22 {d : Nat} {a0 a1 : Value} {s0 : Int32} {h : AHp} : Rf d 123 22 [a0, a1] [.int s0] h = Rf d 123 34 [a0, a1] [.int s0] h := Rf_go ((stp_of c123_22).trans rfl)
theorem c123_34 : cd 123 34 = some (34, .ireturn, 1, []) := by decide +kernel
theorem x123_34 {d : Nat} {a0 a1 : Value} {s0 : Int32} {h : AHp} : Rf d 123 34 [a0, a1] [.int s0] h = some (some (.int s0), h) := Rf_end (by rw [stp_of c123_34]; simp only [stpI]; rw [if_pos (show retI (mH 123).2.2.1 s0 = true from retI_int)])
theorem c123_4 : cd 123 4 = some (4, .iload_n 1, 1, []) := by decide +kernel
theorem x123_4 {d : Nat} {a0 : Value} {x : Int32} {h : AHp} : Rf d 123 4 [a0, .int x] [] h = Rf d 123 5 [a0, .int x] [.int x] h := Rf_go ((stp_of c123_4).trans rfl)
theorem c123_5 : cd 123 5 = some (5, .aload_n 0, 1, []) := by decide +kernel
theorem x123_5 {d : Nat} {a1 : Value} {s0 : Int32} {x : Nat} {h : AHp} : Rf d 123 5 [.ref x, a1] [.int s0] h = Rf d 123 6 [.ref x, a1] [.ref x, .int s0] h := Rf_go ((stp_of c123_5).trans rfl)
theorem c123_6 : cd 123 6 = some (6, .getfield 35, 3, [(11, 5)]) := by decide +kernel
theorem x123_6 {d : Nat} {a0 a1 : Value} {s0 : Nat} {s1 : Int32} {h : AHp} : Rf d 123 6 [a0, a1] [.ref s0, .int s1] h = if cls (h.1 s0) = 11 ∧ oKr (h.1 s0) 5 = true then Rf d 123 9 [a0, a1] [.ref (oR (h.1 s0) 5), .int s1] h else Rx d 123 6 [a0, a1] [.ref s0, .int s1] h := getR c123_6
theorem c123_9 : cd 123 9 = some (9, .getfield 223, 3, [(10, 1)]) := by decide +kernel
theorem x123_9 {d : Nat} {a0 a1 : Value} {s0 : Nat} {s1 : Int32} {h : AHp} : Rf d 123 9 [a0, a1] [.ref s0, .int s1] h = if cls (h.1 s0) = 10 ∧ oKi (h.1 s0) 1 = true then Rf d 123 12 [a0, a1] [.int (oN (h.1 s0) 1), .int s1] h else Rx d 123 9 [a0, a1] [.ref s0, .int s1] h := getI c123_9
theorem c123_12 : cd 123 12 = some (12, .if_icmp .ge 9, 3, [(21, 0)]) := by decide +kernel
theorem x123_12 {d : Nat} {a0 a1 : Value} {s0 : Int32} {s1 : Int32} {h : AHp} : Rf d 123 12 [a0, a1] [.int s0, .int s1] h = if s1 < s0 then Rf d 123 15 [a0, a1] [] h else Rf d 123 21 [a0, a1] [] h := Rf_brn ((stp_of c123_12).trans rfl)
theorem c123_15 : cd 123 15 = some (15, .iload_n 1, 1, []) := by decide +kernel
theorem x123_15 {d : Nat} {a0 : Value} {x : Int32} {h : AHp} : Rf d 123 15 [a0, .int x] [] h = Rf d 123 16 [a0, .int x] [.int x] h := Rf_go ((stp_of c123_15).trans rfl)
theorem c123_16 : cd 123 16 = some (16, .bipush 20, 2, []) := by decide +kernel
theorem x123_16 {d : Nat} {a0 a1 : Value} {s0 : Int32} {h : AHp} : Rf d 123 16 [a0, a1] [.int s0] h = Rf d 123 18 [a0, a1] [.int 20, .int s0] h := Rf_go ((stp_of c123_16).trans rfl)
theorem c123_18 : cd 123 18 = some (18, .if_icmp .lt 7, 3, [(25, 0)]) := by decide +kernel
theorem x123_18 {d : Nat} {a0 a1 : Value} {s0 : Int32} {s1 : Int32} {h : AHp} : Rf d 123 18 [a0, a1] [.int s0, .int s1] h = if s1 < s0 then Rf d 123 25 [a0, a1] [] h else Rf d 123 21 [a0, a1] [] h := Rf_brd ((stp_of c123_18).trans rfl)
theorem c123_25 : cd 123 25 = some (25, .aload_n 0, 1, []) := by decide +kernel
theorem x123_25 {d : Nat} {a1 : Value} {x : Nat} {h : AHp} : Rf d 123 25 [.ref x, a1] [] h = Rf d 123 26 [.ref x, a1] [.ref x] h := Rf_go ((stp_of c123_25).trans rfl)
theorem c123_26 : cd 123 26 = some (26, .getfield 35, 3, [(11, 5)]) := by decide +kernel
theorem x123_26 {d : Nat} {a0 a1 : Value} {s0 : Nat} {h : AHp} : Rf d 123 26 [a0, a1] [.ref s0] h = if cls (h.1 s0) = 11 ∧ oKr (h.1 s0) 5 = true then Rf d 123 29 [a0, a1] [.ref (oR (h.1 s0) 5)] h else Rx d 123 26 [a0, a1] [.ref s0] h := getR c123_26
theorem c123_29 : cd 123 29 = some (29, .getfield 236, 3, [(10, 0)]) := by decide +kernel
theorem x123_29 {d : Nat} {a0 a1 : Value} {s0 : Nat} {h : AHp} : Rf d 123 29 [a0, a1] [.ref s0] h = if cls (h.1 s0) = 10 ∧ oKr (h.1 s0) 0 = true then Rf d 123 32 [a0, a1] [.ref (oR (h.1 s0) 0)] h else Rx d 123 29 [a0, a1] [.ref s0] h := getR c123_29
theorem c123_32 : cd 123 32 = some (32, .iload_n 1, 1, []) := by decide +kernel
theorem x123_32 {d : Nat} {a0 : Value} {s0 : Nat} {x : Int32} {h : AHp} : Rf d 123 32 [a0, .int x] [.ref s0] h = Rf d 123 33 [a0, .int x] [.int x, .ref s0] h := Rf_go ((stp_of c123_32).trans rfl)
theorem c123_33 : cd 123 33 = some (33, .iaload, 1, []) := by decide +kernel
theorem x123_33 {d : Nat} {a0 a1 : Value} {s0 : Int32} {s1 : Nat} {h : AHp} : Rf d 123 33 [a0, a1] [.int s0, .ref s1] h = if (aT (h.1 s1) = 0 ∨ aT (h.1 s1) = 10) ∧ inB s0 (aN (h.1 s1)) = true then Rf d 123 34 [a0, a1] [.int (aF (h.1 s1) s0.toNatClampNeg)] h else Rx d 123 33 [a0, a1] [.int s0, .ref s1] h := ldI c123_33
-- 124: X11_as
theorem c124_0 : cd 124 0 = some (0, .aload_n 0, 1, []) := by decide +kernel
theorem x124_0 {d : Nat} {a1 a2 a3 : Value} {x : Nat} {h : AHp} : Rf d 124 0 [.ref x, a1, a2, a3] [] h = Rf d 124 1 [.ref x, a1, a2, a3] [.ref x] h := Rf_go ((stp_of c124_0).trans rfl)
theorem c124_1 : cd 124 1 = some (1, .getfield 10, 3, [(11, 0)]) := by decide +kernel
theorem x124_1 {d : Nat} {a0 a1 a2 a3 : Value} {s0 : Nat} {h : AHp} : Rf d 124 1 [a0, a1, a2, a3] [.ref s0] h = if cls (h.1 s0) = 11 ∧ oKr (h.1 s0) 0 = true then Rf d 124 4 [a0, a1, a2, a3] [.ref (oR (h.1 s0) 0)] h else Rx d 124 1 [a0, a1, a2, a3] [.ref s0] h := getR c124_1
theorem c124_4 : cd 124 4 = some (4, .iload_n 1, 1, []) := by decide +kernel
theorem x124_4 {d : Nat} {a0 a2 a3 : Value} {s0 : Nat} {x : Int32} {h : AHp} : Rf d 124 4 [a0, .int x, a2, a3] [.ref s0] h = Rf d 124 5 [a0, .int x, a2, a3] [.int x, .ref s0] h := Rf_go ((stp_of c124_4).trans rfl)
theorem c124_5 : cd 124 5 = some (5, .invokevirtual 104, 3, [(6, 42)]) := by decide +kernel
theorem xc124_5 {d : Nat} {a0 a1 a2 a3 : Value} {s0 : Int32} {s1 : Nat} {h : AHp} {h1 : AHp} {v : Int32} (hr : cls (h.1 s1) = 6) (hq : Rf d 42 0 [.ref s1, .int s0] [] h = some (some (.int v), h1)) : Rf (d + 1) 124 5 [a0, a1, a2, a3] [.int s0, .ref s1] h = Rf (d + 1) 124 8 [a0, a1, a2, a3] [.int v] h1 := clV (c := 42) (as := [.int s0]) c124_5 rfl (by simp [isV]) (by rw [hr]; rfl) hq
theorem c124_8 : cd 124 8 = some (8, .ifCond .eq 12, 3, [(20, 0)]) := by decide +kernel
theorem x124_8 {d : Nat} {a0 a1 a2 a3 : Value} {s0 : Int32} {h : AHp} : Rf d 124 8 [a0, a1, a2, a3] [.int s0] h = if s0 = 0 then Rf d 124 20 [a0, a1, a2, a3] [] h else Rf d 124 11 [a0, a1, a2, a3] [] h := Rf_brd ((stp_of c124_8).trans rfl)
theorem c124_20 : cd 124 20 = some (20, .iconst (-1), 1, []) := by decide +kernel
theorem x124_20 {d : Nat} {a0 a1 a2 a3 : Value} {h : AHp} : Rf d 124 20 [a0, a1, a2, a3] [] h = Rf d 124 21 [a0, a1, a2, a3] [.int (-1)] h := Rf_go ((stp_of c124_20).trans rfl)
theorem c124_21 : cd 124 21 = some (21, .ireturn, 1, []) := by decide +kernel
theorem x124_21 {d : Nat} {a0 a1 a2 a3 : Value} {s0 : Int32} {h : AHp} : Rf d 124 21 [a0, a1, a2, a3] [.int s0] h = some (some (.int s0), h) := Rf_end (by rw [stp_of c124_21]; simp only [stpI]; rw [if_pos (show retI (mH 124).2.2.1 s0 = true from retI_int)])
theorem c124_11 : cd 124 11 = some (11, .iload_n 2, 1, []) := by decide +kernel
theorem x124_11 {d : Nat} {a0 a1 a3 : Value} {x : Int32} {h : AHp} : Rf d 124 11 [a0, a1, .int x, a3] [] h = Rf d 124 12 [a0, a1, .int x, a3] [.int x] h := Rf_go ((stp_of c124_11).trans rfl)
theorem c124_12 : cd 124 12 = some (12, .bipush 6, 2, []) := by decide +kernel
theorem x124_12 {d : Nat} {a0 a1 a2 a3 : Value} {s0 : Int32} {h : AHp} : Rf d 124 12 [a0, a1, a2, a3] [.int s0] h = Rf d 124 14 [a0, a1, a2, a3] [.int 6, .int s0] h := Rf_go ((stp_of c124_12).trans rfl)
theorem c124_14 : cd 124 14 = some (14, .invokestatic 39, 3, [(0, 129)]) := by decide +kernel
theorem xc124_14 {d : Nat} {a0 a1 a2 a3 : Value} {s0 : Int32} {s1 : Int32} {h : AHp} {h1 : AHp} {v : Int32} (hq : Rf d 129 0 [.int s1, .int s0] [] h = some (some (.int v), h1)) : Rf (d + 1) 124 14 [a0, a1, a2, a3] [.int s0, .int s1] h = Rf (d + 1) 124 17 [a0, a1, a2, a3] [.int v] h1 := clS (as := [.int s1, .int s0]) c124_14 rfl rfl (by simp [isV]) hq
theorem c124_17 : cd 124 17 = some (17, .ifCond .ne 5, 3, [(22, 0)]) := by decide +kernel
theorem x124_17 {d : Nat} {a0 a1 a2 a3 : Value} {s0 : Int32} {h : AHp} : Rf d 124 17 [a0, a1, a2, a3] [.int s0] h = if s0 = 0 then Rf d 124 20 [a0, a1, a2, a3] [] h else Rf d 124 22 [a0, a1, a2, a3] [] h := Rf_brn ((stp_of c124_17).trans rfl)
theorem c124_22 : cd 124 22 = some (22, .aload_n 0, 1, []) := by decide +kernel
theorem x124_22 {d : Nat} {a1 a2 a3 : Value} {x : Nat} {h : AHp} : Rf d 124 22 [.ref x, a1, a2, a3] [] h = Rf d 124 23 [.ref x, a1, a2, a3] [.ref x] h := Rf_go ((stp_of c124_22).trans rfl)
theorem c124_23 : cd 124 23 = some (23, .getfield 10, 3, [(11, 0)]) := by decide +kernel
theorem x124_23 {d : Nat} {a0 a1 a2 a3 : Value} {s0 : Nat} {h : AHp} : Rf d 124 23 [a0, a1, a2, a3] [.ref s0] h = if cls (h.1 s0) = 11 ∧ oKr (h.1 s0) 0 = true then Rf d 124 26 [a0, a1, a2, a3] [.ref (oR (h.1 s0) 0)] h else Rx d 124 23 [a0, a1, a2, a3] [.ref s0] h := getR c124_23
theorem c124_26 : cd 124 26 = some (26, .getfield 127, 3, [(6, 7)]) := by decide +kernel
theorem x124_26 {d : Nat} {a0 a1 a2 a3 : Value} {s0 : Nat} {h : AHp} : Rf d 124 26 [a0, a1, a2, a3] [.ref s0] h = if cls (h.1 s0) = 6 ∧ oKr (h.1 s0) 7 = true then Rf d 124 29 [a0, a1, a2, a3] [.ref (oR (h.1 s0) 7)] h else Rx d 124 26 [a0, a1, a2, a3] [.ref s0] h := getR c124_26
theorem c124_29 : cd 124 29 = some (29, .iload_n 1, 1, []) := by decide +kernel
theorem x124_29 {d : Nat} {a0 a2 a3 : Value} {s0 : Nat} {x : Int32} {h : AHp} : Rf d 124 29 [a0, .int x, a2, a3] [.ref s0] h = Rf d 124 30 [a0, .int x, a2, a3] [.int x, .ref s0] h := Rf_go ((stp_of c124_29).trans rfl)
theorem c124_30 : cd 124 30 = some (30, .aaload, 1, []) := by decide +kernel
theorem x124_30 {d : Nat} {a0 a1 a2 a3 : Value} {s0 : Int32} {s1 : Nat} {h : AHp} : Rf d 124 30 [a0, a1, a2, a3] [.int s0, .ref s1] h = if aTq (h.1 s1) = 3 ∧ inB s0 (aN (h.1 s1)) = true ∧ (aG (h.1 s1) s0.toNatClampNeg).isSome = true then Rf d 124 31 [a0, a1, a2, a3] [.ref ((aG (h.1 s1) s0.toNatClampNeg).getD 0)] h else Rx d 124 30 [a0, a1, a2, a3] [.int s0, .ref s1] h := ldQ c124_30
theorem c124_31 : cd 124 31 = some (31, .astore_n 3, 1, []) := by decide +kernel
theorem x124_31 {d : Nat} {a0 a1 a2 a3 : Value} {s0 : Nat} {h : AHp} : Rf d 124 31 [a0, a1, a2, a3] [.ref s0] h = Rf d 124 32 [a0, a1, a2, .ref s0] [] h := Rf_go ((stp_of c124_31).trans rfl)
theorem c124_32 : cd 124 32 = some (32, .aload_n 3, 1, []) := by decide +kernel
theorem x124_32 {d : Nat} {a0 a1 a2 : Value} {x : Nat} {h : AHp} : Rf d 124 32 [a0, a1, a2, .ref x] [] h = Rf d 124 33 [a0, a1, a2, .ref x] [.ref x] h := Rf_go ((stp_of c124_32).trans rfl)
theorem c124_33 : cd 124 33 = some (33, .iload_n 2, 1, []) := by decide +kernel
theorem x124_33 {d : Nat} {a0 a1 a3 : Value} {s0 : Nat} {x : Int32} {h : AHp} : Rf d 124 33 [a0, a1, .int x, a3] [.ref s0] h = Rf d 124 34 [a0, a1, .int x, a3] [.int x, .ref s0] h := Rf_go ((stp_of c124_33).trans rfl)
theorem c124_34 : cd 124 34 = some (34, .invokestatic 239, 3, [(0, 125)]) := by decide +kernel
theorem xc124_34 {d : Nat} {a0 a1 a2 a3 : Value} {s0 : Int32} {s1 : Nat} {h : AHp} {h1 : AHp} {v : Int32} (hq : Rf d 125 0 [.ref s1, .int s0] [] h = some (some (.int v), h1)) : Rf (d + 1) 124 34 [a0, a1, a2, a3] [.int s0, .ref s1] h = Rf (d + 1) 124 37 [a0, a1, a2, a3] [.int v] h1 := clS (as := [.ref s1, .int s0]) c124_34 rfl rfl (by simp [isV]) hq
theorem c124_37 : cd 124 37 = some (37, .ifCond .eq 10, 3, [(47, 0)]) := by decide +kernel
theorem x124_37 {d : Nat} {a0 a1 a2 a3 : Value} {s0 : Int32} {h : AHp} : Rf d 124 37 [a0, a1, a2, a3] [.int s0] h = if s0 = 0 then Rf d 124 47 [a0, a1, a2, a3] [] h else Rf d 124 40 [a0, a1, a2, a3] [] h := Rf_brd ((stp_of c124_37).trans rfl)
theorem c124_47 : cd 124 47 = some (47, .bipush (-6), 2, []) := by decide +kernel
theorem x124_47 {d : Nat} {a0 a1 a2 a3 : Value} {h : AHp} : Rf d 124 47 [a0, a1, a2, a3] [] h = Rf d 124 49 [a0, a1, a2, a3] [.int (-6)] h := Rf_go ((stp_of c124_47).trans rfl)
theorem c124_49 : cd 124 49 = some (49, .ireturn, 1, []) := by decide +kernel
theorem x124_49 {d : Nat} {a0 a1 a2 a3 : Value} {s0 : Int32} {h : AHp} : Rf d 124 49 [a0, a1, a2, a3] [.int s0] h = some (some (.int s0), h) := Rf_end (by rw [stp_of c124_49]; simp only [stpI]; rw [if_pos (show retI (mH 124).2.2.1 s0 = true from retI_int)])
theorem c124_40 : cd 124 40 = some (40, .aload_n 3, 1, []) := by decide +kernel
theorem x124_40 {d : Nat} {a0 a1 a2 : Value} {x : Nat} {h : AHp} : Rf d 124 40 [a0, a1, a2, .ref x] [] h = Rf d 124 41 [a0, a1, a2, .ref x] [.ref x] h := Rf_go ((stp_of c124_40).trans rfl)
theorem c124_41 : cd 124 41 = some (41, .getfield 136, 3, [(0, 1), (1, 1), (2, 1), (4, 1), (5, 1), (8, 1), (9, 1)]) := by decide +kernel
theorem x124_41 {d : Nat} {a0 a1 a2 a3 : Value} {s0 : Nat} {h : AHp} : Rf d 124 41 [a0, a1, a2, a3] [.ref s0] h = if fIx [(0, 1), (1, 1), (2, 1), (4, 1), (5, 1), (8, 1), (9, 1)] (cls (h.1 s0)) = some 1 ∧ oKi (h.1 s0) 1 = true then Rf d 124 44 [a0, a1, a2, a3] [.int (oN (h.1 s0) 1)] h else Rx d 124 41 [a0, a1, a2, a3] [.ref s0] h := getIk c124_41
theorem c124_44 : cd 124 44 = some (44, .goto 5, 3, [(49, 0)]) := by decide +kernel
theorem x124_44 {d : Nat} {a0 a1 a2 a3 : Value} {s0 : Int32} {h : AHp} : Rf d 124 44 [a0, a1, a2, a3] [.int s0] h = Rf d 124 49 [a0, a1, a2, a3] [.int s0] h := Rf_go ((stp_of c124_44).trans rfl)
-- 125: X11_isOf
theorem c125_0 : cd 125 0 = some (0, .iload_n 1, 1, []) := by decide +kernel
theorem x125_0 {d : Nat} {a0 : Value} {x : Int32} {h : AHp} : Rf d 125 0 [a0, .int x] [] h = Rf d 125 1 [a0, .int x] [.int x] h := Rf_go ((stp_of c125_0).trans rfl)
theorem c125_1 : cd 125 1 = some (1, .tableswitch 69 1 6 #[39, 44, 49, 54, 59, 64], 39, [(0, 70), (1, 40), (2, 45), (3, 50), (4, 55), (5, 60), (6, 65)]) := by decide +kernel
theorem x125_1 {d : Nat} {a0 a1 : Value} {s0 : Int32} {h : AHp} : Rf d 125 1 [a0, a1] [.int s0] h = if s0 = 1 then Rf d 125 40 [a0, a1] [] h else (if s0 = 2 then Rf d 125 45 [a0, a1] [] h else (if s0 = 3 then Rf d 125 50 [a0, a1] [] h else (if s0 = 4 then Rf d 125 55 [a0, a1] [] h else (if s0 = 5 then Rf d 125 60 [a0, a1] [] h else (if s0 = 6 then Rf d 125 65 [a0, a1] [] h else (Rf d 125 70 [a0, a1] [] h)))))) := (swE (e := 70) c125_1 rfl).trans (by simp only [List.drop, swT, Rf_ite]; rfl)
theorem c125_65 : cd 125 65 = some (65, .aload_n 0, 1, []) := by decide +kernel
theorem x125_65 {d : Nat} {a1 : Value} {x : Nat} {h : AHp} : Rf d 125 65 [.ref x, a1] [] h = Rf d 125 66 [.ref x, a1] [.ref x] h := Rf_go ((stp_of c125_65).trans rfl)
theorem c125_66 : cd 125 66 = some (66, .instanceof 253, 3, [(0, 1), (1, 0), (2, 0), (4, 0), (5, 0), (8, 0), (9, 0), (200, 0)]) := by decide +kernel
theorem x125_66 {d : Nat} {a0 a1 : Value} {s0 : Nat} {h : AHp} : Rf d 125 66 [a0, a1] [.ref s0] h = if (fIx [(0, 1), (1, 0), (2, 0), (4, 0), (5, 0), (8, 0), (9, 0), (200, 0)] (cls (h.1 s0))).isSome = true then Rf d 125 69 [a0, a1] [.int (nI ((fIx [(0, 1), (1, 0), (2, 0), (4, 0), (5, 0), (8, 0), (9, 0), (200, 0)] (cls (h.1 s0))).getD 0))] h else Rx d 125 66 [a0, a1] [.ref s0] h := insI (b := 0) c125_66
theorem c125_69 : cd 125 69 = some (69, .ireturn, 1, []) := by decide +kernel
theorem x125_69 {d : Nat} {a0 a1 : Value} {s0 : Int32} {h : AHp} : Rf d 125 69 [a0, a1] [.int s0] h = if retI (some .boolean) s0 = true then some (some (.int s0), h) else Rx d 125 69 [a0, a1] [.int s0] h := Rf_ife (fun hk => by rw [stp_of c125_69]; exact if_pos hk)
theorem c125_60 : cd 125 60 = some (60, .aload_n 0, 1, []) := by decide +kernel
theorem x125_60 {d : Nat} {a1 : Value} {x : Nat} {h : AHp} : Rf d 125 60 [.ref x, a1] [] h = Rf d 125 61 [.ref x, a1] [.ref x] h := Rf_go ((stp_of c125_60).trans rfl)
theorem c125_61 : cd 125 61 = some (61, .instanceof 251, 3, [(0, 0), (1, 0), (2, 0), (4, 0), (5, 0), (8, 1), (9, 0), (200, 8)]) := by decide +kernel
theorem x125_61 {d : Nat} {a0 a1 : Value} {s0 : Nat} {h : AHp} : Rf d 125 61 [a0, a1] [.ref s0] h = if (fIx [(0, 0), (1, 0), (2, 0), (4, 0), (5, 0), (8, 1), (9, 0), (200, 8)] (cls (h.1 s0))).isSome = true then Rf d 125 64 [a0, a1] [.int (nI ((fIx [(0, 0), (1, 0), (2, 0), (4, 0), (5, 0), (8, 1), (9, 0), (200, 8)] (cls (h.1 s0))).getD 0))] h else Rx d 125 61 [a0, a1] [.ref s0] h := insI (b := 0) c125_61
theorem c125_64 : cd 125 64 = some (64, .ireturn, 1, []) := by decide +kernel
theorem x125_64 {d : Nat} {a0 a1 : Value} {s0 : Int32} {h : AHp} : Rf d 125 64 [a0, a1] [.int s0] h = if retI (some .boolean) s0 = true then some (some (.int s0), h) else Rx d 125 64 [a0, a1] [.int s0] h := Rf_ife (fun hk => by rw [stp_of c125_64]; exact if_pos hk)
theorem c125_55 : cd 125 55 = some (55, .aload_n 0, 1, []) := by decide +kernel
theorem x125_55 {d : Nat} {a1 : Value} {x : Nat} {h : AHp} : Rf d 125 55 [.ref x, a1] [] h = Rf d 125 56 [.ref x, a1] [.ref x] h := Rf_go ((stp_of c125_55).trans rfl)
theorem c125_56 : cd 125 56 = some (56, .instanceof 249, 3, [(0, 0), (1, 1), (2, 0), (4, 0), (5, 0), (8, 0), (9, 0), (200, 1)]) := by decide +kernel
theorem x125_56 {d : Nat} {a0 a1 : Value} {s0 : Nat} {h : AHp} : Rf d 125 56 [a0, a1] [.ref s0] h = if (fIx [(0, 0), (1, 1), (2, 0), (4, 0), (5, 0), (8, 0), (9, 0), (200, 1)] (cls (h.1 s0))).isSome = true then Rf d 125 59 [a0, a1] [.int (nI ((fIx [(0, 0), (1, 1), (2, 0), (4, 0), (5, 0), (8, 0), (9, 0), (200, 1)] (cls (h.1 s0))).getD 0))] h else Rx d 125 56 [a0, a1] [.ref s0] h := insI (b := 0) c125_56
theorem c125_59 : cd 125 59 = some (59, .ireturn, 1, []) := by decide +kernel
theorem x125_59 {d : Nat} {a0 a1 : Value} {s0 : Int32} {h : AHp} : Rf d 125 59 [a0, a1] [.int s0] h = if retI (some .boolean) s0 = true then some (some (.int s0), h) else Rx d 125 59 [a0, a1] [.int s0] h := Rf_ife (fun hk => by rw [stp_of c125_59]; exact if_pos hk)
theorem c125_50 : cd 125 50 = some (50, .aload_n 0, 1, []) := by decide +kernel
theorem x125_50 {d : Nat} {a1 : Value} {x : Nat} {h : AHp} : Rf d 125 50 [.ref x, a1] [] h = Rf d 125 51 [.ref x, a1] [.ref x] h := Rf_go ((stp_of c125_50).trans rfl)
theorem c125_51 : cd 125 51 = some (51, .instanceof 247, 3, [(0, 1), (1, 0), (2, 0), (4, 0), (5, 0), (8, 0), (9, 1), (200, 9)]) := by decide +kernel
theorem x125_51 {d : Nat} {a0 a1 : Value} {s0 : Nat} {h : AHp} : Rf d 125 51 [a0, a1] [.ref s0] h = if (fIx [(0, 1), (1, 0), (2, 0), (4, 0), (5, 0), (8, 0), (9, 1), (200, 9)] (cls (h.1 s0))).isSome = true then Rf d 125 54 [a0, a1] [.int (nI ((fIx [(0, 1), (1, 0), (2, 0), (4, 0), (5, 0), (8, 0), (9, 1), (200, 9)] (cls (h.1 s0))).getD 0))] h else Rx d 125 51 [a0, a1] [.ref s0] h := insI (b := 0) c125_51
theorem c125_54 : cd 125 54 = some (54, .ireturn, 1, []) := by decide +kernel
theorem x125_54 {d : Nat} {a0 a1 : Value} {s0 : Int32} {h : AHp} : Rf d 125 54 [a0, a1] [.int s0] h = if retI (some .boolean) s0 = true then some (some (.int s0), h) else Rx d 125 54 [a0, a1] [.int s0] h := Rf_ife (fun hk => by rw [stp_of c125_54]; exact if_pos hk)
theorem c125_45 : cd 125 45 = some (45, .aload_n 0, 1, []) := by decide +kernel
theorem x125_45 {d : Nat} {a1 : Value} {x : Nat} {h : AHp} : Rf d 125 45 [.ref x, a1] [] h = Rf d 125 46 [.ref x, a1] [.ref x] h := Rf_go ((stp_of c125_45).trans rfl)
theorem c125_46 : cd 125 46 = some (46, .instanceof 245, 3, [(0, 0), (1, 0), (2, 0), (4, 0), (5, 1), (8, 1), (9, 0), (200, 5)]) := by decide +kernel
theorem x125_46 {d : Nat} {a0 a1 : Value} {s0 : Nat} {h : AHp} : Rf d 125 46 [a0, a1] [.ref s0] h = if (fIx [(0, 0), (1, 0), (2, 0), (4, 0), (5, 1), (8, 1), (9, 0), (200, 5)] (cls (h.1 s0))).isSome = true then Rf d 125 49 [a0, a1] [.int (nI ((fIx [(0, 0), (1, 0), (2, 0), (4, 0), (5, 1), (8, 1), (9, 0), (200, 5)] (cls (h.1 s0))).getD 0))] h else Rx d 125 46 [a0, a1] [.ref s0] h := insI (b := 0) c125_46
theorem c125_49 : cd 125 49 = some (49, .ireturn, 1, []) := by decide +kernel
theorem x125_49 {d : Nat} {a0 a1 : Value} {s0 : Int32} {h : AHp} : Rf d 125 49 [a0, a1] [.int s0] h = if retI (some .boolean) s0 = true then some (some (.int s0), h) else Rx d 125 49 [a0, a1] [.int s0] h := Rf_ife (fun hk => by rw [stp_of c125_49]; exact if_pos hk)
theorem c125_40 : cd 125 40 = some (40, .aload_n 0, 1, []) := by decide +kernel
theorem x125_40 {d : Nat} {a1 : Value} {x : Nat} {h : AHp} : Rf d 125 40 [.ref x, a1] [] h = Rf d 125 41 [.ref x, a1] [.ref x] h := Rf_go ((stp_of c125_40).trans rfl)
theorem c125_41 : cd 125 41 = some (41, .instanceof 243, 3, [(0, 0), (1, 1), (2, 1), (4, 0), (5, 0), (8, 0), (9, 0), (200, 2)]) := by decide +kernel
theorem x125_41 {d : Nat} {a0 a1 : Value} {s0 : Nat} {h : AHp} : Rf d 125 41 [a0, a1] [.ref s0] h = if (fIx [(0, 0), (1, 1), (2, 1), (4, 0), (5, 0), (8, 0), (9, 0), (200, 2)] (cls (h.1 s0))).isSome = true then Rf d 125 44 [a0, a1] [.int (nI ((fIx [(0, 0), (1, 1), (2, 1), (4, 0), (5, 0), (8, 0), (9, 0), (200, 2)] (cls (h.1 s0))).getD 0))] h else Rx d 125 41 [a0, a1] [.ref s0] h := insI (b := 0) c125_41
theorem c125_44 : cd 125 44 = some (44, .ireturn, 1, []) := by decide +kernel
theorem x125_44 {d : Nat} {a0 a1 : Value} {s0 : Int32} {h : AHp} : Rf d 125 44 [a0, a1] [.int s0] h = if retI (some .boolean) s0 = true then some (some (.int s0), h) else Rx d 125 44 [a0, a1] [.int s0] h := Rf_ife (fun hk => by rw [stp_of c125_44]; exact if_pos hk)
theorem c125_70 : cd 125 70 = some (70, .iconst 1, 1, []) := by decide +kernel
theorem x125_70 {d : Nat} {a0 a1 : Value} {h : AHp} : Rf d 125 70 [a0, a1] [] h = Rf d 125 71 [a0, a1] [.int 1] h := Rf_go ((stp_of c125_70).trans rfl)
theorem c125_71 : cd 125 71 = some (71, .ireturn, 1, []) := by decide +kernel
theorem x125_71 {d : Nat} {a0 a1 : Value} {s0 : Int32} {h : AHp} : Rf d 125 71 [a0, a1] [.int s0] h = if retI (some .boolean) s0 = true then some (some (.int s0), h) else Rx d 125 71 [a0, a1] [.int s0] h := Rf_ife (fun hk => by rw [stp_of c125_71]; exact if_pos hk)
-- 126: X11_image
theorem c126_0 : cd 126 0 = some (0, .aload_n 0, 1, []) := by decide +kernel
theorem x126_0 {d : Nat} {x : Nat} {h : AHp} : Rf d 126 0 [.ref x] [] h = Rf d 126 1 [.ref x] [.ref x] h := Rf_go ((stp_of c126_0).trans rfl)
theorem c126_1 : cd 126 1 = some (1, .getfield 23, 3, [(11, 2)]) := by decide +kernel
theorem x126_1 {d : Nat} {a0 : Value} {s0 : Nat} {h : AHp} : Rf d 126 1 [a0] [.ref s0] h = if cls (h.1 s0) = 11 ∧ oKr (h.1 s0) 2 = true then Rf d 126 4 [a0] [.ref (oR (h.1 s0) 2)] h else Rx d 126 1 [a0] [.ref s0] h := getR c126_1
theorem c126_4 : cd 126 4 = some (4, .aload_n 0, 1, []) := by decide +kernel
theorem x126_4 {d : Nat} {s0 : Nat} {x : Nat} {h : AHp} : Rf d 126 4 [.ref x] [.ref s0] h = Rf d 126 5 [.ref x] [.ref x, .ref s0] h := Rf_go ((stp_of c126_4).trans rfl)
theorem c126_5 : cd 126 5 = some (5, .getfield 10, 3, [(11, 0)]) := by decide +kernel
theorem x126_5 {d : Nat} {a0 : Value} {s0 : Nat} {s1 : Nat} {h : AHp} : Rf d 126 5 [a0] [.ref s0, .ref s1] h = if cls (h.1 s0) = 11 ∧ oKr (h.1 s0) 0 = true then Rf d 126 8 [a0] [.ref (oR (h.1 s0) 0), .ref s1] h else Rx d 126 5 [a0] [.ref s0, .ref s1] h := getR c126_5
theorem c126_8 : cd 126 8 = some (8, .invokevirtual 167, 3, [(6, 40)]) := by decide +kernel
theorem xc126_8 {d : Nat} {a0 : Value} {s0 : Nat} {s1 : Nat} {h : AHp} {h1 : AHp} (hr : cls (h.1 s1) = 6) (hq : Rf d 40 0 [.ref s1, .ref s0, noV] [] h = some (none, h1)) : Rf (d + 1) 126 8 [a0] [.ref s0, .ref s1] h = Rf (d + 1) 126 11 [a0] [] h1 := clV (c := 40) (as := [.ref s0]) c126_8 rfl (by simp [isV]) (by rw [hr]; rfl) hq
theorem c126_11 : cd 126 11 = some (11, .aload_n 0, 1, []) := by decide +kernel
theorem x126_11 {d : Nat} {x : Nat} {h : AHp} : Rf d 126 11 [.ref x] [] h = Rf d 126 12 [.ref x] [.ref x] h := Rf_go ((stp_of c126_11).trans rfl)
theorem c126_12 : cd 126 12 = some (12, .getfield 26, 3, [(11, 3)]) := by decide +kernel
theorem x126_12 {d : Nat} {a0 : Value} {s0 : Nat} {h : AHp} : Rf d 126 12 [a0] [.ref s0] h = if cls (h.1 s0) = 11 ∧ oKr (h.1 s0) 3 = true then Rf d 126 15 [a0] [.ref (oR (h.1 s0) 3)] h else Rx d 126 12 [a0] [.ref s0] h := getR c126_12
theorem c126_15 : cd 126 15 = some (15, .aload_n 0, 1, []) := by decide +kernel
theorem x126_15 {d : Nat} {s0 : Nat} {x : Nat} {h : AHp} : Rf d 126 15 [.ref x] [.ref s0] h = Rf d 126 16 [.ref x] [.ref x, .ref s0] h := Rf_go ((stp_of c126_15).trans rfl)
theorem c126_16 : cd 126 16 = some (16, .getfield 19, 3, [(11, 1)]) := by decide +kernel
theorem x126_16 {d : Nat} {a0 : Value} {s0 : Nat} {s1 : Nat} {h : AHp} : Rf d 126 16 [a0] [.ref s0, .ref s1] h = if cls (h.1 s0) = 11 ∧ oKr (h.1 s0) 1 = true then Rf d 126 19 [a0] [.ref (oR (h.1 s0) 1), .ref s1] h else Rx d 126 16 [a0] [.ref s0, .ref s1] h := getR c126_16
theorem c126_19 : cd 126 19 = some (19, .invokevirtual 255, 3, [(7, 77)]) := by decide +kernel
theorem xc126_19 {d : Nat} {a0 : Value} {s0 : Nat} {s1 : Nat} {h : AHp} {h1 : AHp} (hr : cls (h.1 s1) = 7) (hq : Rf d 77 0 [.ref s1, .ref s0] [] h = some (none, h1)) : Rf (d + 1) 126 19 [a0] [.ref s0, .ref s1] h = Rf (d + 1) 126 22 [a0] [] h1 := clV (c := 77) (as := [.ref s0]) c126_19 rfl (by simp [isV]) (by rw [hr]; rfl) hq
theorem c126_22 : cd 126 22 = some (22, .aload_n 0, 1, []) := by decide +kernel
theorem x126_22 {d : Nat} {x : Nat} {h : AHp} : Rf d 126 22 [.ref x] [] h = Rf d 126 23 [.ref x] [.ref x] h := Rf_go ((stp_of c126_22).trans rfl)
theorem c126_23 : cd 126 23 = some (23, .iconst 1, 1, []) := by decide +kernel
theorem x126_23 {d : Nat} {a0 : Value} {s0 : Nat} {h : AHp} : Rf d 126 23 [a0] [.ref s0] h = Rf d 126 24 [a0] [.int 1, .ref s0] h := Rf_go ((stp_of c126_23).trans rfl)
theorem c126_24 : cd 126 24 = some (24, .putfield 258, 3, [(11, 6)]) := by decide +kernel
theorem x126_24 {d : Nat} {a0 : Value} {s0 : Int32} {s1 : Nat} {h : AHp} (hz : s0 = 0 ∨ s0 = 1) : Rf d 126 24 [a0] [.int s0, .ref s1] h = if cls (h.1 s1) = 11 ∧ oL (h.1 s1) = 7 then Rf d 126 27 [a0] [] (hset h s1 (oSet (h.1 s1) 6 (.int s0))) else Rx d 126 24 [a0] [.int s0, .ref s1] h := putV c126_24 rfl (fMay_z (by decide +kernel) hz)
theorem c126_27 : cd 126 27 = some (27, .aload_n 0, 1, []) := by decide +kernel
theorem x126_27 {d : Nat} {x : Nat} {h : AHp} : Rf d 126 27 [.ref x] [] h = Rf d 126 28 [.ref x] [.ref x] h := Rf_go ((stp_of c126_27).trans rfl)
theorem c126_28 : cd 126 28 = some (28, .getfield 10, 3, [(11, 0)]) := by decide +kernel
theorem x126_28 {d : Nat} {a0 : Value} {s0 : Nat} {h : AHp} : Rf d 126 28 [a0] [.ref s0] h = if cls (h.1 s0) = 11 ∧ oKr (h.1 s0) 0 = true then Rf d 126 31 [a0] [.ref (oR (h.1 s0) 0)] h else Rx d 126 28 [a0] [.ref s0] h := getR c126_28
theorem c126_31 : cd 126 31 = some (31, .getfield 97, 3, [(6, 0)]) := by decide +kernel
theorem x126_31 {d : Nat} {a0 : Value} {s0 : Nat} {h : AHp} : Rf d 126 31 [a0] [.ref s0] h = if cls (h.1 s0) = 6 ∧ oKi (h.1 s0) 0 = true then Rf d 126 34 [a0] [.int (oN (h.1 s0) 0)] h else Rx d 126 31 [a0] [.ref s0] h := getI c126_31
theorem c126_34 : cd 126 34 = some (34, .ireturn, 1, []) := by decide +kernel
theorem x126_34 {d : Nat} {a0 : Value} {s0 : Int32} {h : AHp} : Rf d 126 34 [a0] [.int s0] h = some (some (.int s0), h) := Rf_end (by rw [stp_of c126_34]; simp only [stpI]; rw [if_pos (show retI (mH 126).2.2.1 s0 = true from retI_int)])
-- 127: X11_undo
theorem c127_0 : cd 127 0 = some (0, .aload_n 0, 1, []) := by decide +kernel
theorem x127_0 {d : Nat} {x : Nat} {h : AHp} : Rf d 127 0 [.ref x] [] h = Rf d 127 1 [.ref x] [.ref x] h := Rf_go ((stp_of c127_0).trans rfl)
theorem c127_1 : cd 127 1 = some (1, .getfield 258, 3, [(11, 6)]) := by decide +kernel
theorem x127_1 {d : Nat} {a0 : Value} {s0 : Nat} {h : AHp} : Rf d 127 1 [a0] [.ref s0] h = if cls (h.1 s0) = 11 ∧ oKi (h.1 s0) 6 = true then Rf d 127 4 [a0] [.int (oN (h.1 s0) 6)] h else Rx d 127 1 [a0] [.ref s0] h := getI c127_1
theorem c127_4 : cd 127 4 = some (4, .ifCond .ne 6, 3, [(10, 0)]) := by decide +kernel
theorem x127_4 {d : Nat} {a0 : Value} {s0 : Int32} {h : AHp} : Rf d 127 4 [a0] [.int s0] h = if s0 = 0 then Rf d 127 7 [a0] [] h else Rf d 127 10 [a0] [] h := Rf_brn ((stp_of c127_4).trans rfl)
theorem c127_10 : cd 127 10 = some (10, .aload_n 0, 1, []) := by decide +kernel
theorem x127_10 {d : Nat} {x : Nat} {h : AHp} : Rf d 127 10 [.ref x] [] h = Rf d 127 11 [.ref x] [.ref x] h := Rf_go ((stp_of c127_10).trans rfl)
theorem c127_11 : cd 127 11 = some (11, .getfield 10, 3, [(11, 0)]) := by decide +kernel
theorem x127_11 {d : Nat} {a0 : Value} {s0 : Nat} {h : AHp} : Rf d 127 11 [a0] [.ref s0] h = if cls (h.1 s0) = 11 ∧ oKr (h.1 s0) 0 = true then Rf d 127 14 [a0] [.ref (oR (h.1 s0) 0)] h else Rx d 127 11 [a0] [.ref s0] h := getR c127_11
theorem c127_14 : cd 127 14 = some (14, .aload_n 0, 1, []) := by decide +kernel
theorem x127_14 {d : Nat} {s0 : Nat} {x : Nat} {h : AHp} : Rf d 127 14 [.ref x] [.ref s0] h = Rf d 127 15 [.ref x] [.ref x, .ref s0] h := Rf_go ((stp_of c127_14).trans rfl)
theorem c127_15 : cd 127 15 = some (15, .getfield 23, 3, [(11, 2)]) := by decide +kernel
theorem x127_15 {d : Nat} {a0 : Value} {s0 : Nat} {s1 : Nat} {h : AHp} : Rf d 127 15 [a0] [.ref s0, .ref s1] h = if cls (h.1 s0) = 11 ∧ oKr (h.1 s0) 2 = true then Rf d 127 18 [a0] [.ref (oR (h.1 s0) 2), .ref s1] h else Rx d 127 15 [a0] [.ref s0, .ref s1] h := getR c127_15
theorem c127_18 : cd 127 18 = some (18, .invokevirtual 167, 3, [(6, 40)]) := by decide +kernel
theorem xc127_18 {d : Nat} {a0 : Value} {s0 : Nat} {s1 : Nat} {h : AHp} {h1 : AHp} (hr : cls (h.1 s1) = 6) (hq : Rf d 40 0 [.ref s1, .ref s0, noV] [] h = some (none, h1)) : Rf (d + 1) 127 18 [a0] [.ref s0, .ref s1] h = Rf (d + 1) 127 21 [a0] [] h1 := clV (c := 40) (as := [.ref s0]) c127_18 rfl (by simp [isV]) (by rw [hr]; rfl) hq
theorem c127_21 : cd 127 21 = some (21, .aload_n 0, 1, []) := by decide +kernel
theorem x127_21 {d : Nat} {x : Nat} {h : AHp} : Rf d 127 21 [.ref x] [] h = Rf d 127 22 [.ref x] [.ref x] h := Rf_go ((stp_of c127_21).trans rfl)
theorem c127_22 : cd 127 22 = some (22, .getfield 19, 3, [(11, 1)]) := by decide +kernel
theorem x127_22 {d : Nat} {a0 : Value} {s0 : Nat} {h : AHp} : Rf d 127 22 [a0] [.ref s0] h = if cls (h.1 s0) = 11 ∧ oKr (h.1 s0) 1 = true then Rf d 127 25 [a0] [.ref (oR (h.1 s0) 1)] h else Rx d 127 22 [a0] [.ref s0] h := getR c127_22
theorem c127_25 : cd 127 25 = some (25, .aload_n 0, 1, []) := by decide +kernel
theorem x127_25 {d : Nat} {s0 : Nat} {x : Nat} {h : AHp} : Rf d 127 25 [.ref x] [.ref s0] h = Rf d 127 26 [.ref x] [.ref x, .ref s0] h := Rf_go ((stp_of c127_25).trans rfl)
theorem c127_26 : cd 127 26 = some (26, .getfield 26, 3, [(11, 3)]) := by decide +kernel
theorem x127_26 {d : Nat} {a0 : Value} {s0 : Nat} {s1 : Nat} {h : AHp} : Rf d 127 26 [a0] [.ref s0, .ref s1] h = if cls (h.1 s0) = 11 ∧ oKr (h.1 s0) 3 = true then Rf d 127 29 [a0] [.ref (oR (h.1 s0) 3), .ref s1] h else Rx d 127 26 [a0] [.ref s0, .ref s1] h := getR c127_26
theorem c127_29 : cd 127 29 = some (29, .invokevirtual 255, 3, [(7, 77)]) := by decide +kernel
theorem xc127_29 {d : Nat} {a0 : Value} {s0 : Nat} {s1 : Nat} {h : AHp} {h1 : AHp} (hr : cls (h.1 s1) = 7) (hq : Rf d 77 0 [.ref s1, .ref s0] [] h = some (none, h1)) : Rf (d + 1) 127 29 [a0] [.ref s0, .ref s1] h = Rf (d + 1) 127 32 [a0] [] h1 := clV (c := 77) (as := [.ref s0]) c127_29 rfl (by simp [isV]) (by rw [hr]; rfl) hq
theorem c127_32 : cd 127 32 = some (32, .aload_n 0, 1, []) := by decide +kernel
theorem x127_32 {d : Nat} {x : Nat} {h : AHp} : Rf d 127 32 [.ref x] [] h = Rf d 127 33 [.ref x] [.ref x] h := Rf_go ((stp_of c127_32).trans rfl)
theorem c127_33 : cd 127 33 = some (33, .getfield 10, 3, [(11, 0)]) := by decide +kernel
theorem x127_33 {d : Nat} {a0 : Value} {s0 : Nat} {h : AHp} : Rf d 127 33 [a0] [.ref s0] h = if cls (h.1 s0) = 11 ∧ oKr (h.1 s0) 0 = true then Rf d 127 36 [a0] [.ref (oR (h.1 s0) 0)] h else Rx d 127 33 [a0] [.ref s0] h := getR c127_33
theorem c127_36 : cd 127 36 = some (36, .getfield 97, 3, [(6, 0)]) := by decide +kernel
theorem x127_36 {d : Nat} {a0 : Value} {s0 : Nat} {h : AHp} : Rf d 127 36 [a0] [.ref s0] h = if cls (h.1 s0) = 6 ∧ oKi (h.1 s0) 0 = true then Rf d 127 39 [a0] [.int (oN (h.1 s0) 0)] h else Rx d 127 36 [a0] [.ref s0] h := getI c127_36
theorem c127_39 : cd 127 39 = some (39, .ireturn, 1, []) := by decide +kernel
theorem x127_39 {d : Nat} {a0 : Value} {s0 : Int32} {h : AHp} : Rf d 127 39 [a0] [.int s0] h = some (some (.int s0), h) := Rf_end (by rw [stp_of c127_39]; simp only [stpI]; rw [if_pos (show retI (mH 127).2.2.1 s0 = true from retI_int)])
theorem c127_7 : cd 127 7 = some (7, .bipush (-3), 2, []) := by decide +kernel
theorem x127_7 {d : Nat} {a0 : Value} {h : AHp} : Rf d 127 7 [a0] [] h = Rf d 127 9 [a0] [.int (-3)] h := Rf_go ((stp_of c127_7).trans rfl)
theorem c127_9 : cd 127 9 = some (9, .ireturn, 1, []) := by decide +kernel
theorem x127_9 {d : Nat} {a0 : Value} {s0 : Int32} {h : AHp} : Rf d 127 9 [a0] [.int s0] h = some (some (.int s0), h) := Rf_end (by rw [stp_of c127_9]; simp only [stpI]; rw [if_pos (show retI (mH 127).2.2.1 s0 = true from retI_int)])
-- 128: X11_count
theorem c128_0 : cd 128 0 = some (0, .iload_n 1, 1, []) := by decide +kernel
theorem x128_0 {d : Nat} {a0 : Value} {x : Int32} {h : AHp} : Rf d 128 0 [a0, .int x] [] h = Rf d 128 1 [a0, .int x] [.int x] h := Rf_go ((stp_of c128_0).trans rfl)
theorem c128_1 : cd 128 1 = some (1, .tableswitch 87 0 5 #[39, 47, 55, 63, 71, 79], 39, [(0, 88), (0, 40), (1, 48), (2, 56), (3, 64), (4, 72), (5, 80)]) := by decide +kernel
theorem x128_1 {d : Nat} {a0 a1 : Value} {s0 : Int32} {h : AHp} : Rf d 128 1 [a0, a1] [.int s0] h = if s0 = 0 then Rf d 128 40 [a0, a1] [] h else (if s0 = 1 then Rf d 128 48 [a0, a1] [] h else (if s0 = 2 then Rf d 128 56 [a0, a1] [] h else (if s0 = 3 then Rf d 128 64 [a0, a1] [] h else (if s0 = 4 then Rf d 128 72 [a0, a1] [] h else (if s0 = 5 then Rf d 128 80 [a0, a1] [] h else (Rf d 128 88 [a0, a1] [] h)))))) := (swE (e := 88) c128_1 rfl).trans (by simp only [List.drop, swT, Rf_ite]; rfl)
theorem c128_80 : cd 128 80 = some (80, .aload_n 0, 1, []) := by decide +kernel
theorem x128_80 {d : Nat} {a1 : Value} {x : Nat} {h : AHp} : Rf d 128 80 [.ref x, a1] [] h = Rf d 128 81 [.ref x, a1] [.ref x] h := Rf_go ((stp_of c128_80).trans rfl)
theorem c128_81 : cd 128 81 = some (81, .getfield 35, 3, [(11, 5)]) := by decide +kernel
theorem x128_81 {d : Nat} {a0 a1 : Value} {s0 : Nat} {h : AHp} : Rf d 128 81 [a0, a1] [.ref s0] h = if cls (h.1 s0) = 11 ∧ oKr (h.1 s0) 5 = true then Rf d 128 84 [a0, a1] [.ref (oR (h.1 s0) 5)] h else Rx d 128 81 [a0, a1] [.ref s0] h := getR c128_81
theorem c128_84 : cd 128 84 = some (84, .getfield 223, 3, [(10, 1)]) := by decide +kernel
theorem x128_84 {d : Nat} {a0 a1 : Value} {s0 : Nat} {h : AHp} : Rf d 128 84 [a0, a1] [.ref s0] h = if cls (h.1 s0) = 10 ∧ oKi (h.1 s0) 1 = true then Rf d 128 87 [a0, a1] [.int (oN (h.1 s0) 1)] h else Rx d 128 84 [a0, a1] [.ref s0] h := getI c128_84
theorem c128_87 : cd 128 87 = some (87, .ireturn, 1, []) := by decide +kernel
theorem x128_87 {d : Nat} {a0 a1 : Value} {s0 : Int32} {h : AHp} : Rf d 128 87 [a0, a1] [.int s0] h = some (some (.int s0), h) := Rf_end (by rw [stp_of c128_87]; simp only [stpI]; rw [if_pos (show retI (mH 128).2.2.1 s0 = true from retI_int)])
theorem c128_72 : cd 128 72 = some (72, .aload_n 0, 1, []) := by decide +kernel
theorem x128_72 {d : Nat} {a1 : Value} {x : Nat} {h : AHp} : Rf d 128 72 [.ref x, a1] [] h = Rf d 128 73 [.ref x, a1] [.ref x] h := Rf_go ((stp_of c128_72).trans rfl)
theorem c128_73 : cd 128 73 = some (73, .getfield 19, 3, [(11, 1)]) := by decide +kernel
theorem x128_73 {d : Nat} {a0 a1 : Value} {s0 : Nat} {h : AHp} : Rf d 128 73 [a0, a1] [.ref s0] h = if cls (h.1 s0) = 11 ∧ oKr (h.1 s0) 1 = true then Rf d 128 76 [a0, a1] [.ref (oR (h.1 s0) 1)] h else Rx d 128 73 [a0, a1] [.ref s0] h := getR c128_73
theorem c128_76 : cd 128 76 = some (76, .getfield 43, 3, [(7, 1)]) := by decide +kernel
theorem x128_76 {d : Nat} {a0 a1 : Value} {s0 : Nat} {h : AHp} : Rf d 128 76 [a0, a1] [.ref s0] h = if cls (h.1 s0) = 7 ∧ oKi (h.1 s0) 1 = true then Rf d 128 79 [a0, a1] [.int (oN (h.1 s0) 1)] h else Rx d 128 76 [a0, a1] [.ref s0] h := getI c128_76
theorem c128_79 : cd 128 79 = some (79, .ireturn, 1, []) := by decide +kernel
theorem x128_79 {d : Nat} {a0 a1 : Value} {s0 : Int32} {h : AHp} : Rf d 128 79 [a0, a1] [.int s0] h = some (some (.int s0), h) := Rf_end (by rw [stp_of c128_79]; simp only [stpI]; rw [if_pos (show retI (mH 128).2.2.1 s0 = true from retI_int)])
theorem c128_64 : cd 128 64 = some (64, .aload_n 0, 1, []) := by decide +kernel
theorem x128_64 {d : Nat} {a1 : Value} {x : Nat} {h : AHp} : Rf d 128 64 [.ref x, a1] [] h = Rf d 128 65 [.ref x, a1] [.ref x] h := Rf_go ((stp_of c128_64).trans rfl)
theorem c128_65 : cd 128 65 = some (65, .getfield 19, 3, [(11, 1)]) := by decide +kernel
theorem x128_65 {d : Nat} {a0 a1 : Value} {s0 : Nat} {h : AHp} : Rf d 128 65 [a0, a1] [.ref s0] h = if cls (h.1 s0) = 11 ∧ oKr (h.1 s0) 1 = true then Rf d 128 68 [a0, a1] [.ref (oR (h.1 s0) 1)] h else Rx d 128 65 [a0, a1] [.ref s0] h := getR c128_65
theorem c128_68 : cd 128 68 = some (68, .getfield 204, 3, [(7, 8)]) := by decide +kernel
theorem x128_68 {d : Nat} {a0 a1 : Value} {s0 : Nat} {h : AHp} : Rf d 128 68 [a0, a1] [.ref s0] h = if cls (h.1 s0) = 7 ∧ oKi (h.1 s0) 8 = true then Rf d 128 71 [a0, a1] [.int (oN (h.1 s0) 8)] h else Rx d 128 68 [a0, a1] [.ref s0] h := getI c128_68
theorem c128_71 : cd 128 71 = some (71, .ireturn, 1, []) := by decide +kernel
theorem x128_71 {d : Nat} {a0 a1 : Value} {s0 : Int32} {h : AHp} : Rf d 128 71 [a0, a1] [.int s0] h = some (some (.int s0), h) := Rf_end (by rw [stp_of c128_71]; simp only [stpI]; rw [if_pos (show retI (mH 128).2.2.1 s0 = true from retI_int)])
theorem c128_56 : cd 128 56 = some (56, .aload_n 0, 1, []) := by decide +kernel
theorem x128_56 {d : Nat} {a1 : Value} {x : Nat} {h : AHp} : Rf d 128 56 [.ref x, a1] [] h = Rf d 128 57 [.ref x, a1] [.ref x] h := Rf_go ((stp_of c128_56).trans rfl)
theorem c128_57 : cd 128 57 = some (57, .getfield 19, 3, [(11, 1)]) := by decide +kernel
theorem x128_57 {d : Nat} {a0 a1 : Value} {s0 : Nat} {h : AHp} : Rf d 128 57 [a0, a1] [.ref s0] h = if cls (h.1 s0) = 11 ∧ oKr (h.1 s0) 1 = true then Rf d 128 60 [a0, a1] [.ref (oR (h.1 s0) 1)] h else Rx d 128 57 [a0, a1] [.ref s0] h := getR c128_57
theorem c128_60 : cd 128 60 = some (60, .getfield 192, 3, [(7, 6)]) := by decide +kernel
theorem x128_60 {d : Nat} {a0 a1 : Value} {s0 : Nat} {h : AHp} : Rf d 128 60 [a0, a1] [.ref s0] h = if cls (h.1 s0) = 7 ∧ oKi (h.1 s0) 6 = true then Rf d 128 63 [a0, a1] [.int (oN (h.1 s0) 6)] h else Rx d 128 60 [a0, a1] [.ref s0] h := getI c128_60
theorem c128_63 : cd 128 63 = some (63, .ireturn, 1, []) := by decide +kernel
theorem x128_63 {d : Nat} {a0 a1 : Value} {s0 : Int32} {h : AHp} : Rf d 128 63 [a0, a1] [.int s0] h = some (some (.int s0), h) := Rf_end (by rw [stp_of c128_63]; simp only [stpI]; rw [if_pos (show retI (mH 128).2.2.1 s0 = true from retI_int)])
theorem c128_48 : cd 128 48 = some (48, .aload_n 0, 1, []) := by decide +kernel
theorem x128_48 {d : Nat} {a1 : Value} {x : Nat} {h : AHp} : Rf d 128 48 [.ref x, a1] [] h = Rf d 128 49 [.ref x, a1] [.ref x] h := Rf_go ((stp_of c128_48).trans rfl)
theorem c128_49 : cd 128 49 = some (49, .getfield 10, 3, [(11, 0)]) := by decide +kernel
theorem x128_49 {d : Nat} {a0 a1 : Value} {s0 : Nat} {h : AHp} : Rf d 128 49 [a0, a1] [.ref s0] h = if cls (h.1 s0) = 11 ∧ oKr (h.1 s0) 0 = true then Rf d 128 52 [a0, a1] [.ref (oR (h.1 s0) 0)] h else Rx d 128 49 [a0, a1] [.ref s0] h := getR c128_49
theorem c128_52 : cd 128 52 = some (52, .getfield 51, 3, [(6, 10)]) := by decide +kernel
theorem x128_52 {d : Nat} {a0 a1 : Value} {s0 : Nat} {h : AHp} : Rf d 128 52 [a0, a1] [.ref s0] h = if cls (h.1 s0) = 6 ∧ oKi (h.1 s0) 10 = true then Rf d 128 55 [a0, a1] [.int (oN (h.1 s0) 10)] h else Rx d 128 52 [a0, a1] [.ref s0] h := getI c128_52
theorem c128_55 : cd 128 55 = some (55, .ireturn, 1, []) := by decide +kernel
theorem x128_55 {d : Nat} {a0 a1 : Value} {s0 : Int32} {h : AHp} : Rf d 128 55 [a0, a1] [.int s0] h = some (some (.int s0), h) := Rf_end (by rw [stp_of c128_55]; simp only [stpI]; rw [if_pos (show retI (mH 128).2.2.1 s0 = true from retI_int)])
theorem c128_40 : cd 128 40 = some (40, .aload_n 0, 1, []) := by decide +kernel
theorem x128_40 {d : Nat} {a1 : Value} {x : Nat} {h : AHp} : Rf d 128 40 [.ref x, a1] [] h = Rf d 128 41 [.ref x, a1] [.ref x] h := Rf_go ((stp_of c128_40).trans rfl)
theorem c128_41 : cd 128 41 = some (41, .getfield 10, 3, [(11, 0)]) := by decide +kernel
theorem x128_41 {d : Nat} {a0 a1 : Value} {s0 : Nat} {h : AHp} : Rf d 128 41 [a0, a1] [.ref s0] h = if cls (h.1 s0) = 11 ∧ oKr (h.1 s0) 0 = true then Rf d 128 44 [a0, a1] [.ref (oR (h.1 s0) 0)] h else Rx d 128 41 [a0, a1] [.ref s0] h := getR c128_41
theorem c128_44 : cd 128 44 = some (44, .getfield 97, 3, [(6, 0)]) := by decide +kernel
theorem x128_44 {d : Nat} {a0 a1 : Value} {s0 : Nat} {h : AHp} : Rf d 128 44 [a0, a1] [.ref s0] h = if cls (h.1 s0) = 6 ∧ oKi (h.1 s0) 0 = true then Rf d 128 47 [a0, a1] [.int (oN (h.1 s0) 0)] h else Rx d 128 44 [a0, a1] [.ref s0] h := getI c128_44
theorem c128_47 : cd 128 47 = some (47, .ireturn, 1, []) := by decide +kernel
theorem x128_47 {d : Nat} {a0 a1 : Value} {s0 : Int32} {h : AHp} : Rf d 128 47 [a0, a1] [.int s0] h = some (some (.int s0), h) := Rf_end (by rw [stp_of c128_47]; simp only [stpI]; rw [if_pos (show retI (mH 128).2.2.1 s0 = true from retI_int)])
theorem c128_88 : cd 128 88 = some (88, .iconst (-1), 1, []) := by decide +kernel
theorem x128_88 {d : Nat} {a0 a1 : Value} {h : AHp} : Rf d 128 88 [a0, a1] [] h = Rf d 128 89 [a0, a1] [.int (-1)] h := Rf_go ((stp_of c128_88).trans rfl)
theorem c128_89 : cd 128 89 = some (89, .ireturn, 1, []) := by decide +kernel
theorem x128_89 {d : Nat} {a0 a1 : Value} {s0 : Int32} {h : AHp} : Rf d 128 89 [a0, a1] [.int s0] h = some (some (.int s0), h) := Rf_end (by rw [stp_of c128_89]; simp only [stpI]; rw [if_pos (show retI (mH 128).2.2.1 s0 = true from retI_int)])
-- 129: X11_within
theorem c129_0 : cd 129 0 = some (0, .iload_n 0, 1, []) := by decide +kernel
theorem x129_0 {d : Nat} {a1 : Value} {x : Int32} {h : AHp} : Rf d 129 0 [.int x, a1] [] h = Rf d 129 1 [.int x, a1] [.int x] h := Rf_go ((stp_of c129_0).trans rfl)
theorem c129_1 : cd 129 1 = some (1, .ifCond .lt 12, 3, [(13, 0)]) := by decide +kernel
theorem x129_1 {d : Nat} {a0 a1 : Value} {s0 : Int32} {h : AHp} : Rf d 129 1 [a0, a1] [.int s0] h = if s0 < 0 then Rf d 129 13 [a0, a1] [] h else Rf d 129 4 [a0, a1] [] h := Rf_brd ((stp_of c129_1).trans rfl)
theorem c129_13 : cd 129 13 = some (13, .iconst 0, 1, []) := by decide +kernel
theorem x129_13 {d : Nat} {a0 a1 : Value} {h : AHp} : Rf d 129 13 [a0, a1] [] h = Rf d 129 14 [a0, a1] [.int 0] h := Rf_go ((stp_of c129_13).trans rfl)
theorem c129_14 : cd 129 14 = some (14, .ireturn, 1, []) := by decide +kernel
theorem x129_14 {d : Nat} {a0 a1 : Value} {s0 : Int32} {h : AHp} : Rf d 129 14 [a0, a1] [.int s0] h = if retI (some .boolean) s0 = true then some (some (.int s0), h) else Rx d 129 14 [a0, a1] [.int s0] h := Rf_ife (fun hk => by rw [stp_of c129_14]; exact if_pos hk)
theorem c129_4 : cd 129 4 = some (4, .iload_n 0, 1, []) := by decide +kernel
theorem x129_4 {d : Nat} {a1 : Value} {x : Int32} {h : AHp} : Rf d 129 4 [.int x, a1] [] h = Rf d 129 5 [.int x, a1] [.int x] h := Rf_go ((stp_of c129_4).trans rfl)
theorem c129_5 : cd 129 5 = some (5, .iload_n 1, 1, []) := by decide +kernel
theorem x129_5 {d : Nat} {a0 : Value} {s0 : Int32} {x : Int32} {h : AHp} : Rf d 129 5 [a0, .int x] [.int s0] h = Rf d 129 6 [a0, .int x] [.int x, .int s0] h := Rf_go ((stp_of c129_5).trans rfl)
theorem c129_6 : cd 129 6 = some (6, .if_icmp .gt 7, 3, [(13, 0)]) := by decide +kernel
theorem x129_6 {d : Nat} {a0 a1 : Value} {s0 : Int32} {s1 : Int32} {h : AHp} : Rf d 129 6 [a0, a1] [.int s0, .int s1] h = if s0 < s1 then Rf d 129 13 [a0, a1] [] h else Rf d 129 9 [a0, a1] [] h := Rf_brd ((stp_of c129_6).trans rfl)
theorem c129_9 : cd 129 9 = some (9, .iconst 1, 1, []) := by decide +kernel
theorem x129_9 {d : Nat} {a0 a1 : Value} {h : AHp} : Rf d 129 9 [a0, a1] [] h = Rf d 129 10 [a0, a1] [.int 1] h := Rf_go ((stp_of c129_9).trans rfl)
theorem c129_10 : cd 129 10 = some (10, .goto 4, 3, [(14, 0)]) := by decide +kernel
theorem x129_10 {d : Nat} {a0 a1 : Value} {s0 : Int32} {h : AHp} : Rf d 129 10 [a0, a1] [.int s0] h = Rf d 129 14 [a0, a1] [.int s0] h := Rf_go ((stp_of c129_10).trans rfl)
