-- 0: X0_init
theorem c0_0 : cd 0 0 = some (0, .aload_n 0, 1, []) := by decide +kernel
theorem x0_0 {d : Nat} {a1 a2 : Value} {x : Nat} {h : AHp} : Rf d 0 0 [.ref x, a1, a2] [] h = Rf d 0 1 [.ref x, a1, a2] [.ref x] h := Rf_go ((stp_of c0_0).trans rfl)
theorem c0_1 : cd 0 1 = some (1, .iload_n 1, 1, []) := by decide +kernel
theorem x0_1 {d : Nat} {a0 a2 : Value} {s0 : Nat} {x : Int32} {h : AHp} : Rf d 0 1 [a0, .int x, a2] [.ref s0] h = Rf d 0 2 [a0, .int x, a2] [.int x, .ref s0] h := Rf_go ((stp_of c0_1).trans rfl)
theorem c0_2 : cd 0 2 = some (2, .iload_n 2, 1, []) := by decide +kernel
theorem x0_2 {d : Nat} {a0 a1 : Value} {s0 : Int32} {s1 : Nat} {x : Int32} {h : AHp} : Rf d 0 2 [a0, a1, .int x] [.int s0, .ref s1] h = Rf d 0 3 [a0, a1, .int x] [.int x, .int s0, .ref s1] h := Rf_go ((stp_of c0_2).trans rfl)
theorem c0_3 : cd 0 3 = some (3, .invokespecial 1, 3, [(1003, 88)]) := by decide +kernel
theorem xc0_3 {d : Nat} {a0 a1 a2 : Value} {s0 : Int32} {s1 : Int32} {s2 : Nat} {h : AHp} {h1 : AHp} (hr : cls (h.1 s2) < 13) (hq : Rf d 88 0 [.ref s2, .int s1, .int s0] [] h = some (none, h1)) : Rf (d + 1) 0 3 [a0, a1, a2] [.int s0, .int s1, .ref s2] h = Rf (d + 1) 0 6 [a0, a1, a2] [] h1 := clP (as := [.int s1, .int s0]) c0_3 rfl rfl (by simp [isV]) hr hq
theorem c0_6 : cd 0 6 = some (6, .return_, 1, []) := by decide +kernel
theorem x0_6 {d : Nat} {a0 a1 a2 : Value} {h : AHp} : Rf d 0 6 [a0, a1, a2] [] h = some (none, h) := Rf_end (endV c0_6 (by decide +kernel))
-- 1: X0_kind
theorem c1_0 : cd 1 0 = some (0, .bipush 6, 2, []) := by decide +kernel
theorem x1_0 {d : Nat} {a0 : Value} {h : AHp} : Rf d 1 0 [a0] [] h = Rf d 1 2 [a0] [.int 6] h := Rf_go ((stp_of c1_0).trans rfl)
theorem c1_2 : cd 1 2 = some (2, .ireturn, 1, []) := by decide +kernel
theorem x1_2 {d : Nat} {a0 : Value} {s0 : Int32} {h : AHp} : Rf d 1 2 [a0] [.int s0] h = some (some (.int s0), h) := Rf_end (by rw [stp_of c1_2]; simp only [stpI]; rw [if_pos (show retI (mH 1).2.2.1 s0 = true from retI_int)])
-- 2: X0_belief
theorem c2_0 : cd 2 0 = some (0, .aload_n 0, 1, []) := by decide +kernel
theorem x2_0 {d : Nat} {a1 : Value} {x : Nat} {h : AHp} : Rf d 2 0 [.ref x, a1] [] h = Rf d 2 1 [.ref x, a1] [.ref x] h := Rf_go ((stp_of c2_0).trans rfl)
theorem c2_1 : cd 2 1 = some (1, .aload_n 1, 1, []) := by decide +kernel
theorem x2_1 {d : Nat} {a0 : Value} {s0 : Nat} {x : Nat} {h : AHp} : Rf d 2 1 [a0, .ref x] [.ref s0] h = Rf d 2 2 [a0, .ref x] [.ref x, .ref s0] h := Rf_go ((stp_of c2_1).trans rfl)
theorem c2_2 : cd 2 2 = some (2, .invokespecial 7, 3, [(1004, 90)]) := by decide +kernel
theorem xc2_2 {d : Nat} {a0 a1 : Value} {s0 : Nat} {s1 : Nat} {h : AHp} {h1 : AHp} {v : Int32} (hr : cls (h.1 s1) < 13) (hq : Rf d 90 0 [.ref s1, .ref s0] [] h = some (some (.int v), h1)) : Rf (d + 1) 2 2 [a0, a1] [.ref s0, .ref s1] h = Rf (d + 1) 2 5 [a0, a1] [.int v] h1 := clP (as := [.ref s0]) c2_2 rfl rfl (by simp [isV]) hr hq
theorem c2_5 : cd 2 5 = some (5, .bipush 10, 2, []) := by decide +kernel
theorem x2_5 {d : Nat} {a0 a1 : Value} {s0 : Int32} {h : AHp} : Rf d 2 5 [a0, a1] [.int s0] h = Rf d 2 7 [a0, a1] [.int 10, .int s0] h := Rf_go ((stp_of c2_5).trans rfl)
theorem c2_7 : cd 2 7 = some (7, .aload_n 0, 1, []) := by decide +kernel
theorem x2_7 {d : Nat} {a1 : Value} {s0 : Int32} {s1 : Int32} {x : Nat} {h : AHp} : Rf d 2 7 [.ref x, a1] [.int s0, .int s1] h = Rf d 2 8 [.ref x, a1] [.ref x, .int s0, .int s1] h := Rf_go ((stp_of c2_7).trans rfl)
theorem c2_8 : cd 2 8 = some (8, .getfield 11, 3, [(0, 1)]) := by decide +kernel
theorem x2_8 {d : Nat} {a0 a1 : Value} {s0 : Nat} {s1 : Int32} {s2 : Int32} {h : AHp} : Rf d 2 8 [a0, a1] [.ref s0, .int s1, .int s2] h = if cls (h.1 s0) = 0 ∧ oKi (h.1 s0) 1 = true then Rf d 2 11 [a0, a1] [.int (oN (h.1 s0) 1), .int s1, .int s2] h else Rx d 2 8 [a0, a1] [.ref s0, .int s1, .int s2] h := getI c2_8
theorem c2_11 : cd 2 11 = some (11, .imul, 1, []) := by decide +kernel
theorem x2_11 {d : Nat} {a0 a1 : Value} {s0 : Int32} {s1 : Int32} {s2 : Int32} {h : AHp} : Rf d 2 11 [a0, a1] [.int s0, .int s1, .int s2] h = Rf d 2 12 [a0, a1] [.int (s1 * s0), .int s2] h := Rf_go ((stp_of c2_11).trans rfl)
theorem c2_12 : cd 2 12 = some (12, .iadd, 1, []) := by decide +kernel
theorem x2_12 {d : Nat} {a0 a1 : Value} {s0 : Int32} {s1 : Int32} {h : AHp} : Rf d 2 12 [a0, a1] [.int s0, .int s1] h = Rf d 2 13 [a0, a1] [.int (s1 + s0)] h := Rf_go ((stp_of c2_12).trans rfl)
theorem c2_13 : cd 2 13 = some (13, .ireturn, 1, []) := by decide +kernel
theorem x2_13 {d : Nat} {a0 a1 : Value} {s0 : Int32} {h : AHp} : Rf d 2 13 [a0, a1] [.int s0] h = some (some (.int s0), h) := Rf_end (by rw [stp_of c2_13]; simp only [stpI]; rw [if_pos (show retI (mH 2).2.2.1 s0 = true from retI_int)])
-- 3: X0_asks
theorem c3_0 : cd 3 0 = some (0, .aload_n 1, 1, []) := by decide +kernel
theorem x3_0 {d : Nat} {a0 a2 : Value} {x : Nat} {h : AHp} : Rf d 3 0 [a0, .ref x, a2] [] h = Rf d 3 1 [a0, .ref x, a2] [.ref x] h := Rf_go ((stp_of c3_0).trans rfl)
theorem c3_1 : cd 3 1 = some (1, .bipush 61, 2, []) := by decide +kernel
theorem x3_1 {d : Nat} {a0 a1 a2 : Value} {s0 : Nat} {h : AHp} : Rf d 3 1 [a0, a1, a2] [.ref s0] h = Rf d 3 3 [a0, a1, a2] [.int 61, .ref s0] h := Rf_go ((stp_of c3_1).trans rfl)
theorem c3_3 : cd 3 3 = some (3, .invokevirtual 17, 3, [(10, 93)]) := by decide +kernel
theorem xc3_3 {d : Nat} {a0 a1 a2 : Value} {s0 : Int32} {s1 : Nat} {h : AHp} {h1 : AHp} (hr : cls (h.1 s1) = 10) (hq : Rf d 93 0 [.ref s1, .int s0] [] h = some (none, h1)) : Rf (d + 1) 3 3 [a0, a1, a2] [.int s0, .ref s1] h = Rf (d + 1) 3 6 [a0, a1, a2] [] h1 := clV (c := 93) (as := [.int s0]) c3_3 rfl (by simp [isV]) (by rw [hr]; rfl) hq
theorem c3_6 : cd 3 6 = some (6, .aload_n 0, 1, []) := by decide +kernel
theorem x3_6 {d : Nat} {a1 a2 : Value} {x : Nat} {h : AHp} : Rf d 3 6 [.ref x, a1, a2] [] h = Rf d 3 7 [.ref x, a1, a2] [.ref x] h := Rf_go ((stp_of c3_6).trans rfl)
theorem c3_7 : cd 3 7 = some (7, .aload_n 1, 1, []) := by decide +kernel
theorem x3_7 {d : Nat} {a0 a2 : Value} {s0 : Nat} {x : Nat} {h : AHp} : Rf d 3 7 [a0, .ref x, a2] [.ref s0] h = Rf d 3 8 [a0, .ref x, a2] [.ref x, .ref s0] h := Rf_go ((stp_of c3_7).trans rfl)
theorem c3_8 : cd 3 8 = some (8, .iload_n 2, 1, []) := by decide +kernel
theorem x3_8 {d : Nat} {a0 a1 : Value} {s0 : Nat} {s1 : Nat} {x : Int32} {h : AHp} : Rf d 3 8 [a0, a1, .int x] [.ref s0, .ref s1] h = Rf d 3 9 [a0, a1, .int x] [.int x, .ref s0, .ref s1] h := Rf_go ((stp_of c3_8).trans rfl)
theorem c3_9 : cd 3 9 = some (9, .invokespecial 23, 3, [(1005, 33)]) := by decide +kernel
theorem xc3_9 {d : Nat} {a0 a1 a2 : Value} {s0 : Int32} {s1 : Nat} {s2 : Nat} {h : AHp} {h1 : AHp} {v : Int32} (hr : cls (h.1 s2) < 13) (hq : Rf d 33 0 [.ref s2, .ref s1, .int s0] [] h = some (some (.int v), h1)) : Rf (d + 1) 3 9 [a0, a1, a2] [.int s0, .ref s1, .ref s2] h = Rf (d + 1) 3 12 [a0, a1, a2] [.int v] h1 := clP (as := [.ref s1, .int s0]) c3_9 rfl rfl (by simp [isV]) hr hq
theorem c3_12 : cd 3 12 = some (12, .aload_n 0, 1, []) := by decide +kernel
theorem x3_12 {d : Nat} {a1 a2 : Value} {s0 : Int32} {x : Nat} {h : AHp} : Rf d 3 12 [.ref x, a1, a2] [.int s0] h = Rf d 3 13 [.ref x, a1, a2] [.ref x, .int s0] h := Rf_go ((stp_of c3_12).trans rfl)
theorem c3_13 : cd 3 13 = some (13, .getfield 11, 3, [(0, 1)]) := by decide +kernel
theorem x3_13 {d : Nat} {a0 a1 a2 : Value} {s0 : Nat} {s1 : Int32} {h : AHp} : Rf d 3 13 [a0, a1, a2] [.ref s0, .int s1] h = if cls (h.1 s0) = 0 ∧ oKi (h.1 s0) 1 = true then Rf d 3 16 [a0, a1, a2] [.int (oN (h.1 s0) 1), .int s1] h else Rx d 3 13 [a0, a1, a2] [.ref s0, .int s1] h := getI c3_13
theorem c3_16 : cd 3 16 = some (16, .iadd, 1, []) := by decide +kernel
theorem x3_16 {d : Nat} {a0 a1 a2 : Value} {s0 : Int32} {s1 : Int32} {h : AHp} : Rf d 3 16 [a0, a1, a2] [.int s0, .int s1] h = Rf d 3 17 [a0, a1, a2] [.int (s1 + s0)] h := Rf_go ((stp_of c3_16).trans rfl)
theorem c3_17 : cd 3 17 = some (17, .ireturn, 1, []) := by decide +kernel
theorem x3_17 {d : Nat} {a0 a1 a2 : Value} {s0 : Int32} {h : AHp} : Rf d 3 17 [a0, a1, a2] [.int s0] h = some (some (.int s0), h) := Rf_end (by rw [stp_of c3_17]; simp only [stpI]; rw [if_pos (show retI (mH 3).2.2.1 s0 = true from retI_int)])
-- 4: X1_init
theorem c4_0 : cd 4 0 = some (0, .aload_n 0, 1, []) := by decide +kernel
theorem x4_0 {d : Nat} {a1 a2 : Value} {x : Nat} {h : AHp} : Rf d 4 0 [.ref x, a1, a2] [] h = Rf d 4 1 [.ref x, a1, a2] [.ref x] h := Rf_go ((stp_of c4_0).trans rfl)
theorem c4_1 : cd 4 1 = some (1, .iload_n 1, 1, []) := by decide +kernel
theorem x4_1 {d : Nat} {a0 a2 : Value} {s0 : Nat} {x : Int32} {h : AHp} : Rf d 4 1 [a0, .int x, a2] [.ref s0] h = Rf d 4 2 [a0, .int x, a2] [.int x, .ref s0] h := Rf_go ((stp_of c4_1).trans rfl)
theorem c4_2 : cd 4 2 = some (2, .iload_n 2, 1, []) := by decide +kernel
theorem x4_2 {d : Nat} {a0 a1 : Value} {s0 : Int32} {s1 : Nat} {x : Int32} {h : AHp} : Rf d 4 2 [a0, a1, .int x] [.int s0, .ref s1] h = Rf d 4 3 [a0, a1, .int x] [.int x, .int s0, .ref s1] h := Rf_go ((stp_of c4_2).trans rfl)
theorem c4_3 : cd 4 3 = some (3, .invokespecial 1, 3, [(1003, 8)]) := by decide +kernel
theorem xc4_3 {d : Nat} {a0 a1 a2 : Value} {s0 : Int32} {s1 : Int32} {s2 : Nat} {h : AHp} {h1 : AHp} (hr : cls (h.1 s2) < 13) (hq : Rf d 8 0 [.ref s2, .int s1, .int s0] [] h = some (none, h1)) : Rf (d + 1) 4 3 [a0, a1, a2] [.int s0, .int s1, .ref s2] h = Rf (d + 1) 4 6 [a0, a1, a2] [] h1 := clP (as := [.int s1, .int s0]) c4_3 rfl rfl (by simp [isV]) hr hq
theorem c4_6 : cd 4 6 = some (6, .return_, 1, []) := by decide +kernel
theorem x4_6 {d : Nat} {a0 a1 a2 : Value} {h : AHp} : Rf d 4 6 [a0, a1, a2] [] h = some (none, h) := Rf_end (endV c4_6 (by decide +kernel))
-- 5: X1_kind
theorem c5_0 : cd 5 0 = some (0, .iconst 4, 1, []) := by decide +kernel
theorem x5_0 {d : Nat} {a0 : Value} {h : AHp} : Rf d 5 0 [a0] [] h = Rf d 5 1 [a0] [.int 4] h := Rf_go ((stp_of c5_0).trans rfl)
theorem c5_1 : cd 5 1 = some (1, .ireturn, 1, []) := by decide +kernel
theorem x5_1 {d : Nat} {a0 : Value} {s0 : Int32} {h : AHp} : Rf d 5 1 [a0] [.int s0] h = some (some (.int s0), h) := Rf_end (by rw [stp_of c5_1]; simp only [stpI]; rw [if_pos (show retI (mH 5).2.2.1 s0 = true from retI_int)])
-- 6: X1_belief
theorem c6_0 : cd 6 0 = some (0, .aload_n 1, 1, []) := by decide +kernel
theorem x6_0 {d : Nat} {a0 : Value} {x : Nat} {h : AHp} : Rf d 6 0 [a0, .ref x] [] h = Rf d 6 1 [a0, .ref x] [.ref x] h := Rf_go ((stp_of c6_0).trans rfl)
theorem c6_1 : cd 6 1 = some (1, .aload_n 0, 1, []) := by decide +kernel
theorem x6_1 {d : Nat} {a1 : Value} {s0 : Nat} {x : Nat} {h : AHp} : Rf d 6 1 [.ref x, a1] [.ref s0] h = Rf d 6 2 [.ref x, a1] [.ref x, .ref s0] h := Rf_go ((stp_of c6_1).trans rfl)
theorem c6_2 : cd 6 2 = some (2, .getfield 7, 3, [(1, 0)]) := by decide +kernel
theorem x6_2 {d : Nat} {a0 a1 : Value} {s0 : Nat} {s1 : Nat} {h : AHp} : Rf d 6 2 [a0, a1] [.ref s0, .ref s1] h = if cls (h.1 s0) = 1 ∧ oKi (h.1 s0) 0 = true then Rf d 6 5 [a0, a1] [.int (oN (h.1 s0) 0), .ref s1] h else Rx d 6 2 [a0, a1] [.ref s0, .ref s1] h := getI c6_2
theorem c6_5 : cd 6 5 = some (5, .aload_n 1, 1, []) := by decide +kernel
theorem x6_5 {d : Nat} {a0 : Value} {s0 : Int32} {s1 : Nat} {x : Nat} {h : AHp} : Rf d 6 5 [a0, .ref x] [.int s0, .ref s1] h = Rf d 6 6 [a0, .ref x] [.ref x, .int s0, .ref s1] h := Rf_go ((stp_of c6_5).trans rfl)
theorem c6_6 : cd 6 6 = some (6, .aload_n 0, 1, []) := by decide +kernel
theorem x6_6 {d : Nat} {a1 : Value} {s0 : Nat} {s1 : Int32} {s2 : Nat} {x : Nat} {h : AHp} : Rf d 6 6 [.ref x, a1] [.ref s0, .int s1, .ref s2] h = Rf d 6 7 [.ref x, a1] [.ref x, .ref s0, .int s1, .ref s2] h := Rf_go ((stp_of c6_6).trans rfl)
theorem c6_7 : cd 6 7 = some (7, .getfield 7, 3, [(1, 0)]) := by decide +kernel
theorem x6_7 {d : Nat} {a0 a1 : Value} {s0 : Nat} {s1 : Nat} {s2 : Int32} {s3 : Nat} {h : AHp} : Rf d 6 7 [a0, a1] [.ref s0, .ref s1, .int s2, .ref s3] h = if cls (h.1 s0) = 1 ∧ oKi (h.1 s0) 0 = true then Rf d 6 10 [a0, a1] [.int (oN (h.1 s0) 0), .ref s1, .int s2, .ref s3] h else Rx d 6 7 [a0, a1] [.ref s0, .ref s1, .int s2, .ref s3] h := getI c6_7
theorem c6_10 : cd 6 10 = some (10, .invokevirtual 13, 3, [(6, 49)]) := by decide +kernel
theorem xc6_10 {d : Nat} {a0 a1 : Value} {s0 : Int32} {s1 : Nat} {s2 : Int32} {s3 : Nat} {h : AHp} {h1 : AHp} {v : Int32} (hr : cls (h.1 s1) = 6) (hq : Rf d 49 0 [.ref s1, .int s0] [] h = some (some (.int v), h1)) : Rf (d + 1) 6 10 [a0, a1] [.int s0, .ref s1, .int s2, .ref s3] h = Rf (d + 1) 6 13 [a0, a1] [.int v, .int s2, .ref s3] h1 := clV (c := 49) (as := [.int s0]) c6_10 rfl (by simp [isV]) (by rw [hr]; rfl) hq
theorem c6_13 : cd 6 13 = some (13, .invokevirtual 19, 3, [(6, 52)]) := by decide +kernel
theorem xc6_13 {d : Nat} {a0 a1 : Value} {s0 : Int32} {s1 : Int32} {s2 : Nat} {h : AHp} {h1 : AHp} {v : Int32} (hr : cls (h.1 s2) = 6) (hq : Rf d 52 0 [.ref s2, .int s1, .int s0, noV, noV, noV, noV] [] h = some (some (.int v), h1)) : Rf (d + 1) 6 13 [a0, a1] [.int s0, .int s1, .ref s2] h = Rf (d + 1) 6 16 [a0, a1] [.int v] h1 := clV (c := 52) (as := [.int s1, .int s0]) c6_13 rfl (by simp [isV]) (by rw [hr]; rfl) hq
theorem c6_16 : cd 6 16 = some (16, .ireturn, 1, []) := by decide +kernel
theorem x6_16 {d : Nat} {a0 a1 : Value} {s0 : Int32} {h : AHp} : Rf d 6 16 [a0, a1] [.int s0] h = some (some (.int s0), h) := Rf_end (by rw [stp_of c6_16]; simp only [stpI]; rw [if_pos (show retI (mH 6).2.2.1 s0 = true from retI_int)])
-- 7: X1_tells
theorem c7_0 : cd 7 0 = some (0, .aload_n 1, 1, []) := by decide +kernel
theorem x7_0 {d : Nat} {a0 a2 : Value} {x : Nat} {h : AHp} : Rf d 7 0 [a0, .ref x, a2] [] h = Rf d 7 1 [a0, .ref x, a2] [.ref x] h := Rf_go ((stp_of c7_0).trans rfl)
theorem c7_1 : cd 7 1 = some (1, .bipush 41, 2, []) := by decide +kernel
theorem x7_1 {d : Nat} {a0 a1 a2 : Value} {s0 : Nat} {h : AHp} : Rf d 7 1 [a0, a1, a2] [.ref s0] h = Rf d 7 3 [a0, a1, a2] [.int 41, .ref s0] h := Rf_go ((stp_of c7_1).trans rfl)
theorem c7_3 : cd 7 3 = some (3, .invokevirtual 23, 3, [(10, 93)]) := by decide +kernel
theorem xc7_3 {d : Nat} {a0 a1 a2 : Value} {s0 : Int32} {s1 : Nat} {h : AHp} {h1 : AHp} (hr : cls (h.1 s1) = 10) (hq : Rf d 93 0 [.ref s1, .int s0] [] h = some (none, h1)) : Rf (d + 1) 7 3 [a0, a1, a2] [.int s0, .ref s1] h = Rf (d + 1) 7 6 [a0, a1, a2] [] h1 := clV (c := 93) (as := [.int s0]) c7_3 rfl (by simp [isV]) (by rw [hr]; rfl) hq
theorem c7_6 : cd 7 6 = some (6, .aload_n 0, 1, []) := by decide +kernel
theorem x7_6 {d : Nat} {a1 a2 : Value} {x : Nat} {h : AHp} : Rf d 7 6 [.ref x, a1, a2] [] h = Rf d 7 7 [.ref x, a1, a2] [.ref x] h := Rf_go ((stp_of c7_6).trans rfl)
theorem c7_7 : cd 7 7 = some (7, .aload_n 1, 1, []) := by decide +kernel
theorem x7_7 {d : Nat} {a0 a2 : Value} {s0 : Nat} {x : Nat} {h : AHp} : Rf d 7 7 [a0, .ref x, a2] [.ref s0] h = Rf d 7 8 [a0, .ref x, a2] [.ref x, .ref s0] h := Rf_go ((stp_of c7_7).trans rfl)
theorem c7_8 : cd 7 8 = some (8, .iload_n 2, 1, []) := by decide +kernel
theorem x7_8 {d : Nat} {a0 a1 : Value} {s0 : Nat} {s1 : Nat} {x : Int32} {h : AHp} : Rf d 7 8 [a0, a1, .int x] [.ref s0, .ref s1] h = Rf d 7 9 [a0, a1, .int x] [.int x, .ref s0, .ref s1] h := Rf_go ((stp_of c7_8).trans rfl)
theorem c7_9 : cd 7 9 = some (9, .iconst 1, 1, []) := by decide +kernel
theorem x7_9 {d : Nat} {a0 a1 a2 : Value} {s0 : Int32} {s1 : Nat} {s2 : Nat} {h : AHp} : Rf d 7 9 [a0, a1, a2] [.int s0, .ref s1, .ref s2] h = Rf d 7 10 [a0, a1, a2] [.int 1, .int s0, .ref s1, .ref s2] h := Rf_go ((stp_of c7_9).trans rfl)
theorem c7_10 : cd 7 10 = some (10, .isub, 1, []) := by decide +kernel
theorem x7_10 {d : Nat} {a0 a1 a2 : Value} {s0 : Int32} {s1 : Int32} {s2 : Nat} {s3 : Nat} {h : AHp} : Rf d 7 10 [a0, a1, a2] [.int s0, .int s1, .ref s2, .ref s3] h = Rf d 7 11 [a0, a1, a2] [.int (s1 - s0), .ref s2, .ref s3] h := Rf_go ((stp_of c7_10).trans rfl)
theorem c7_11 : cd 7 11 = some (11, .invokespecial 29, 3, [(1005, 34)]) := by decide +kernel
theorem xc7_11 {d : Nat} {a0 a1 a2 : Value} {s0 : Int32} {s1 : Nat} {s2 : Nat} {h : AHp} {h1 : AHp} {v : Int32} (hr : cls (h.1 s2) < 13) (hq : Rf d 34 0 [.ref s2, .ref s1, .int s0] [] h = some (some (.int v), h1)) : Rf (d + 1) 7 11 [a0, a1, a2] [.int s0, .ref s1, .ref s2] h = Rf (d + 1) 7 14 [a0, a1, a2] [.int v] h1 := clP (as := [.ref s1, .int s0]) c7_11 rfl rfl (by simp [isV]) hr hq
theorem c7_14 : cd 7 14 = some (14, .aload_n 0, 1, []) := by decide +kernel
theorem x7_14 {d : Nat} {a1 a2 : Value} {s0 : Int32} {x : Nat} {h : AHp} : Rf d 7 14 [.ref x, a1, a2] [.int s0] h = Rf d 7 15 [.ref x, a1, a2] [.ref x, .int s0] h := Rf_go ((stp_of c7_14).trans rfl)
theorem c7_15 : cd 7 15 = some (15, .aload_n 1, 1, []) := by decide +kernel
theorem x7_15 {d : Nat} {a0 a2 : Value} {s0 : Nat} {s1 : Int32} {x : Nat} {h : AHp} : Rf d 7 15 [a0, .ref x, a2] [.ref s0, .int s1] h = Rf d 7 16 [a0, .ref x, a2] [.ref x, .ref s0, .int s1] h := Rf_go ((stp_of c7_15).trans rfl)
theorem c7_16 : cd 7 16 = some (16, .iconst 2, 1, []) := by decide +kernel
theorem x7_16 {d : Nat} {a0 a1 a2 : Value} {s0 : Nat} {s1 : Nat} {s2 : Int32} {h : AHp} : Rf d 7 16 [a0, a1, a2] [.ref s0, .ref s1, .int s2] h = Rf d 7 17 [a0, a1, a2] [.int 2, .ref s0, .ref s1, .int s2] h := Rf_go ((stp_of c7_16).trans rfl)
theorem c7_17 : cd 7 17 = some (17, .invokevirtual 33, 3, [(1, 11), (201, 1), (202, 2)]) := by decide +kernel
theorem xc7_17 {d : Nat} {a0 a1 a2 : Value} {s0 : Int32} {s1 : Nat} {s2 : Nat} {s3 : Int32} {h : AHp} {h1 : AHp} {v : Int32} (hr : cls (h.1 s2) = 1) (hq : Rf d 11 0 [.ref s2, .ref s1, .int s0] [] h = some (some (.int v), h1)) : Rf (d + 1) 7 17 [a0, a1, a2] [.int s0, .ref s1, .ref s2, .int s3] h = Rf (d + 1) 7 20 [a0, a1, a2] [.int v, .int s3] h1 := clV (c := 11) (as := [.ref s1, .int s0]) c7_17 rfl (by simp [isV]) (by rw [hr]; rfl) hq
theorem c7_20 : cd 7 20 = some (20, .iadd, 1, []) := by decide +kernel
theorem x7_20 {d : Nat} {a0 a1 a2 : Value} {s0 : Int32} {s1 : Int32} {h : AHp} : Rf d 7 20 [a0, a1, a2] [.int s0, .int s1] h = Rf d 7 21 [a0, a1, a2] [.int (s1 + s0)] h := Rf_go ((stp_of c7_20).trans rfl)
theorem c7_21 : cd 7 21 = some (21, .ireturn, 1, []) := by decide +kernel
theorem x7_21 {d : Nat} {a0 a1 a2 : Value} {s0 : Int32} {h : AHp} : Rf d 7 21 [a0, a1, a2] [.int s0] h = some (some (.int s0), h) := Rf_end (by rw [stp_of c7_21]; simp only [stpI]; rw [if_pos (show retI (mH 7).2.2.1 s0 = true from retI_int)])
-- 8: X2_init
theorem c8_0 : cd 8 0 = some (0, .aload_n 0, 1, []) := by decide +kernel
theorem x8_0 {d : Nat} {a1 a2 : Value} {x : Nat} {h : AHp} : Rf d 8 0 [.ref x, a1, a2] [] h = Rf d 8 1 [.ref x, a1, a2] [.ref x] h := Rf_go ((stp_of c8_0).trans rfl)
theorem c8_1 : cd 8 1 = some (1, .iload_n 1, 1, []) := by decide +kernel
theorem x8_1 {d : Nat} {a0 a2 : Value} {s0 : Nat} {x : Int32} {h : AHp} : Rf d 8 1 [a0, .int x, a2] [.ref s0] h = Rf d 8 2 [a0, .int x, a2] [.int x, .ref s0] h := Rf_go ((stp_of c8_1).trans rfl)
theorem c8_2 : cd 8 2 = some (2, .iload_n 2, 1, []) := by decide +kernel
theorem x8_2 {d : Nat} {a0 a1 : Value} {s0 : Int32} {s1 : Nat} {x : Int32} {h : AHp} : Rf d 8 2 [a0, a1, .int x] [.int s0, .ref s1] h = Rf d 8 3 [a0, a1, .int x] [.int x, .int s0, .ref s1] h := Rf_go ((stp_of c8_2).trans rfl)
theorem c8_3 : cd 8 3 = some (3, .invokespecial 3, 3, [(1003, 28)]) := by decide +kernel
theorem xc8_3 {d : Nat} {a0 a1 a2 : Value} {s0 : Int32} {s1 : Int32} {s2 : Nat} {h : AHp} {h1 : AHp} (hr : cls (h.1 s2) < 13) (hq : Rf d 28 0 [.ref s2, .int s1, .int s0] [] h = some (none, h1)) : Rf (d + 1) 8 3 [a0, a1, a2] [.int s0, .int s1, .ref s2] h = Rf (d + 1) 8 6 [a0, a1, a2] [] h1 := clP (as := [.int s1, .int s0]) c8_3 rfl rfl (by simp [isV]) hr hq
theorem c8_6 : cd 8 6 = some (6, .return_, 1, []) := by decide +kernel
theorem x8_6 {d : Nat} {a0 a1 a2 : Value} {h : AHp} : Rf d 8 6 [a0, a1, a2] [] h = some (none, h) := Rf_end (endV c8_6 (by decide +kernel))
-- 9: X2_kind
theorem c9_0 : cd 9 0 = some (0, .iconst 1, 1, []) := by decide +kernel
theorem x9_0 {d : Nat} {a0 : Value} {h : AHp} : Rf d 9 0 [a0] [] h = Rf d 9 1 [a0] [.int 1] h := Rf_go ((stp_of c9_0).trans rfl)
theorem c9_1 : cd 9 1 = some (1, .ireturn, 1, []) := by decide +kernel
theorem x9_1 {d : Nat} {a0 : Value} {s0 : Int32} {h : AHp} : Rf d 9 1 [a0] [.int s0] h = some (some (.int s0), h) := Rf_end (by rw [stp_of c9_1]; simp only [stpI]; rw [if_pos (show retI (mH 9).2.2.1 s0 = true from retI_int)])
-- 10: X2_belief
theorem c10_0 : cd 10 0 = some (0, .aload_n 1, 1, []) := by decide +kernel
theorem x10_0 {d : Nat} {a0 : Value} {x : Nat} {h : AHp} : Rf d 10 0 [a0, .ref x] [] h = Rf d 10 1 [a0, .ref x] [.ref x] h := Rf_go ((stp_of c10_0).trans rfl)
theorem c10_1 : cd 10 1 = some (1, .aload_n 0, 1, []) := by decide +kernel
theorem x10_1 {d : Nat} {a1 : Value} {s0 : Nat} {x : Nat} {h : AHp} : Rf d 10 1 [.ref x, a1] [.ref s0] h = Rf d 10 2 [.ref x, a1] [.ref x, .ref s0] h := Rf_go ((stp_of c10_1).trans rfl)
theorem c10_2 : cd 10 2 = some (2, .getfield 9, 3, [(1, 0), (2, 0)]) := by decide +kernel
theorem x10_2 {d : Nat} {a0 a1 : Value} {s0 : Nat} {s1 : Nat} {h : AHp} : Rf d 10 2 [a0, a1] [.ref s0, .ref s1] h = if fIx [(1, 0), (2, 0)] (cls (h.1 s0)) = some 0 ∧ oKi (h.1 s0) 0 = true then Rf d 10 5 [a0, a1] [.int (oN (h.1 s0) 0), .ref s1] h else Rx d 10 2 [a0, a1] [.ref s0, .ref s1] h := getIk c10_2
theorem c10_5 : cd 10 5 = some (5, .bipush (-5), 2, []) := by decide +kernel
theorem x10_5 {d : Nat} {a0 a1 : Value} {s0 : Int32} {s1 : Nat} {h : AHp} : Rf d 10 5 [a0, a1] [.int s0, .ref s1] h = Rf d 10 7 [a0, a1] [.int (-5), .int s0, .ref s1] h := Rf_go ((stp_of c10_5).trans rfl)
theorem c10_7 : cd 10 7 = some (7, .invokevirtual 15, 3, [(6, 52)]) := by decide +kernel
theorem xc10_7 {d : Nat} {a0 a1 : Value} {s0 : Int32} {s1 : Int32} {s2 : Nat} {h : AHp} {h1 : AHp} {v : Int32} (hr : cls (h.1 s2) = 6) (hq : Rf d 52 0 [.ref s2, .int s1, .int s0, noV, noV, noV, noV] [] h = some (some (.int v), h1)) : Rf (d + 1) 10 7 [a0, a1] [.int s0, .int s1, .ref s2] h = Rf (d + 1) 10 10 [a0, a1] [.int v] h1 := clV (c := 52) (as := [.int s1, .int s0]) c10_7 rfl (by simp [isV]) (by rw [hr]; rfl) hq
theorem c10_10 : cd 10 10 = some (10, .ireturn, 1, []) := by decide +kernel
theorem x10_10 {d : Nat} {a0 a1 : Value} {s0 : Int32} {h : AHp} : Rf d 10 10 [a0, a1] [.int s0] h = some (some (.int s0), h) := Rf_end (by rw [stp_of c10_10]; simp only [stpI]; rw [if_pos (show retI (mH 10).2.2.1 s0 = true from retI_int)])
-- 11: X2_has
theorem c11_0 : cd 11 0 = some (0, .aload_n 1, 1, []) := by decide +kernel
theorem x11_0 {d : Nat} {a0 a2 : Value} {x : Nat} {h : AHp} : Rf d 11 0 [a0, .ref x, a2] [] h = Rf d 11 1 [a0, .ref x, a2] [.ref x] h := Rf_go ((stp_of c11_0).trans rfl)
theorem c11_1 : cd 11 1 = some (1, .bipush 11, 2, []) := by decide +kernel
theorem x11_1 {d : Nat} {a0 a1 a2 : Value} {s0 : Nat} {h : AHp} : Rf d 11 1 [a0, a1, a2] [.ref s0] h = Rf d 11 3 [a0, a1, a2] [.int 11, .ref s0] h := Rf_go ((stp_of c11_1).trans rfl)
theorem c11_3 : cd 11 3 = some (3, .invokevirtual 21, 3, [(10, 93)]) := by decide +kernel
theorem xc11_3 {d : Nat} {a0 a1 a2 : Value} {s0 : Int32} {s1 : Nat} {h : AHp} {h1 : AHp} (hr : cls (h.1 s1) = 10) (hq : Rf d 93 0 [.ref s1, .int s0] [] h = some (none, h1)) : Rf (d + 1) 11 3 [a0, a1, a2] [.int s0, .ref s1] h = Rf (d + 1) 11 6 [a0, a1, a2] [] h1 := clV (c := 93) (as := [.int s0]) c11_3 rfl (by simp [isV]) (by rw [hr]; rfl) hq
theorem c11_6 : cd 11 6 = some (6, .aload_n 0, 1, []) := by decide +kernel
theorem x11_6 {d : Nat} {a1 a2 : Value} {x : Nat} {h : AHp} : Rf d 11 6 [.ref x, a1, a2] [] h = Rf d 11 7 [.ref x, a1, a2] [.ref x] h := Rf_go ((stp_of c11_6).trans rfl)
theorem c11_7 : cd 11 7 = some (7, .aload_n 1, 1, []) := by decide +kernel
theorem x11_7 {d : Nat} {a0 a2 : Value} {s0 : Nat} {x : Nat} {h : AHp} : Rf d 11 7 [a0, .ref x, a2] [.ref s0] h = Rf d 11 8 [a0, .ref x, a2] [.ref x, .ref s0] h := Rf_go ((stp_of c11_7).trans rfl)
theorem c11_8 : cd 11 8 = some (8, .iload_n 2, 1, []) := by decide +kernel
theorem x11_8 {d : Nat} {a0 a1 : Value} {s0 : Nat} {s1 : Nat} {x : Int32} {h : AHp} : Rf d 11 8 [a0, a1, .int x] [.ref s0, .ref s1] h = Rf d 11 9 [a0, a1, .int x] [.int x, .ref s0, .ref s1] h := Rf_go ((stp_of c11_8).trans rfl)
theorem c11_9 : cd 11 9 = some (9, .iconst 3, 1, []) := by decide +kernel
theorem x11_9 {d : Nat} {a0 a1 a2 : Value} {s0 : Int32} {s1 : Nat} {s2 : Nat} {h : AHp} : Rf d 11 9 [a0, a1, a2] [.int s0, .ref s1, .ref s2] h = Rf d 11 10 [a0, a1, a2] [.int 3, .int s0, .ref s1, .ref s2] h := Rf_go ((stp_of c11_9).trans rfl)
theorem c11_10 : cd 11 10 = some (10, .imul, 1, []) := by decide +kernel
theorem x11_10 {d : Nat} {a0 a1 a2 : Value} {s0 : Int32} {s1 : Int32} {s2 : Nat} {s3 : Nat} {h : AHp} : Rf d 11 10 [a0, a1, a2] [.int s0, .int s1, .ref s2, .ref s3] h = Rf d 11 11 [a0, a1, a2] [.int (s1 * s0), .ref s2, .ref s3] h := Rf_go ((stp_of c11_10).trans rfl)
theorem c11_11 : cd 11 11 = some (11, .invokespecial 27, 3, [(1004, 32)]) := by decide +kernel
theorem xc11_11 {d : Nat} {a0 a1 a2 : Value} {s0 : Int32} {s1 : Nat} {s2 : Nat} {h : AHp} {h1 : AHp} {v : Int32} (hr : cls (h.1 s2) < 13) (hq : Rf d 32 0 [.ref s2, .ref s1, .int s0] [] h = some (some (.int v), h1)) : Rf (d + 1) 11 11 [a0, a1, a2] [.int s0, .ref s1, .ref s2] h = Rf (d + 1) 11 14 [a0, a1, a2] [.int v] h1 := clP (as := [.ref s1, .int s0]) c11_11 rfl rfl (by simp [isV]) hr hq
theorem c11_14 : cd 11 14 = some (14, .ireturn, 1, []) := by decide +kernel
theorem x11_14 {d : Nat} {a0 a1 a2 : Value} {s0 : Int32} {h : AHp} : Rf d 11 14 [a0, a1, a2] [.int s0] h = some (some (.int s0), h) := Rf_end (by rw [stp_of c11_14]; simp only [stpI]; rw [if_pos (show retI (mH 11).2.2.1 s0 = true from retI_int)])
-- 28: X4_init
theorem c28_0 : cd 28 0 = some (0, .aload_n 0, 1, []) := by decide +kernel
theorem x28_0 {d : Nat} {a1 a2 : Value} {x : Nat} {h : AHp} : Rf d 28 0 [.ref x, a1, a2] [] h = Rf d 28 1 [.ref x, a1, a2] [.ref x] h := Rf_go ((stp_of c28_0).trans rfl)
theorem c28_1 : cd 28 1 = some (1, .invokespecial 1, 3, [(1001, 0)]) := by decide +kernel
theorem x28_1 {d : Nat} {a0 a1 a2 : Value} {s0 : Nat} {h : AHp} : Rf d 28 1 [a0, a1, a2] [.ref s0] h = Rf d 28 4 [a0, a1, a2] [] h := Rf_go ((stp_of c28_1).trans rfl)
theorem c28_4 : cd 28 4 = some (4, .aload_n 0, 1, []) := by decide +kernel
theorem x28_4 {d : Nat} {a1 a2 : Value} {x : Nat} {h : AHp} : Rf d 28 4 [.ref x, a1, a2] [] h = Rf d 28 5 [.ref x, a1, a2] [.ref x] h := Rf_go ((stp_of c28_4).trans rfl)
theorem c28_5 : cd 28 5 = some (5, .iload_n 1, 1, []) := by decide +kernel
theorem x28_5 {d : Nat} {a0 a2 : Value} {s0 : Nat} {x : Int32} {h : AHp} : Rf d 28 5 [a0, .int x, a2] [.ref s0] h = Rf d 28 6 [a0, .int x, a2] [.int x, .ref s0] h := Rf_go ((stp_of c28_5).trans rfl)
theorem c28_6 : cd 28 6 = some (6, .putfield 7, 3, [(0, 0), (1, 0), (2, 0), (4, 0), (5, 0), (8, 0), (9, 0)]) := by decide +kernel
theorem x28_6_0 {d : Nat} {a0 a1 a2 : Value} {s0 : Int32} {s1 : Nat} {h : AHp} : Rf d 28 6 [a0, a1, a2] [.int s0, .ref s1] h = if cls (h.1 s1) = 0 ∧ oL (h.1 s1) = 2 then Rf d 28 9 [a0, a1, a2] [] (hset h s1 (oSet (h.1 s1) 0 (.int s0))) else Rx d 28 6 [a0, a1, a2] [.int s0, .ref s1] h := putVk (k := 0) c28_6 (by decide) rfl (fMay_i (by decide +kernel))
theorem x28_6_1 {d : Nat} {a0 a1 a2 : Value} {s0 : Int32} {s1 : Nat} {h : AHp} : Rf d 28 6 [a0, a1, a2] [.int s0, .ref s1] h = if cls (h.1 s1) = 1 ∧ oL (h.1 s1) = 2 then Rf d 28 9 [a0, a1, a2] [] (hset h s1 (oSet (h.1 s1) 0 (.int s0))) else Rx d 28 6 [a0, a1, a2] [.int s0, .ref s1] h := putVk (k := 0) c28_6 (by decide) rfl (fMay_i (by decide +kernel))
theorem x28_6_2 {d : Nat} {a0 a1 a2 : Value} {s0 : Int32} {s1 : Nat} {h : AHp} : Rf d 28 6 [a0, a1, a2] [.int s0, .ref s1] h = if cls (h.1 s1) = 2 ∧ oL (h.1 s1) = 2 then Rf d 28 9 [a0, a1, a2] [] (hset h s1 (oSet (h.1 s1) 0 (.int s0))) else Rx d 28 6 [a0, a1, a2] [.int s0, .ref s1] h := putVk (k := 0) c28_6 (by decide) rfl (fMay_i (by decide +kernel))
theorem x28_6_4 {d : Nat} {a0 a1 a2 : Value} {s0 : Int32} {s1 : Nat} {h : AHp} : Rf d 28 6 [a0, a1, a2] [.int s0, .ref s1] h = if cls (h.1 s1) = 4 ∧ oL (h.1 s1) = 2 then Rf d 28 9 [a0, a1, a2] [] (hset h s1 (oSet (h.1 s1) 0 (.int s0))) else Rx d 28 6 [a0, a1, a2] [.int s0, .ref s1] h := putVk (k := 0) c28_6 (by decide) rfl (fMay_i (by decide +kernel))
theorem x28_6_5 {d : Nat} {a0 a1 a2 : Value} {s0 : Int32} {s1 : Nat} {h : AHp} : Rf d 28 6 [a0, a1, a2] [.int s0, .ref s1] h = if cls (h.1 s1) = 5 ∧ oL (h.1 s1) = 2 then Rf d 28 9 [a0, a1, a2] [] (hset h s1 (oSet (h.1 s1) 0 (.int s0))) else Rx d 28 6 [a0, a1, a2] [.int s0, .ref s1] h := putVk (k := 0) c28_6 (by decide) rfl (fMay_i (by decide +kernel))
theorem x28_6_8 {d : Nat} {a0 a1 a2 : Value} {s0 : Int32} {s1 : Nat} {h : AHp} : Rf d 28 6 [a0, a1, a2] [.int s0, .ref s1] h = if cls (h.1 s1) = 8 ∧ oL (h.1 s1) = 2 then Rf d 28 9 [a0, a1, a2] [] (hset h s1 (oSet (h.1 s1) 0 (.int s0))) else Rx d 28 6 [a0, a1, a2] [.int s0, .ref s1] h := putVk (k := 0) c28_6 (by decide) rfl (fMay_i (by decide +kernel))
theorem x28_6_9 {d : Nat} {a0 a1 a2 : Value} {s0 : Int32} {s1 : Nat} {h : AHp} : Rf d 28 6 [a0, a1, a2] [.int s0, .ref s1] h = if cls (h.1 s1) = 9 ∧ oL (h.1 s1) = 2 then Rf d 28 9 [a0, a1, a2] [] (hset h s1 (oSet (h.1 s1) 0 (.int s0))) else Rx d 28 6 [a0, a1, a2] [.int s0, .ref s1] h := putVk (k := 0) c28_6 (by decide) rfl (fMay_i (by decide +kernel))
theorem c28_9 : cd 28 9 = some (9, .aload_n 0, 1, []) := by decide +kernel
theorem x28_9 {d : Nat} {a1 a2 : Value} {x : Nat} {h : AHp} : Rf d 28 9 [.ref x, a1, a2] [] h = Rf d 28 10 [.ref x, a1, a2] [.ref x] h := Rf_go ((stp_of c28_9).trans rfl)
theorem c28_10 : cd 28 10 = some (10, .iload_n 2, 1, []) := by decide +kernel
theorem x28_10 {d : Nat} {a0 a1 : Value} {s0 : Nat} {x : Int32} {h : AHp} : Rf d 28 10 [a0, a1, .int x] [.ref s0] h = Rf d 28 11 [a0, a1, .int x] [.int x, .ref s0] h := Rf_go ((stp_of c28_10).trans rfl)
theorem c28_11 : cd 28 11 = some (11, .putfield 13, 3, [(0, 1), (1, 1), (2, 1), (4, 1), (5, 1), (8, 1), (9, 1)]) := by decide +kernel
theorem x28_11_0 {d : Nat} {a0 a1 a2 : Value} {s0 : Int32} {s1 : Nat} {h : AHp} : Rf d 28 11 [a0, a1, a2] [.int s0, .ref s1] h = if cls (h.1 s1) = 0 ∧ oL (h.1 s1) = 2 then Rf d 28 14 [a0, a1, a2] [] (hset h s1 (oSet (h.1 s1) 1 (.int s0))) else Rx d 28 11 [a0, a1, a2] [.int s0, .ref s1] h := putVk (k := 1) c28_11 (by decide) rfl (fMay_i (by decide +kernel))
theorem x28_11_1 {d : Nat} {a0 a1 a2 : Value} {s0 : Int32} {s1 : Nat} {h : AHp} : Rf d 28 11 [a0, a1, a2] [.int s0, .ref s1] h = if cls (h.1 s1) = 1 ∧ oL (h.1 s1) = 2 then Rf d 28 14 [a0, a1, a2] [] (hset h s1 (oSet (h.1 s1) 1 (.int s0))) else Rx d 28 11 [a0, a1, a2] [.int s0, .ref s1] h := putVk (k := 1) c28_11 (by decide) rfl (fMay_i (by decide +kernel))
theorem x28_11_2 {d : Nat} {a0 a1 a2 : Value} {s0 : Int32} {s1 : Nat} {h : AHp} : Rf d 28 11 [a0, a1, a2] [.int s0, .ref s1] h = if cls (h.1 s1) = 2 ∧ oL (h.1 s1) = 2 then Rf d 28 14 [a0, a1, a2] [] (hset h s1 (oSet (h.1 s1) 1 (.int s0))) else Rx d 28 11 [a0, a1, a2] [.int s0, .ref s1] h := putVk (k := 1) c28_11 (by decide) rfl (fMay_i (by decide +kernel))
theorem x28_11_4 {d : Nat} {a0 a1 a2 : Value} {s0 : Int32} {s1 : Nat} {h : AHp} : Rf d 28 11 [a0, a1, a2] [.int s0, .ref s1] h = if cls (h.1 s1) = 4 ∧ oL (h.1 s1) = 2 then Rf d 28 14 [a0, a1, a2] [] (hset h s1 (oSet (h.1 s1) 1 (.int s0))) else Rx d 28 11 [a0, a1, a2] [.int s0, .ref s1] h := putVk (k := 1) c28_11 (by decide) rfl (fMay_i (by decide +kernel))
theorem x28_11_5 {d : Nat} {a0 a1 a2 : Value} {s0 : Int32} {s1 : Nat} {h : AHp} : Rf d 28 11 [a0, a1, a2] [.int s0, .ref s1] h = if cls (h.1 s1) = 5 ∧ oL (h.1 s1) = 2 then Rf d 28 14 [a0, a1, a2] [] (hset h s1 (oSet (h.1 s1) 1 (.int s0))) else Rx d 28 11 [a0, a1, a2] [.int s0, .ref s1] h := putVk (k := 1) c28_11 (by decide) rfl (fMay_i (by decide +kernel))
theorem x28_11_8 {d : Nat} {a0 a1 a2 : Value} {s0 : Int32} {s1 : Nat} {h : AHp} : Rf d 28 11 [a0, a1, a2] [.int s0, .ref s1] h = if cls (h.1 s1) = 8 ∧ oL (h.1 s1) = 2 then Rf d 28 14 [a0, a1, a2] [] (hset h s1 (oSet (h.1 s1) 1 (.int s0))) else Rx d 28 11 [a0, a1, a2] [.int s0, .ref s1] h := putVk (k := 1) c28_11 (by decide) rfl (fMay_i (by decide +kernel))
theorem x28_11_9 {d : Nat} {a0 a1 a2 : Value} {s0 : Int32} {s1 : Nat} {h : AHp} : Rf d 28 11 [a0, a1, a2] [.int s0, .ref s1] h = if cls (h.1 s1) = 9 ∧ oL (h.1 s1) = 2 then Rf d 28 14 [a0, a1, a2] [] (hset h s1 (oSet (h.1 s1) 1 (.int s0))) else Rx d 28 11 [a0, a1, a2] [.int s0, .ref s1] h := putVk (k := 1) c28_11 (by decide) rfl (fMay_i (by decide +kernel))
theorem c28_14 : cd 28 14 = some (14, .return_, 1, []) := by decide +kernel
theorem x28_14 {d : Nat} {a0 a1 a2 : Value} {h : AHp} : Rf d 28 14 [a0, a1, a2] [] h = some (none, h) := Rf_end (endV c28_14 (by decide +kernel))
-- 29: X4_made
theorem c29_0 : cd 29 0 = some (0, .iload_n 0, 1, []) := by decide +kernel
theorem x29_0 {d : Nat} {a1 a2 : Value} {x : Int32} {h : AHp} : Rf d 29 0 [.int x, a1, a2] [] h = Rf d 29 1 [.int x, a1, a2] [.int x] h := Rf_go ((stp_of c29_0).trans rfl)
theorem c29_1 : cd 29 1 = some (1, .tableswitch 99 1 6 #[39, 49, 59, 69, 79, 89], 39, [(0, 100), (1, 40), (2, 50), (3, 60), (4, 70), (5, 80), (6, 90)]) := by decide +kernel
theorem x29_1 {d : Nat} {a0 a1 a2 : Value} {s0 : Int32} {h : AHp} : Rf d 29 1 [a0, a1, a2] [.int s0] h = if s0 = 1 then Rf d 29 40 [a0, a1, a2] [] h else (if s0 = 2 then Rf d 29 50 [a0, a1, a2] [] h else (if s0 = 3 then Rf d 29 60 [a0, a1, a2] [] h else (if s0 = 4 then Rf d 29 70 [a0, a1, a2] [] h else (if s0 = 5 then Rf d 29 80 [a0, a1, a2] [] h else (if s0 = 6 then Rf d 29 90 [a0, a1, a2] [] h else (Rf d 29 100 [a0, a1, a2] [] h)))))) := (swE (e := 100) c29_1 rfl).trans (by simp only [List.drop, swT, Rf_ite]; rfl)
theorem c29_90 : cd 29 90 = some (90, .new 33, 3, [(0, 2)]) := by decide +kernel
theorem x29_90 {d : Nat} {a0 a1 a2 : Value} {h : AHp} : Rf d 29 90 [a0, a1, a2] [] h = Rf d 29 93 [a0, a1, a2] [.ref h.2.1] (hnew h (.inr (0, [.int 0, .int 0])) 2) := (Rf_go ((stp_of c29_90).trans rfl)).trans (by rw [df0])
theorem c29_93 : cd 29 93 = some (93, .dup, 1, []) := by decide +kernel
theorem x29_93 {d : Nat} {a0 a1 a2 : Value} {s0 : Nat} {h : AHp} : Rf d 29 93 [a0, a1, a2] [.ref s0] h = Rf d 29 94 [a0, a1, a2] [.ref s0, .ref s0] h := Rf_go ((stp_of c29_93).trans rfl)
theorem c29_94 : cd 29 94 = some (94, .iload_n 1, 1, []) := by decide +kernel
theorem x29_94 {d : Nat} {a0 a2 : Value} {s0 : Nat} {s1 : Nat} {x : Int32} {h : AHp} : Rf d 29 94 [a0, .int x, a2] [.ref s0, .ref s1] h = Rf d 29 95 [a0, .int x, a2] [.int x, .ref s0, .ref s1] h := Rf_go ((stp_of c29_94).trans rfl)
theorem c29_95 : cd 29 95 = some (95, .iload_n 2, 1, []) := by decide +kernel
theorem x29_95 {d : Nat} {a0 a1 : Value} {s0 : Int32} {s1 : Nat} {s2 : Nat} {x : Int32} {h : AHp} : Rf d 29 95 [a0, a1, .int x] [.int s0, .ref s1, .ref s2] h = Rf d 29 96 [a0, a1, .int x] [.int x, .int s0, .ref s1, .ref s2] h := Rf_go ((stp_of c29_95).trans rfl)
theorem c29_96 : cd 29 96 = some (96, .invokespecial 35, 3, [(1003, 0)]) := by decide +kernel
theorem xc29_96 {d : Nat} {a0 a1 a2 : Value} {s0 : Int32} {s1 : Int32} {s2 : Nat} {s3 : Nat} {h : AHp} {h1 : AHp} (hr : cls (h.1 s2) < 13) (hq : Rf d 0 0 [.ref s2, .int s1, .int s0] [] h = some (none, h1)) : Rf (d + 1) 29 96 [a0, a1, a2] [.int s0, .int s1, .ref s2, .ref s3] h = Rf (d + 1) 29 99 [a0, a1, a2] [.ref s3] h1 := clP (as := [.int s1, .int s0]) c29_96 rfl rfl (by simp [isV]) hr hq
theorem c29_99 : cd 29 99 = some (99, .areturn, 1, []) := by decide +kernel
theorem x29_99 {d : Nat} {a0 a1 a2 : Value} {s0 : Nat} {h : AHp} : Rf d 29 99 [a0, a1, a2] [.ref s0] h = some (some (.ref s0), h) := Rf_end (endA c29_99 (by decide +kernel))
theorem c29_80 : cd 29 80 = some (80, .new 30, 3, [(8, 2)]) := by decide +kernel
theorem x29_80 {d : Nat} {a0 a1 a2 : Value} {h : AHp} : Rf d 29 80 [a0, a1, a2] [] h = Rf d 29 83 [a0, a1, a2] [.ref h.2.1] (hnew h (.inr (8, [.int 0, .int 0])) 2) := (Rf_go ((stp_of c29_80).trans rfl)).trans (by rw [df8])
theorem c29_83 : cd 29 83 = some (83, .dup, 1, []) := by decide +kernel
theorem x29_83 {d : Nat} {a0 a1 a2 : Value} {s0 : Nat} {h : AHp} : Rf d 29 83 [a0, a1, a2] [.ref s0] h = Rf d 29 84 [a0, a1, a2] [.ref s0, .ref s0] h := Rf_go ((stp_of c29_83).trans rfl)
theorem c29_84 : cd 29 84 = some (84, .iload_n 1, 1, []) := by decide +kernel
theorem x29_84 {d : Nat} {a0 a2 : Value} {s0 : Nat} {s1 : Nat} {x : Int32} {h : AHp} : Rf d 29 84 [a0, .int x, a2] [.ref s0, .ref s1] h = Rf d 29 85 [a0, .int x, a2] [.int x, .ref s0, .ref s1] h := Rf_go ((stp_of c29_84).trans rfl)
theorem c29_85 : cd 29 85 = some (85, .iload_n 2, 1, []) := by decide +kernel
theorem x29_85 {d : Nat} {a0 a1 : Value} {s0 : Int32} {s1 : Nat} {s2 : Nat} {x : Int32} {h : AHp} : Rf d 29 85 [a0, a1, .int x] [.int s0, .ref s1, .ref s2] h = Rf d 29 86 [a0, a1, .int x] [.int x, .int s0, .ref s1, .ref s2] h := Rf_go ((stp_of c29_85).trans rfl)
theorem c29_86 : cd 29 86 = some (86, .invokespecial 32, 3, [(1003, 84)]) := by decide +kernel
theorem xc29_86 {d : Nat} {a0 a1 a2 : Value} {s0 : Int32} {s1 : Int32} {s2 : Nat} {s3 : Nat} {h : AHp} {h1 : AHp} (hr : cls (h.1 s2) < 13) (hq : Rf d 84 0 [.ref s2, .int s1, .int s0] [] h = some (none, h1)) : Rf (d + 1) 29 86 [a0, a1, a2] [.int s0, .int s1, .ref s2, .ref s3] h = Rf (d + 1) 29 89 [a0, a1, a2] [.ref s3] h1 := clP (as := [.int s1, .int s0]) c29_86 rfl rfl (by simp [isV]) hr hq
theorem c29_89 : cd 29 89 = some (89, .areturn, 1, []) := by decide +kernel
theorem x29_89 {d : Nat} {a0 a1 a2 : Value} {s0 : Nat} {h : AHp} : Rf d 29 89 [a0, a1, a2] [.ref s0] h = some (some (.ref s0), h) := Rf_end (endA c29_89 (by decide +kernel))
theorem c29_70 : cd 29 70 = some (70, .new 27, 3, [(1, 2)]) := by decide +kernel
theorem x29_70 {d : Nat} {a0 a1 a2 : Value} {h : AHp} : Rf d 29 70 [a0, a1, a2] [] h = Rf d 29 73 [a0, a1, a2] [.ref h.2.1] (hnew h (.inr (1, [.int 0, .int 0])) 2) := (Rf_go ((stp_of c29_70).trans rfl)).trans (by rw [df1])
theorem c29_73 : cd 29 73 = some (73, .dup, 1, []) := by decide +kernel
theorem x29_73 {d : Nat} {a0 a1 a2 : Value} {s0 : Nat} {h : AHp} : Rf d 29 73 [a0, a1, a2] [.ref s0] h = Rf d 29 74 [a0, a1, a2] [.ref s0, .ref s0] h := Rf_go ((stp_of c29_73).trans rfl)
theorem c29_74 : cd 29 74 = some (74, .iload_n 1, 1, []) := by decide +kernel
theorem x29_74 {d : Nat} {a0 a2 : Value} {s0 : Nat} {s1 : Nat} {x : Int32} {h : AHp} : Rf d 29 74 [a0, .int x, a2] [.ref s0, .ref s1] h = Rf d 29 75 [a0, .int x, a2] [.int x, .ref s0, .ref s1] h := Rf_go ((stp_of c29_74).trans rfl)
theorem c29_75 : cd 29 75 = some (75, .iload_n 2, 1, []) := by decide +kernel
theorem x29_75 {d : Nat} {a0 a1 : Value} {s0 : Int32} {s1 : Nat} {s2 : Nat} {x : Int32} {h : AHp} : Rf d 29 75 [a0, a1, .int x] [.int s0, .ref s1, .ref s2] h = Rf d 29 76 [a0, a1, .int x] [.int x, .int s0, .ref s1, .ref s2] h := Rf_go ((stp_of c29_75).trans rfl)
theorem c29_76 : cd 29 76 = some (76, .invokespecial 29, 3, [(1003, 4)]) := by decide +kernel
theorem xc29_76 {d : Nat} {a0 a1 a2 : Value} {s0 : Int32} {s1 : Int32} {s2 : Nat} {s3 : Nat} {h : AHp} {h1 : AHp} (hr : cls (h.1 s2) < 13) (hq : Rf d 4 0 [.ref s2, .int s1, .int s0] [] h = some (none, h1)) : Rf (d + 1) 29 76 [a0, a1, a2] [.int s0, .int s1, .ref s2, .ref s3] h = Rf (d + 1) 29 79 [a0, a1, a2] [.ref s3] h1 := clP (as := [.int s1, .int s0]) c29_76 rfl rfl (by simp [isV]) hr hq
theorem c29_79 : cd 29 79 = some (79, .areturn, 1, []) := by decide +kernel
theorem x29_79 {d : Nat} {a0 a1 a2 : Value} {s0 : Nat} {h : AHp} : Rf d 29 79 [a0, a1, a2] [.ref s0] h = some (some (.ref s0), h) := Rf_end (endA c29_79 (by decide +kernel))
theorem c29_60 : cd 29 60 = some (60, .new 24, 3, [(9, 2)]) := by decide +kernel
theorem x29_60 {d : Nat} {a0 a1 a2 : Value} {h : AHp} : Rf d 29 60 [a0, a1, a2] [] h = Rf d 29 63 [a0, a1, a2] [.ref h.2.1] (hnew h (.inr (9, [.int 0, .int 0])) 2) := (Rf_go ((stp_of c29_60).trans rfl)).trans (by rw [df9])
theorem c29_63 : cd 29 63 = some (63, .dup, 1, []) := by decide +kernel
theorem x29_63 {d : Nat} {a0 a1 a2 : Value} {s0 : Nat} {h : AHp} : Rf d 29 63 [a0, a1, a2] [.ref s0] h = Rf d 29 64 [a0, a1, a2] [.ref s0, .ref s0] h := Rf_go ((stp_of c29_63).trans rfl)
theorem c29_64 : cd 29 64 = some (64, .iload_n 1, 1, []) := by decide +kernel
theorem x29_64 {d : Nat} {a0 a2 : Value} {s0 : Nat} {s1 : Nat} {x : Int32} {h : AHp} : Rf d 29 64 [a0, .int x, a2] [.ref s0, .ref s1] h = Rf d 29 65 [a0, .int x, a2] [.int x, .ref s0, .ref s1] h := Rf_go ((stp_of c29_64).trans rfl)
theorem c29_65 : cd 29 65 = some (65, .iload_n 2, 1, []) := by decide +kernel
theorem x29_65 {d : Nat} {a0 a1 : Value} {s0 : Int32} {s1 : Nat} {s2 : Nat} {x : Int32} {h : AHp} : Rf d 29 65 [a0, a1, .int x] [.int s0, .ref s1, .ref s2] h = Rf d 29 66 [a0, a1, .int x] [.int x, .int s0, .ref s1, .ref s2] h := Rf_go ((stp_of c29_65).trans rfl)
theorem c29_66 : cd 29 66 = some (66, .invokespecial 26, 3, [(1003, 88)]) := by decide +kernel
theorem xc29_66 {d : Nat} {a0 a1 a2 : Value} {s0 : Int32} {s1 : Int32} {s2 : Nat} {s3 : Nat} {h : AHp} {h1 : AHp} (hr : cls (h.1 s2) < 13) (hq : Rf d 88 0 [.ref s2, .int s1, .int s0] [] h = some (none, h1)) : Rf (d + 1) 29 66 [a0, a1, a2] [.int s0, .int s1, .ref s2, .ref s3] h = Rf (d + 1) 29 69 [a0, a1, a2] [.ref s3] h1 := clP (as := [.int s1, .int s0]) c29_66 rfl rfl (by simp [isV]) hr hq
theorem c29_69 : cd 29 69 = some (69, .areturn, 1, []) := by decide +kernel
theorem x29_69 {d : Nat} {a0 a1 a2 : Value} {s0 : Nat} {h : AHp} : Rf d 29 69 [a0, a1, a2] [.ref s0] h = some (some (.ref s0), h) := Rf_end (endA c29_69 (by decide +kernel))
theorem c29_50 : cd 29 50 = some (50, .new 21, 3, [(5, 2)]) := by decide +kernel
theorem x29_50 {d : Nat} {a0 a1 a2 : Value} {h : AHp} : Rf d 29 50 [a0, a1, a2] [] h = Rf d 29 53 [a0, a1, a2] [.ref h.2.1] (hnew h (.inr (5, [.int 0, .int 0])) 2) := (Rf_go ((stp_of c29_50).trans rfl)).trans (by rw [df5])
theorem c29_53 : cd 29 53 = some (53, .dup, 1, []) := by decide +kernel
theorem x29_53 {d : Nat} {a0 a1 a2 : Value} {s0 : Nat} {h : AHp} : Rf d 29 53 [a0, a1, a2] [.ref s0] h = Rf d 29 54 [a0, a1, a2] [.ref s0, .ref s0] h := Rf_go ((stp_of c29_53).trans rfl)
theorem c29_54 : cd 29 54 = some (54, .iload_n 1, 1, []) := by decide +kernel
theorem x29_54 {d : Nat} {a0 a2 : Value} {s0 : Nat} {s1 : Nat} {x : Int32} {h : AHp} : Rf d 29 54 [a0, .int x, a2] [.ref s0, .ref s1] h = Rf d 29 55 [a0, .int x, a2] [.int x, .ref s0, .ref s1] h := Rf_go ((stp_of c29_54).trans rfl)
theorem c29_55 : cd 29 55 = some (55, .iload_n 2, 1, []) := by decide +kernel
theorem x29_55 {d : Nat} {a0 a1 : Value} {s0 : Int32} {s1 : Nat} {s2 : Nat} {x : Int32} {h : AHp} : Rf d 29 55 [a0, a1, .int x] [.int s0, .ref s1, .ref s2] h = Rf d 29 56 [a0, a1, .int x] [.int x, .int s0, .ref s1, .ref s2] h := Rf_go ((stp_of c29_55).trans rfl)
theorem c29_56 : cd 29 56 = some (56, .invokespecial 23, 3, [(1003, 35)]) := by decide +kernel
theorem xc29_56 {d : Nat} {a0 a1 a2 : Value} {s0 : Int32} {s1 : Int32} {s2 : Nat} {s3 : Nat} {h : AHp} {h1 : AHp} (hr : cls (h.1 s2) < 13) (hq : Rf d 35 0 [.ref s2, .int s1, .int s0] [] h = some (none, h1)) : Rf (d + 1) 29 56 [a0, a1, a2] [.int s0, .int s1, .ref s2, .ref s3] h = Rf (d + 1) 29 59 [a0, a1, a2] [.ref s3] h1 := clP (as := [.int s1, .int s0]) c29_56 rfl rfl (by simp [isV]) hr hq
theorem c29_59 : cd 29 59 = some (59, .areturn, 1, []) := by decide +kernel
theorem x29_59 {d : Nat} {a0 a1 a2 : Value} {s0 : Nat} {h : AHp} : Rf d 29 59 [a0, a1, a2] [.ref s0] h = some (some (.ref s0), h) := Rf_end (endA c29_59 (by decide +kernel))
theorem c29_40 : cd 29 40 = some (40, .new 16, 3, [(2, 2)]) := by decide +kernel
theorem x29_40 {d : Nat} {a0 a1 a2 : Value} {h : AHp} : Rf d 29 40 [a0, a1, a2] [] h = Rf d 29 43 [a0, a1, a2] [.ref h.2.1] (hnew h (.inr (2, [.int 0, .int 0])) 2) := (Rf_go ((stp_of c29_40).trans rfl)).trans (by rw [df2])
theorem c29_43 : cd 29 43 = some (43, .dup, 1, []) := by decide +kernel
theorem x29_43 {d : Nat} {a0 a1 a2 : Value} {s0 : Nat} {h : AHp} : Rf d 29 43 [a0, a1, a2] [.ref s0] h = Rf d 29 44 [a0, a1, a2] [.ref s0, .ref s0] h := Rf_go ((stp_of c29_43).trans rfl)
theorem c29_44 : cd 29 44 = some (44, .iload_n 1, 1, []) := by decide +kernel
theorem x29_44 {d : Nat} {a0 a2 : Value} {s0 : Nat} {s1 : Nat} {x : Int32} {h : AHp} : Rf d 29 44 [a0, .int x, a2] [.ref s0, .ref s1] h = Rf d 29 45 [a0, .int x, a2] [.int x, .ref s0, .ref s1] h := Rf_go ((stp_of c29_44).trans rfl)
theorem c29_45 : cd 29 45 = some (45, .iload_n 2, 1, []) := by decide +kernel
theorem x29_45 {d : Nat} {a0 a1 : Value} {s0 : Int32} {s1 : Nat} {s2 : Nat} {x : Int32} {h : AHp} : Rf d 29 45 [a0, a1, .int x] [.int s0, .ref s1, .ref s2] h = Rf d 29 46 [a0, a1, .int x] [.int x, .int s0, .ref s1, .ref s2] h := Rf_go ((stp_of c29_45).trans rfl)
theorem c29_46 : cd 29 46 = some (46, .invokespecial 18, 3, [(1003, 8)]) := by decide +kernel
theorem xc29_46 {d : Nat} {a0 a1 a2 : Value} {s0 : Int32} {s1 : Int32} {s2 : Nat} {s3 : Nat} {h : AHp} {h1 : AHp} (hr : cls (h.1 s2) < 13) (hq : Rf d 8 0 [.ref s2, .int s1, .int s0] [] h = some (none, h1)) : Rf (d + 1) 29 46 [a0, a1, a2] [.int s0, .int s1, .ref s2, .ref s3] h = Rf (d + 1) 29 49 [a0, a1, a2] [.ref s3] h1 := clP (as := [.int s1, .int s0]) c29_46 rfl rfl (by simp [isV]) hr hq
theorem c29_49 : cd 29 49 = some (49, .areturn, 1, []) := by decide +kernel
theorem x29_49 {d : Nat} {a0 a1 a2 : Value} {s0 : Nat} {h : AHp} : Rf d 29 49 [a0, a1, a2] [.ref s0] h = some (some (.ref s0), h) := Rf_end (endA c29_49 (by decide +kernel))
theorem c29_100 : cd 29 100 = some (100, .new 8, 3, [(4, 2)]) := by decide +kernel
theorem x29_100 {d : Nat} {a0 a1 a2 : Value} {h : AHp} : Rf d 29 100 [a0, a1, a2] [] h = Rf d 29 103 [a0, a1, a2] [.ref h.2.1] (hnew h (.inr (4, [.int 0, .int 0])) 2) := (Rf_go ((stp_of c29_100).trans rfl)).trans (by rw [df4])
theorem c29_103 : cd 29 103 = some (103, .dup, 1, []) := by decide +kernel
theorem x29_103 {d : Nat} {a0 a1 a2 : Value} {s0 : Nat} {h : AHp} : Rf d 29 103 [a0, a1, a2] [.ref s0] h = Rf d 29 104 [a0, a1, a2] [.ref s0, .ref s0] h := Rf_go ((stp_of c29_103).trans rfl)
theorem c29_104 : cd 29 104 = some (104, .iload_n 1, 1, []) := by decide +kernel
theorem x29_104 {d : Nat} {a0 a2 : Value} {s0 : Nat} {s1 : Nat} {x : Int32} {h : AHp} : Rf d 29 104 [a0, .int x, a2] [.ref s0, .ref s1] h = Rf d 29 105 [a0, .int x, a2] [.int x, .ref s0, .ref s1] h := Rf_go ((stp_of c29_104).trans rfl)
theorem c29_105 : cd 29 105 = some (105, .iload_n 2, 1, []) := by decide +kernel
theorem x29_105 {d : Nat} {a0 a1 : Value} {s0 : Int32} {s1 : Nat} {s2 : Nat} {x : Int32} {h : AHp} : Rf d 29 105 [a0, a1, .int x] [.int s0, .ref s1, .ref s2] h = Rf d 29 106 [a0, a1, .int x] [.int x, .int s0, .ref s1, .ref s2] h := Rf_go ((stp_of c29_105).trans rfl)
theorem c29_106 : cd 29 106 = some (106, .invokespecial 36, 3, [(1003, 28)]) := by decide +kernel
theorem xc29_106 {d : Nat} {a0 a1 a2 : Value} {s0 : Int32} {s1 : Int32} {s2 : Nat} {s3 : Nat} {h : AHp} {h1 : AHp} (hr : cls (h.1 s2) < 13) (hq : Rf d 28 0 [.ref s2, .int s1, .int s0] [] h = some (none, h1)) : Rf (d + 1) 29 106 [a0, a1, a2] [.int s0, .int s1, .ref s2, .ref s3] h = Rf (d + 1) 29 109 [a0, a1, a2] [.ref s3] h1 := clP (as := [.int s1, .int s0]) c29_106 rfl rfl (by simp [isV]) hr hq
theorem c29_109 : cd 29 109 = some (109, .areturn, 1, []) := by decide +kernel
theorem x29_109 {d : Nat} {a0 a1 a2 : Value} {s0 : Nat} {h : AHp} : Rf d 29 109 [a0, a1, a2] [.ref s0] h = some (some (.ref s0), h) := Rf_end (endA c29_109 (by decide +kernel))
-- 30: X4_kind
theorem c30_0 : cd 30 0 = some (0, .iconst 0, 1, []) := by decide +kernel
theorem x30_0 {d : Nat} {a0 : Value} {h : AHp} : Rf d 30 0 [a0] [] h = Rf d 30 1 [a0] [.int 0] h := Rf_go ((stp_of c30_0).trans rfl)
theorem c30_1 : cd 30 1 = some (1, .ireturn, 1, []) := by decide +kernel
theorem x30_1 {d : Nat} {a0 : Value} {s0 : Int32} {h : AHp} : Rf d 30 1 [a0] [.int s0] h = some (some (.int s0), h) := Rf_end (by rw [stp_of c30_1]; simp only [stpI]; rw [if_pos (show retI (mH 30).2.2.1 s0 = true from retI_int)])
-- 31: X4_belief
theorem c31_0 : cd 31 0 = some (0, .aload_n 1, 1, []) := by decide +kernel
theorem x31_0 {d : Nat} {a0 : Value} {x : Nat} {h : AHp} : Rf d 31 0 [a0, .ref x] [] h = Rf d 31 1 [a0, .ref x] [.ref x] h := Rf_go ((stp_of c31_0).trans rfl)
theorem c31_1 : cd 31 1 = some (1, .aload_n 0, 1, []) := by decide +kernel
theorem x31_1 {d : Nat} {a1 : Value} {s0 : Nat} {x : Nat} {h : AHp} : Rf d 31 1 [.ref x, a1] [.ref s0] h = Rf d 31 2 [.ref x, a1] [.ref x, .ref s0] h := Rf_go ((stp_of c31_1).trans rfl)
theorem c31_2 : cd 31 2 = some (2, .getfield 7, 3, [(0, 0), (1, 0), (2, 0), (4, 0), (5, 0), (8, 0), (9, 0)]) := by decide +kernel
theorem x31_2 {d : Nat} {a0 a1 : Value} {s0 : Nat} {s1 : Nat} {h : AHp} : Rf d 31 2 [a0, a1] [.ref s0, .ref s1] h = if fIx [(0, 0), (1, 0), (2, 0), (4, 0), (5, 0), (8, 0), (9, 0)] (cls (h.1 s0)) = some 0 ∧ oKi (h.1 s0) 0 = true then Rf d 31 5 [a0, a1] [.int (oN (h.1 s0) 0), .ref s1] h else Rx d 31 2 [a0, a1] [.ref s0, .ref s1] h := getIk c31_2
theorem c31_5 : cd 31 5 = some (5, .invokevirtual 37, 3, [(6, 48)]) := by decide +kernel
theorem xc31_5 {d : Nat} {a0 a1 : Value} {s0 : Int32} {s1 : Nat} {h : AHp} {h1 : AHp} {v : Int32} (hr : cls (h.1 s1) = 6) (hq : Rf d 48 0 [.ref s1, .int s0] [] h = some (some (.int v), h1)) : Rf (d + 1) 31 5 [a0, a1] [.int s0, .ref s1] h = Rf (d + 1) 31 8 [a0, a1] [.int v] h1 := clV (c := 48) (as := [.int s0]) c31_5 rfl (by simp [isV]) (by rw [hr]; rfl) hq
theorem c31_8 : cd 31 8 = some (8, .ireturn, 1, []) := by decide +kernel
theorem x31_8 {d : Nat} {a0 a1 : Value} {s0 : Int32} {h : AHp} : Rf d 31 8 [a0, a1] [.int s0] h = some (some (.int s0), h) := Rf_end (by rw [stp_of c31_8]; simp only [stpI]; rw [if_pos (show retI (mH 31).2.2.1 s0 = true from retI_int)])
-- 32: X4_has
theorem c32_0 : cd 32 0 = some (0, .aload_n 1, 1, []) := by decide +kernel
theorem x32_0 {d : Nat} {a0 a2 : Value} {x : Nat} {h : AHp} : Rf d 32 0 [a0, .ref x, a2] [] h = Rf d 32 1 [a0, .ref x, a2] [.ref x] h := Rf_go ((stp_of c32_0).trans rfl)
theorem c32_1 : cd 32 1 = some (1, .iconst 1, 1, []) := by decide +kernel
theorem x32_1 {d : Nat} {a0 a1 a2 : Value} {s0 : Nat} {h : AHp} : Rf d 32 1 [a0, a1, a2] [.ref s0] h = Rf d 32 2 [a0, a1, a2] [.int 1, .ref s0] h := Rf_go ((stp_of c32_1).trans rfl)
theorem c32_2 : cd 32 2 = some (2, .invokevirtual 43, 3, [(10, 93)]) := by decide +kernel
theorem xc32_2 {d : Nat} {a0 a1 a2 : Value} {s0 : Int32} {s1 : Nat} {h : AHp} {h1 : AHp} (hr : cls (h.1 s1) = 10) (hq : Rf d 93 0 [.ref s1, .int s0] [] h = some (none, h1)) : Rf (d + 1) 32 2 [a0, a1, a2] [.int s0, .ref s1] h = Rf (d + 1) 32 5 [a0, a1, a2] [] h1 := clV (c := 93) (as := [.int s0]) c32_2 rfl (by simp [isV]) (by rw [hr]; rfl) hq
theorem c32_5 : cd 32 5 = some (5, .iload_n 2, 1, []) := by decide +kernel
theorem x32_5 {d : Nat} {a0 a1 : Value} {x : Int32} {h : AHp} : Rf d 32 5 [a0, a1, .int x] [] h = Rf d 32 6 [a0, a1, .int x] [.int x] h := Rf_go ((stp_of c32_5).trans rfl)
theorem c32_6 : cd 32 6 = some (6, .aload_n 0, 1, []) := by decide +kernel
theorem x32_6 {d : Nat} {a1 a2 : Value} {s0 : Int32} {x : Nat} {h : AHp} : Rf d 32 6 [.ref x, a1, a2] [.int s0] h = Rf d 32 7 [.ref x, a1, a2] [.ref x, .int s0] h := Rf_go ((stp_of c32_6).trans rfl)
theorem c32_7 : cd 32 7 = some (7, .getfield 7, 3, [(0, 0), (1, 0), (2, 0), (4, 0), (5, 0), (8, 0), (9, 0)]) := by decide +kernel
theorem x32_7 {d : Nat} {a0 a1 a2 : Value} {s0 : Nat} {s1 : Int32} {h : AHp} : Rf d 32 7 [a0, a1, a2] [.ref s0, .int s1] h = if fIx [(0, 0), (1, 0), (2, 0), (4, 0), (5, 0), (8, 0), (9, 0)] (cls (h.1 s0)) = some 0 ∧ oKi (h.1 s0) 0 = true then Rf d 32 10 [a0, a1, a2] [.int (oN (h.1 s0) 0), .int s1] h else Rx d 32 7 [a0, a1, a2] [.ref s0, .int s1] h := getIk c32_7
theorem c32_10 : cd 32 10 = some (10, .iadd, 1, []) := by decide +kernel
theorem x32_10 {d : Nat} {a0 a1 a2 : Value} {s0 : Int32} {s1 : Int32} {h : AHp} : Rf d 32 10 [a0, a1, a2] [.int s0, .int s1] h = Rf d 32 11 [a0, a1, a2] [.int (s1 + s0)] h := Rf_go ((stp_of c32_10).trans rfl)
theorem c32_11 : cd 32 11 = some (11, .ireturn, 1, []) := by decide +kernel
theorem x32_11 {d : Nat} {a0 a1 a2 : Value} {s0 : Int32} {h : AHp} : Rf d 32 11 [a0, a1, a2] [.int s0] h = some (some (.int s0), h) := Rf_end (by rw [stp_of c32_11]; simp only [stpI]; rw [if_pos (show retI (mH 32).2.2.1 s0 = true from retI_int)])
-- 33: X4_asks
theorem c33_0 : cd 33 0 = some (0, .aload_n 1, 1, []) := by decide +kernel
theorem x33_0 {d : Nat} {a0 a2 : Value} {x : Nat} {h : AHp} : Rf d 33 0 [a0, .ref x, a2] [] h = Rf d 33 1 [a0, .ref x, a2] [.ref x] h := Rf_go ((stp_of c33_0).trans rfl)
theorem c33_1 : cd 33 1 = some (1, .iconst 2, 1, []) := by decide +kernel
theorem x33_1 {d : Nat} {a0 a1 a2 : Value} {s0 : Nat} {h : AHp} : Rf d 33 1 [a0, a1, a2] [.ref s0] h = Rf d 33 2 [a0, a1, a2] [.int 2, .ref s0] h := Rf_go ((stp_of c33_1).trans rfl)
theorem c33_2 : cd 33 2 = some (2, .invokevirtual 43, 3, [(10, 93)]) := by decide +kernel
theorem xc33_2 {d : Nat} {a0 a1 a2 : Value} {s0 : Int32} {s1 : Nat} {h : AHp} {h1 : AHp} (hr : cls (h.1 s1) = 10) (hq : Rf d 93 0 [.ref s1, .int s0] [] h = some (none, h1)) : Rf (d + 1) 33 2 [a0, a1, a2] [.int s0, .ref s1] h = Rf (d + 1) 33 5 [a0, a1, a2] [] h1 := clV (c := 93) (as := [.int s0]) c33_2 rfl (by simp [isV]) (by rw [hr]; rfl) hq
theorem c33_5 : cd 33 5 = some (5, .aload_n 0, 1, []) := by decide +kernel
theorem x33_5 {d : Nat} {a1 a2 : Value} {x : Nat} {h : AHp} : Rf d 33 5 [.ref x, a1, a2] [] h = Rf d 33 6 [.ref x, a1, a2] [.ref x] h := Rf_go ((stp_of c33_5).trans rfl)
theorem c33_6 : cd 33 6 = some (6, .aload_n 1, 1, []) := by decide +kernel
theorem x33_6 {d : Nat} {a0 a2 : Value} {s0 : Nat} {x : Nat} {h : AHp} : Rf d 33 6 [a0, .ref x, a2] [.ref s0] h = Rf d 33 7 [a0, .ref x, a2] [.ref x, .ref s0] h := Rf_go ((stp_of c33_6).trans rfl)
theorem c33_7 : cd 33 7 = some (7, .iload_n 2, 1, []) := by decide +kernel
theorem x33_7 {d : Nat} {a0 a1 : Value} {s0 : Nat} {s1 : Nat} {x : Int32} {h : AHp} : Rf d 33 7 [a0, a1, .int x] [.ref s0, .ref s1] h = Rf d 33 8 [a0, a1, .int x] [.int x, .ref s0, .ref s1] h := Rf_go ((stp_of c33_7).trans rfl)
theorem c33_8 : cd 33 8 = some (8, .invokevirtual 49, 3, [(0, 32), (1, 11), (2, 11), (4, 32), (5, 32), (8, 87), (9, 32), (201, 4), (202, 4)]) := by decide +kernel
theorem xc33_8_0 {d : Nat} {a0 a1 a2 : Value} {s0 : Int32} {s1 : Nat} {s2 : Nat} {h : AHp} {h1 : AHp} {v : Int32} (hr : cls (h.1 s2) = 0) (hq : Rf d 32 0 [.ref s2, .ref s1, .int s0] [] h = some (some (.int v), h1)) : Rf (d + 1) 33 8 [a0, a1, a2] [.int s0, .ref s1, .ref s2] h = Rf (d + 1) 33 11 [a0, a1, a2] [.int v] h1 := clV (c := 32) (as := [.ref s1, .int s0]) c33_8 rfl (by simp [isV]) (by rw [hr]; rfl) hq
theorem xc33_8_1 {d : Nat} {a0 a1 a2 : Value} {s0 : Int32} {s1 : Nat} {s2 : Nat} {h : AHp} {h1 : AHp} {v : Int32} (hr : cls (h.1 s2) = 1) (hq : Rf d 11 0 [.ref s2, .ref s1, .int s0] [] h = some (some (.int v), h1)) : Rf (d + 1) 33 8 [a0, a1, a2] [.int s0, .ref s1, .ref s2] h = Rf (d + 1) 33 11 [a0, a1, a2] [.int v] h1 := clV (c := 11) (as := [.ref s1, .int s0]) c33_8 rfl (by simp [isV]) (by rw [hr]; rfl) hq
theorem xc33_8_2 {d : Nat} {a0 a1 a2 : Value} {s0 : Int32} {s1 : Nat} {s2 : Nat} {h : AHp} {h1 : AHp} {v : Int32} (hr : cls (h.1 s2) = 2) (hq : Rf d 11 0 [.ref s2, .ref s1, .int s0] [] h = some (some (.int v), h1)) : Rf (d + 1) 33 8 [a0, a1, a2] [.int s0, .ref s1, .ref s2] h = Rf (d + 1) 33 11 [a0, a1, a2] [.int v] h1 := clV (c := 11) (as := [.ref s1, .int s0]) c33_8 rfl (by simp [isV]) (by rw [hr]; rfl) hq
theorem xc33_8_4 {d : Nat} {a0 a1 a2 : Value} {s0 : Int32} {s1 : Nat} {s2 : Nat} {h : AHp} {h1 : AHp} {v : Int32} (hr : cls (h.1 s2) = 4) (hq : Rf d 32 0 [.ref s2, .ref s1, .int s0] [] h = some (some (.int v), h1)) : Rf (d + 1) 33 8 [a0, a1, a2] [.int s0, .ref s1, .ref s2] h = Rf (d + 1) 33 11 [a0, a1, a2] [.int v] h1 := clV (c := 32) (as := [.ref s1, .int s0]) c33_8 rfl (by simp [isV]) (by rw [hr]; rfl) hq
theorem xc33_8_5 {d : Nat} {a0 a1 a2 : Value} {s0 : Int32} {s1 : Nat} {s2 : Nat} {h : AHp} {h1 : AHp} {v : Int32} (hr : cls (h.1 s2) = 5) (hq : Rf d 32 0 [.ref s2, .ref s1, .int s0] [] h = some (some (.int v), h1)) : Rf (d + 1) 33 8 [a0, a1, a2] [.int s0, .ref s1, .ref s2] h = Rf (d + 1) 33 11 [a0, a1, a2] [.int v] h1 := clV (c := 32) (as := [.ref s1, .int s0]) c33_8 rfl (by simp [isV]) (by rw [hr]; rfl) hq
theorem xc33_8_8 {d : Nat} {a0 a1 a2 : Value} {s0 : Int32} {s1 : Nat} {s2 : Nat} {h : AHp} {h1 : AHp} {v : Int32} (hr : cls (h.1 s2) = 8) (hq : Rf d 87 0 [.ref s2, .ref s1, .int s0] [] h = some (some (.int v), h1)) : Rf (d + 1) 33 8 [a0, a1, a2] [.int s0, .ref s1, .ref s2] h = Rf (d + 1) 33 11 [a0, a1, a2] [.int v] h1 := clV (c := 87) (as := [.ref s1, .int s0]) c33_8 rfl (by simp [isV]) (by rw [hr]; rfl) hq
theorem xc33_8_9 {d : Nat} {a0 a1 a2 : Value} {s0 : Int32} {s1 : Nat} {s2 : Nat} {h : AHp} {h1 : AHp} {v : Int32} (hr : cls (h.1 s2) = 9) (hq : Rf d 32 0 [.ref s2, .ref s1, .int s0] [] h = some (some (.int v), h1)) : Rf (d + 1) 33 8 [a0, a1, a2] [.int s0, .ref s1, .ref s2] h = Rf (d + 1) 33 11 [a0, a1, a2] [.int v] h1 := clV (c := 32) (as := [.ref s1, .int s0]) c33_8 rfl (by simp [isV]) (by rw [hr]; rfl) hq
theorem c33_11 : cd 33 11 = some (11, .aload_n 0, 1, []) := by decide +kernel
theorem x33_11 {d : Nat} {a1 a2 : Value} {s0 : Int32} {x : Nat} {h : AHp} : Rf d 33 11 [.ref x, a1, a2] [.int s0] h = Rf d 33 12 [.ref x, a1, a2] [.ref x, .int s0] h := Rf_go ((stp_of c33_11).trans rfl)
theorem c33_12 : cd 33 12 = some (12, .getfield 13, 3, [(0, 1), (1, 1), (2, 1), (4, 1), (5, 1), (8, 1), (9, 1)]) := by decide +kernel
theorem x33_12 {d : Nat} {a0 a1 a2 : Value} {s0 : Nat} {s1 : Int32} {h : AHp} : Rf d 33 12 [a0, a1, a2] [.ref s0, .int s1] h = if fIx [(0, 1), (1, 1), (2, 1), (4, 1), (5, 1), (8, 1), (9, 1)] (cls (h.1 s0)) = some 1 ∧ oKi (h.1 s0) 1 = true then Rf d 33 15 [a0, a1, a2] [.int (oN (h.1 s0) 1), .int s1] h else Rx d 33 12 [a0, a1, a2] [.ref s0, .int s1] h := getIk c33_12
theorem c33_15 : cd 33 15 = some (15, .isub, 1, []) := by decide +kernel
theorem x33_15 {d : Nat} {a0 a1 a2 : Value} {s0 : Int32} {s1 : Int32} {h : AHp} : Rf d 33 15 [a0, a1, a2] [.int s0, .int s1] h = Rf d 33 16 [a0, a1, a2] [.int (s1 - s0)] h := Rf_go ((stp_of c33_15).trans rfl)
theorem c33_16 : cd 33 16 = some (16, .ireturn, 1, []) := by decide +kernel
theorem x33_16 {d : Nat} {a0 a1 a2 : Value} {s0 : Int32} {h : AHp} : Rf d 33 16 [a0, a1, a2] [.int s0] h = some (some (.int s0), h) := Rf_end (by rw [stp_of c33_16]; simp only [stpI]; rw [if_pos (show retI (mH 33).2.2.1 s0 = true from retI_int)])
-- 34: X4_tells
theorem c34_0 : cd 34 0 = some (0, .aload_n 1, 1, []) := by decide +kernel
theorem x34_0 {d : Nat} {a0 a2 : Value} {x : Nat} {h : AHp} : Rf d 34 0 [a0, .ref x, a2] [] h = Rf d 34 1 [a0, .ref x, a2] [.ref x] h := Rf_go ((stp_of c34_0).trans rfl)
theorem c34_1 : cd 34 1 = some (1, .iconst 3, 1, []) := by decide +kernel
theorem x34_1 {d : Nat} {a0 a1 a2 : Value} {s0 : Nat} {h : AHp} : Rf d 34 1 [a0, a1, a2] [.ref s0] h = Rf d 34 2 [a0, a1, a2] [.int 3, .ref s0] h := Rf_go ((stp_of c34_1).trans rfl)
theorem c34_2 : cd 34 2 = some (2, .invokevirtual 43, 3, [(10, 93)]) := by decide +kernel
theorem xc34_2 {d : Nat} {a0 a1 a2 : Value} {s0 : Int32} {s1 : Nat} {h : AHp} {h1 : AHp} (hr : cls (h.1 s1) = 10) (hq : Rf d 93 0 [.ref s1, .int s0] [] h = some (none, h1)) : Rf (d + 1) 34 2 [a0, a1, a2] [.int s0, .ref s1] h = Rf (d + 1) 34 5 [a0, a1, a2] [] h1 := clV (c := 93) (as := [.int s0]) c34_2 rfl (by simp [isV]) (by rw [hr]; rfl) hq
theorem c34_5 : cd 34 5 = some (5, .aload_n 0, 1, []) := by decide +kernel
theorem x34_5 {d : Nat} {a1 a2 : Value} {x : Nat} {h : AHp} : Rf d 34 5 [.ref x, a1, a2] [] h = Rf d 34 6 [.ref x, a1, a2] [.ref x] h := Rf_go ((stp_of c34_5).trans rfl)
theorem c34_6 : cd 34 6 = some (6, .aload_n 1, 1, []) := by decide +kernel
theorem x34_6 {d : Nat} {a0 a2 : Value} {s0 : Nat} {x : Nat} {h : AHp} : Rf d 34 6 [a0, .ref x, a2] [.ref s0] h = Rf d 34 7 [a0, .ref x, a2] [.ref x, .ref s0] h := Rf_go ((stp_of c34_6).trans rfl)
theorem c34_7 : cd 34 7 = some (7, .iload_n 2, 1, []) := by decide +kernel
theorem x34_7 {d : Nat} {a0 a1 : Value} {s0 : Nat} {s1 : Nat} {x : Int32} {h : AHp} : Rf d 34 7 [a0, a1, .int x] [.ref s0, .ref s1] h = Rf d 34 8 [a0, a1, .int x] [.int x, .ref s0, .ref s1] h := Rf_go ((stp_of c34_7).trans rfl)
theorem c34_8 : cd 34 8 = some (8, .invokevirtual 53, 3, [(0, 3), (1, 33), (2, 33), (4, 33), (5, 38), (8, 38), (9, 33), (201, 4), (202, 4)]) := by decide +kernel
theorem xc34_8_0 {d : Nat} {a0 a1 a2 : Value} {s0 : Int32} {s1 : Nat} {s2 : Nat} {h : AHp} {h1 : AHp} {v : Int32} (hr : cls (h.1 s2) = 0) (hq : Rf d 3 0 [.ref s2, .ref s1, .int s0] [] h = some (some (.int v), h1)) : Rf (d + 1) 34 8 [a0, a1, a2] [.int s0, .ref s1, .ref s2] h = Rf (d + 1) 34 11 [a0, a1, a2] [.int v] h1 := clV (c := 3) (as := [.ref s1, .int s0]) c34_8 rfl (by simp [isV]) (by rw [hr]; rfl) hq
theorem xc34_8_1 {d : Nat} {a0 a1 a2 : Value} {s0 : Int32} {s1 : Nat} {s2 : Nat} {h : AHp} {h1 : AHp} {v : Int32} (hr : cls (h.1 s2) = 1) (hq : Rf d 33 0 [.ref s2, .ref s1, .int s0] [] h = some (some (.int v), h1)) : Rf (d + 1) 34 8 [a0, a1, a2] [.int s0, .ref s1, .ref s2] h = Rf (d + 1) 34 11 [a0, a1, a2] [.int v] h1 := clV (c := 33) (as := [.ref s1, .int s0]) c34_8 rfl (by simp [isV]) (by rw [hr]; rfl) hq
theorem xc34_8_2 {d : Nat} {a0 a1 a2 : Value} {s0 : Int32} {s1 : Nat} {s2 : Nat} {h : AHp} {h1 : AHp} {v : Int32} (hr : cls (h.1 s2) = 2) (hq : Rf d 33 0 [.ref s2, .ref s1, .int s0] [] h = some (some (.int v), h1)) : Rf (d + 1) 34 8 [a0, a1, a2] [.int s0, .ref s1, .ref s2] h = Rf (d + 1) 34 11 [a0, a1, a2] [.int v] h1 := clV (c := 33) (as := [.ref s1, .int s0]) c34_8 rfl (by simp [isV]) (by rw [hr]; rfl) hq
theorem xc34_8_4 {d : Nat} {a0 a1 a2 : Value} {s0 : Int32} {s1 : Nat} {s2 : Nat} {h : AHp} {h1 : AHp} {v : Int32} (hr : cls (h.1 s2) = 4) (hq : Rf d 33 0 [.ref s2, .ref s1, .int s0] [] h = some (some (.int v), h1)) : Rf (d + 1) 34 8 [a0, a1, a2] [.int s0, .ref s1, .ref s2] h = Rf (d + 1) 34 11 [a0, a1, a2] [.int v] h1 := clV (c := 33) (as := [.ref s1, .int s0]) c34_8 rfl (by simp [isV]) (by rw [hr]; rfl) hq
theorem xc34_8_5 {d : Nat} {a0 a1 a2 : Value} {s0 : Int32} {s1 : Nat} {s2 : Nat} {h : AHp} {h1 : AHp} {v : Int32} (hr : cls (h.1 s2) = 5) (hq : Rf d 38 0 [.ref s2, .ref s1, .int s0] [] h = some (some (.int v), h1)) : Rf (d + 1) 34 8 [a0, a1, a2] [.int s0, .ref s1, .ref s2] h = Rf (d + 1) 34 11 [a0, a1, a2] [.int v] h1 := clV (c := 38) (as := [.ref s1, .int s0]) c34_8 rfl (by simp [isV]) (by rw [hr]; rfl) hq
theorem xc34_8_8 {d : Nat} {a0 a1 a2 : Value} {s0 : Int32} {s1 : Nat} {s2 : Nat} {h : AHp} {h1 : AHp} {v : Int32} (hr : cls (h.1 s2) = 8) (hq : Rf d 38 0 [.ref s2, .ref s1, .int s0] [] h = some (some (.int v), h1)) : Rf (d + 1) 34 8 [a0, a1, a2] [.int s0, .ref s1, .ref s2] h = Rf (d + 1) 34 11 [a0, a1, a2] [.int v] h1 := clV (c := 38) (as := [.ref s1, .int s0]) c34_8 rfl (by simp [isV]) (by rw [hr]; rfl) hq
theorem xc34_8_9 {d : Nat} {a0 a1 a2 : Value} {s0 : Int32} {s1 : Nat} {s2 : Nat} {h : AHp} {h1 : AHp} {v : Int32} (hr : cls (h.1 s2) = 9) (hq : Rf d 33 0 [.ref s2, .ref s1, .int s0] [] h = some (some (.int v), h1)) : Rf (d + 1) 34 8 [a0, a1, a2] [.int s0, .ref s1, .ref s2] h = Rf (d + 1) 34 11 [a0, a1, a2] [.int v] h1 := clV (c := 33) (as := [.ref s1, .int s0]) c34_8 rfl (by simp [isV]) (by rw [hr]; rfl) hq
theorem c34_11 : cd 34 11 = some (11, .iconst 2, 1, []) := by decide +kernel
theorem x34_11 {d : Nat} {a0 a1 a2 : Value} {s0 : Int32} {h : AHp} : Rf d 34 11 [a0, a1, a2] [.int s0] h = Rf d 34 12 [a0, a1, a2] [.int 2, .int s0] h := Rf_go ((stp_of c34_11).trans rfl)
theorem c34_12 : cd 34 12 = some (12, .imul, 1, []) := by decide +kernel
theorem x34_12 {d : Nat} {a0 a1 a2 : Value} {s0 : Int32} {s1 : Int32} {h : AHp} : Rf d 34 12 [a0, a1, a2] [.int s0, .int s1] h = Rf d 34 13 [a0, a1, a2] [.int (s1 * s0)] h := Rf_go ((stp_of c34_12).trans rfl)
theorem c34_13 : cd 34 13 = some (13, .ireturn, 1, []) := by decide +kernel
theorem x34_13 {d : Nat} {a0 a1 a2 : Value} {s0 : Int32} {h : AHp} : Rf d 34 13 [a0, a1, a2] [.int s0] h = some (some (.int s0), h) := Rf_end (by rw [stp_of c34_13]; simp only [stpI]; rw [if_pos (show retI (mH 34).2.2.1 s0 = true from retI_int)])
-- 35: X5_init
theorem c35_0 : cd 35 0 = some (0, .aload_n 0, 1, []) := by decide +kernel
theorem x35_0 {d : Nat} {a1 a2 : Value} {x : Nat} {h : AHp} : Rf d 35 0 [.ref x, a1, a2] [] h = Rf d 35 1 [.ref x, a1, a2] [.ref x] h := Rf_go ((stp_of c35_0).trans rfl)
theorem c35_1 : cd 35 1 = some (1, .iload_n 1, 1, []) := by decide +kernel
theorem x35_1 {d : Nat} {a0 a2 : Value} {s0 : Nat} {x : Int32} {h : AHp} : Rf d 35 1 [a0, .int x, a2] [.ref s0] h = Rf d 35 2 [a0, .int x, a2] [.int x, .ref s0] h := Rf_go ((stp_of c35_1).trans rfl)
theorem c35_2 : cd 35 2 = some (2, .iload_n 2, 1, []) := by decide +kernel
theorem x35_2 {d : Nat} {a0 a1 : Value} {s0 : Int32} {s1 : Nat} {x : Int32} {h : AHp} : Rf d 35 2 [a0, a1, .int x] [.int s0, .ref s1] h = Rf d 35 3 [a0, a1, .int x] [.int x, .int s0, .ref s1] h := Rf_go ((stp_of c35_2).trans rfl)
theorem c35_3 : cd 35 3 = some (3, .invokespecial 1, 3, [(1003, 28)]) := by decide +kernel
theorem xc35_3 {d : Nat} {a0 a1 a2 : Value} {s0 : Int32} {s1 : Int32} {s2 : Nat} {h : AHp} {h1 : AHp} (hr : cls (h.1 s2) < 13) (hq : Rf d 28 0 [.ref s2, .int s1, .int s0] [] h = some (none, h1)) : Rf (d + 1) 35 3 [a0, a1, a2] [.int s0, .int s1, .ref s2] h = Rf (d + 1) 35 6 [a0, a1, a2] [] h1 := clP (as := [.int s1, .int s0]) c35_3 rfl rfl (by simp [isV]) hr hq
theorem c35_6 : cd 35 6 = some (6, .return_, 1, []) := by decide +kernel
theorem x35_6 {d : Nat} {a0 a1 a2 : Value} {h : AHp} : Rf d 35 6 [a0, a1, a2] [] h = some (none, h) := Rf_end (endV c35_6 (by decide +kernel))
-- 36: X5_kind
theorem c36_0 : cd 36 0 = some (0, .iconst 2, 1, []) := by decide +kernel
theorem x36_0 {d : Nat} {a0 : Value} {h : AHp} : Rf d 36 0 [a0] [] h = Rf d 36 1 [a0] [.int 2] h := Rf_go ((stp_of c36_0).trans rfl)
theorem c36_1 : cd 36 1 = some (1, .ireturn, 1, []) := by decide +kernel
theorem x36_1 {d : Nat} {a0 : Value} {s0 : Int32} {h : AHp} : Rf d 36 1 [a0] [.int s0] h = some (some (.int s0), h) := Rf_end (by rw [stp_of c36_1]; simp only [stpI]; rw [if_pos (show retI (mH 36).2.2.1 s0 = true from retI_int)])
-- 37: X5_belief
theorem c37_0 : cd 37 0 = some (0, .aload_n 1, 1, []) := by decide +kernel
theorem x37_0 {d : Nat} {a0 : Value} {x : Nat} {h : AHp} : Rf d 37 0 [a0, .ref x] [] h = Rf d 37 1 [a0, .ref x] [.ref x] h := Rf_go ((stp_of c37_0).trans rfl)
theorem c37_1 : cd 37 1 = some (1, .invokevirtual 7, 3, [(6, 51)]) := by decide +kernel
theorem xc37_1 {d : Nat} {a0 a1 : Value} {s0 : Nat} {h : AHp} {h1 : AHp} {v : Int32} (hr : cls (h.1 s0) = 6) (hq : Rf d 51 0 [.ref s0] [] h = some (some (.int v), h1)) : Rf (d + 1) 37 1 [a0, a1] [.ref s0] h = Rf (d + 1) 37 4 [a0, a1] [.int v] h1 := clV (c := 51) (as := []) c37_1 rfl (by simp [isV]) (by rw [hr]; rfl) hq
theorem c37_4 : cd 37 4 = some (4, .ireturn, 1, []) := by decide +kernel
theorem x37_4 {d : Nat} {a0 a1 : Value} {s0 : Int32} {h : AHp} : Rf d 37 4 [a0, a1] [.int s0] h = some (some (.int s0), h) := Rf_end (by rw [stp_of c37_4]; simp only [stpI]; rw [if_pos (show retI (mH 37).2.2.1 s0 = true from retI_int)])
-- 38: X5_asks
theorem c38_0 : cd 38 0 = some (0, .aload_n 1, 1, []) := by decide +kernel
theorem x38_0 {d : Nat} {a0 a2 : Value} {x : Nat} {h : AHp} : Rf d 38 0 [a0, .ref x, a2] [] h = Rf d 38 1 [a0, .ref x, a2] [.ref x] h := Rf_go ((stp_of c38_0).trans rfl)
theorem c38_1 : cd 38 1 = some (1, .bipush 21, 2, []) := by decide +kernel
theorem x38_1 {d : Nat} {a0 a1 a2 : Value} {s0 : Nat} {h : AHp} : Rf d 38 1 [a0, a1, a2] [.ref s0] h = Rf d 38 3 [a0, a1, a2] [.int 21, .ref s0] h := Rf_go ((stp_of c38_1).trans rfl)
theorem c38_3 : cd 38 3 = some (3, .invokevirtual 13, 3, [(10, 93)]) := by decide +kernel
theorem xc38_3 {d : Nat} {a0 a1 a2 : Value} {s0 : Int32} {s1 : Nat} {h : AHp} {h1 : AHp} (hr : cls (h.1 s1) = 10) (hq : Rf d 93 0 [.ref s1, .int s0] [] h = some (none, h1)) : Rf (d + 1) 38 3 [a0, a1, a2] [.int s0, .ref s1] h = Rf (d + 1) 38 6 [a0, a1, a2] [] h1 := clV (c := 93) (as := [.int s0]) c38_3 rfl (by simp [isV]) (by rw [hr]; rfl) hq
theorem c38_6 : cd 38 6 = some (6, .aload_n 0, 1, []) := by decide +kernel
theorem x38_6 {d : Nat} {a1 a2 : Value} {x : Nat} {h : AHp} : Rf d 38 6 [.ref x, a1, a2] [] h = Rf d 38 7 [.ref x, a1, a2] [.ref x] h := Rf_go ((stp_of c38_6).trans rfl)
theorem c38_7 : cd 38 7 = some (7, .aload_n 1, 1, []) := by decide +kernel
theorem x38_7 {d : Nat} {a0 a2 : Value} {s0 : Nat} {x : Nat} {h : AHp} : Rf d 38 7 [a0, .ref x, a2] [.ref s0] h = Rf d 38 8 [a0, .ref x, a2] [.ref x, .ref s0] h := Rf_go ((stp_of c38_7).trans rfl)
theorem c38_8 : cd 38 8 = some (8, .iload_n 2, 1, []) := by decide +kernel
theorem x38_8 {d : Nat} {a0 a1 : Value} {s0 : Nat} {s1 : Nat} {x : Int32} {h : AHp} : Rf d 38 8 [a0, a1, .int x] [.ref s0, .ref s1] h = Rf d 38 9 [a0, a1, .int x] [.int x, .ref s0, .ref s1] h := Rf_go ((stp_of c38_8).trans rfl)
theorem c38_9 : cd 38 9 = some (9, .invokespecial 19, 3, [(1004, 33)]) := by decide +kernel
theorem xc38_9 {d : Nat} {a0 a1 a2 : Value} {s0 : Int32} {s1 : Nat} {s2 : Nat} {h : AHp} {h1 : AHp} {v : Int32} (hr : cls (h.1 s2) < 13) (hq : Rf d 33 0 [.ref s2, .ref s1, .int s0] [] h = some (some (.int v), h1)) : Rf (d + 1) 38 9 [a0, a1, a2] [.int s0, .ref s1, .ref s2] h = Rf (d + 1) 38 12 [a0, a1, a2] [.int v] h1 := clP (as := [.ref s1, .int s0]) c38_9 rfl rfl (by simp [isV]) hr hq
theorem c38_12 : cd 38 12 = some (12, .ineg, 1, []) := by decide +kernel
theorem x38_12 {d : Nat} {a0 a1 a2 : Value} {s0 : Int32} {h : AHp} : Rf d 38 12 [a0, a1, a2] [.int s0] h = Rf d 38 13 [a0, a1, a2] [.int (-s0)] h := Rf_go ((stp_of c38_12).trans rfl)
theorem c38_13 : cd 38 13 = some (13, .ireturn, 1, []) := by decide +kernel
theorem x38_13 {d : Nat} {a0 a1 a2 : Value} {s0 : Int32} {h : AHp} : Rf d 38 13 [a0, a1, a2] [.int s0] h = some (some (.int s0), h) := Rf_end (by rw [stp_of c38_13]; simp only [stpI]; rw [if_pos (show retI (mH 38).2.2.1 s0 = true from retI_int)])
-- 84: X8_init
theorem c84_0 : cd 84 0 = some (0, .aload_n 0, 1, []) := by decide +kernel
theorem x84_0 {d : Nat} {a1 a2 : Value} {x : Nat} {h : AHp} : Rf d 84 0 [.ref x, a1, a2] [] h = Rf d 84 1 [.ref x, a1, a2] [.ref x] h := Rf_go ((stp_of c84_0).trans rfl)
theorem c84_1 : cd 84 1 = some (1, .iload_n 1, 1, []) := by decide +kernel
theorem x84_1 {d : Nat} {a0 a2 : Value} {s0 : Nat} {x : Int32} {h : AHp} : Rf d 84 1 [a0, .int x, a2] [.ref s0] h = Rf d 84 2 [a0, .int x, a2] [.int x, .ref s0] h := Rf_go ((stp_of c84_1).trans rfl)
theorem c84_2 : cd 84 2 = some (2, .iload_n 2, 1, []) := by decide +kernel
theorem x84_2 {d : Nat} {a0 a1 : Value} {s0 : Int32} {s1 : Nat} {x : Int32} {h : AHp} : Rf d 84 2 [a0, a1, .int x] [.int s0, .ref s1] h = Rf d 84 3 [a0, a1, .int x] [.int x, .int s0, .ref s1] h := Rf_go ((stp_of c84_2).trans rfl)
theorem c84_3 : cd 84 3 = some (3, .invokespecial 1, 3, [(1003, 35)]) := by decide +kernel
theorem xc84_3 {d : Nat} {a0 a1 a2 : Value} {s0 : Int32} {s1 : Int32} {s2 : Nat} {h : AHp} {h1 : AHp} (hr : cls (h.1 s2) < 13) (hq : Rf d 35 0 [.ref s2, .int s1, .int s0] [] h = some (none, h1)) : Rf (d + 1) 84 3 [a0, a1, a2] [.int s0, .int s1, .ref s2] h = Rf (d + 1) 84 6 [a0, a1, a2] [] h1 := clP (as := [.int s1, .int s0]) c84_3 rfl rfl (by simp [isV]) hr hq
theorem c84_6 : cd 84 6 = some (6, .return_, 1, []) := by decide +kernel
theorem x84_6 {d : Nat} {a0 a1 a2 : Value} {h : AHp} : Rf d 84 6 [a0, a1, a2] [] h = some (none, h) := Rf_end (endV c84_6 (by decide +kernel))
-- 85: X8_kind
theorem c85_0 : cd 85 0 = some (0, .iconst 5, 1, []) := by decide +kernel
theorem x85_0 {d : Nat} {a0 : Value} {h : AHp} : Rf d 85 0 [a0] [] h = Rf d 85 1 [a0] [.int 5] h := Rf_go ((stp_of c85_0).trans rfl)
theorem c85_1 : cd 85 1 = some (1, .ireturn, 1, []) := by decide +kernel
theorem x85_1 {d : Nat} {a0 : Value} {s0 : Int32} {h : AHp} : Rf d 85 1 [a0] [.int s0] h = some (some (.int s0), h) := Rf_end (by rw [stp_of c85_1]; simp only [stpI]; rw [if_pos (show retI (mH 85).2.2.1 s0 = true from retI_int)])
-- 86: X8_belief
theorem c86_0 : cd 86 0 = some (0, .aload_n 1, 1, []) := by decide +kernel
theorem x86_0 {d : Nat} {a0 : Value} {x : Nat} {h : AHp} : Rf d 86 0 [a0, .ref x] [] h = Rf d 86 1 [a0, .ref x] [.ref x] h := Rf_go ((stp_of c86_0).trans rfl)
theorem c86_1 : cd 86 1 = some (1, .invokevirtual 7, 3, [(6, 53)]) := by decide +kernel
theorem xc86_1 {d : Nat} {a0 a1 : Value} {s0 : Nat} {h : AHp} {h1 : AHp} {v : Int32} (hr : cls (h.1 s0) = 6) (hq : Rf d 53 0 [.ref s0, noV, noV, noV] [] h = some (some (.int v), h1)) : Rf (d + 1) 86 1 [a0, a1] [.ref s0] h = Rf (d + 1) 86 4 [a0, a1] [.int v] h1 := clV (c := 53) (as := []) c86_1 rfl (by simp [isV]) (by rw [hr]; rfl) hq
theorem c86_4 : cd 86 4 = some (4, .ireturn, 1, []) := by decide +kernel
theorem x86_4 {d : Nat} {a0 a1 : Value} {s0 : Int32} {h : AHp} : Rf d 86 4 [a0, a1] [.int s0] h = some (some (.int s0), h) := Rf_end (by rw [stp_of c86_4]; simp only [stpI]; rw [if_pos (show retI (mH 86).2.2.1 s0 = true from retI_int)])
-- 87: X8_has
theorem c87_0 : cd 87 0 = some (0, .aload_n 1, 1, []) := by decide +kernel
theorem x87_0 {d : Nat} {a0 a2 : Value} {x : Nat} {h : AHp} : Rf d 87 0 [a0, .ref x, a2] [] h = Rf d 87 1 [a0, .ref x, a2] [.ref x] h := Rf_go ((stp_of c87_0).trans rfl)
theorem c87_1 : cd 87 1 = some (1, .bipush 51, 2, []) := by decide +kernel
theorem x87_1 {d : Nat} {a0 a1 a2 : Value} {s0 : Nat} {h : AHp} : Rf d 87 1 [a0, a1, a2] [.ref s0] h = Rf d 87 3 [a0, a1, a2] [.int 51, .ref s0] h := Rf_go ((stp_of c87_1).trans rfl)
theorem c87_3 : cd 87 3 = some (3, .invokevirtual 13, 3, [(10, 93)]) := by decide +kernel
theorem xc87_3 {d : Nat} {a0 a1 a2 : Value} {s0 : Int32} {s1 : Nat} {h : AHp} {h1 : AHp} (hr : cls (h.1 s1) = 10) (hq : Rf d 93 0 [.ref s1, .int s0] [] h = some (none, h1)) : Rf (d + 1) 87 3 [a0, a1, a2] [.int s0, .ref s1] h = Rf (d + 1) 87 6 [a0, a1, a2] [] h1 := clV (c := 93) (as := [.int s0]) c87_3 rfl (by simp [isV]) (by rw [hr]; rfl) hq
theorem c87_6 : cd 87 6 = some (6, .aload_n 0, 1, []) := by decide +kernel
theorem x87_6 {d : Nat} {a1 a2 : Value} {x : Nat} {h : AHp} : Rf d 87 6 [.ref x, a1, a2] [] h = Rf d 87 7 [.ref x, a1, a2] [.ref x] h := Rf_go ((stp_of c87_6).trans rfl)
theorem c87_7 : cd 87 7 = some (7, .aload_n 1, 1, []) := by decide +kernel
theorem x87_7 {d : Nat} {a0 a2 : Value} {s0 : Nat} {x : Nat} {h : AHp} : Rf d 87 7 [a0, .ref x, a2] [.ref s0] h = Rf d 87 8 [a0, .ref x, a2] [.ref x, .ref s0] h := Rf_go ((stp_of c87_7).trans rfl)
theorem c87_8 : cd 87 8 = some (8, .iload_n 2, 1, []) := by decide +kernel
theorem x87_8 {d : Nat} {a0 a1 : Value} {s0 : Nat} {s1 : Nat} {x : Int32} {h : AHp} : Rf d 87 8 [a0, a1, .int x] [.ref s0, .ref s1] h = Rf d 87 9 [a0, a1, .int x] [.int x, .ref s0, .ref s1] h := Rf_go ((stp_of c87_8).trans rfl)
theorem c87_9 : cd 87 9 = some (9, .invokespecial 19, 3, [(1005, 32)]) := by decide +kernel
theorem xc87_9 {d : Nat} {a0 a1 a2 : Value} {s0 : Int32} {s1 : Nat} {s2 : Nat} {h : AHp} {h1 : AHp} {v : Int32} (hr : cls (h.1 s2) < 13) (hq : Rf d 32 0 [.ref s2, .ref s1, .int s0] [] h = some (some (.int v), h1)) : Rf (d + 1) 87 9 [a0, a1, a2] [.int s0, .ref s1, .ref s2] h = Rf (d + 1) 87 12 [a0, a1, a2] [.int v] h1 := clP (as := [.ref s1, .int s0]) c87_9 rfl rfl (by simp [isV]) hr hq
theorem c87_12 : cd 87 12 = some (12, .aload_n 0, 1, []) := by decide +kernel
theorem x87_12 {d : Nat} {a1 a2 : Value} {s0 : Int32} {x : Nat} {h : AHp} : Rf d 87 12 [.ref x, a1, a2] [.int s0] h = Rf d 87 13 [.ref x, a1, a2] [.ref x, .int s0] h := Rf_go ((stp_of c87_12).trans rfl)
theorem c87_13 : cd 87 13 = some (13, .getfield 23, 3, [(8, 0)]) := by decide +kernel
theorem x87_13 {d : Nat} {a0 a1 a2 : Value} {s0 : Nat} {s1 : Int32} {h : AHp} : Rf d 87 13 [a0, a1, a2] [.ref s0, .int s1] h = if cls (h.1 s0) = 8 ∧ oKi (h.1 s0) 0 = true then Rf d 87 16 [a0, a1, a2] [.int (oN (h.1 s0) 0), .int s1] h else Rx d 87 13 [a0, a1, a2] [.ref s0, .int s1] h := getI c87_13
theorem c87_16 : cd 87 16 = some (16, .ixor, 1, []) := by decide +kernel
theorem x87_16 {d : Nat} {a0 a1 a2 : Value} {s0 : Int32} {s1 : Int32} {h : AHp} : Rf d 87 16 [a0, a1, a2] [.int s0, .int s1] h = Rf d 87 17 [a0, a1, a2] [.int (s1 ^^^ s0)] h := Rf_go ((stp_of c87_16).trans rfl)
theorem c87_17 : cd 87 17 = some (17, .ireturn, 1, []) := by decide +kernel
theorem x87_17 {d : Nat} {a0 a1 a2 : Value} {s0 : Int32} {h : AHp} : Rf d 87 17 [a0, a1, a2] [.int s0] h = some (some (.int s0), h) := Rf_end (by rw [stp_of c87_17]; simp only [stpI]; rw [if_pos (show retI (mH 87).2.2.1 s0 = true from retI_int)])
-- 88: X9_init
theorem c88_0 : cd 88 0 = some (0, .aload_n 0, 1, []) := by decide +kernel
theorem x88_0 {d : Nat} {a1 a2 : Value} {x : Nat} {h : AHp} : Rf d 88 0 [.ref x, a1, a2] [] h = Rf d 88 1 [.ref x, a1, a2] [.ref x] h := Rf_go ((stp_of c88_0).trans rfl)
theorem c88_1 : cd 88 1 = some (1, .iload_n 1, 1, []) := by decide +kernel
theorem x88_1 {d : Nat} {a0 a2 : Value} {s0 : Nat} {x : Int32} {h : AHp} : Rf d 88 1 [a0, .int x, a2] [.ref s0] h = Rf d 88 2 [a0, .int x, a2] [.int x, .ref s0] h := Rf_go ((stp_of c88_1).trans rfl)
theorem c88_2 : cd 88 2 = some (2, .iload_n 2, 1, []) := by decide +kernel
theorem x88_2 {d : Nat} {a0 a1 : Value} {s0 : Int32} {s1 : Nat} {x : Int32} {h : AHp} : Rf d 88 2 [a0, a1, .int x] [.int s0, .ref s1] h = Rf d 88 3 [a0, a1, .int x] [.int x, .int s0, .ref s1] h := Rf_go ((stp_of c88_2).trans rfl)
theorem c88_3 : cd 88 3 = some (3, .invokespecial 1, 3, [(1003, 28)]) := by decide +kernel
theorem xc88_3 {d : Nat} {a0 a1 a2 : Value} {s0 : Int32} {s1 : Int32} {s2 : Nat} {h : AHp} {h1 : AHp} (hr : cls (h.1 s2) < 13) (hq : Rf d 28 0 [.ref s2, .int s1, .int s0] [] h = some (none, h1)) : Rf (d + 1) 88 3 [a0, a1, a2] [.int s0, .int s1, .ref s2] h = Rf (d + 1) 88 6 [a0, a1, a2] [] h1 := clP (as := [.int s1, .int s0]) c88_3 rfl rfl (by simp [isV]) hr hq
theorem c88_6 : cd 88 6 = some (6, .return_, 1, []) := by decide +kernel
theorem x88_6 {d : Nat} {a0 a1 a2 : Value} {h : AHp} : Rf d 88 6 [a0, a1, a2] [] h = some (none, h) := Rf_end (endV c88_6 (by decide +kernel))
-- 89: X9_kind
theorem c89_0 : cd 89 0 = some (0, .iconst 3, 1, []) := by decide +kernel
theorem x89_0 {d : Nat} {a0 : Value} {h : AHp} : Rf d 89 0 [a0] [] h = Rf d 89 1 [a0] [.int 3] h := Rf_go ((stp_of c89_0).trans rfl)
theorem c89_1 : cd 89 1 = some (1, .ireturn, 1, []) := by decide +kernel
theorem x89_1 {d : Nat} {a0 : Value} {s0 : Int32} {h : AHp} : Rf d 89 1 [a0] [.int s0] h = some (some (.int s0), h) := Rf_end (by rw [stp_of c89_1]; simp only [stpI]; rw [if_pos (show retI (mH 89).2.2.1 s0 = true from retI_int)])
-- 90: X9_belief
theorem c90_0 : cd 90 0 = some (0, .aload_n 1, 1, []) := by decide +kernel
theorem x90_0 {d : Nat} {a0 : Value} {x : Nat} {h : AHp} : Rf d 90 0 [a0, .ref x] [] h = Rf d 90 1 [a0, .ref x] [.ref x] h := Rf_go ((stp_of c90_0).trans rfl)
theorem c90_1 : cd 90 1 = some (1, .aload_n 0, 1, []) := by decide +kernel
theorem x90_1 {d : Nat} {a1 : Value} {s0 : Nat} {x : Nat} {h : AHp} : Rf d 90 1 [.ref x, a1] [.ref s0] h = Rf d 90 2 [.ref x, a1] [.ref x, .ref s0] h := Rf_go ((stp_of c90_1).trans rfl)
theorem c90_2 : cd 90 2 = some (2, .getfield 7, 3, [(0, 0), (9, 0)]) := by decide +kernel
theorem x90_2 {d : Nat} {a0 a1 : Value} {s0 : Nat} {s1 : Nat} {h : AHp} : Rf d 90 2 [a0, a1] [.ref s0, .ref s1] h = if fIx [(0, 0), (9, 0)] (cls (h.1 s0)) = some 0 ∧ oKi (h.1 s0) 0 = true then Rf d 90 5 [a0, a1] [.int (oN (h.1 s0) 0), .ref s1] h else Rx d 90 2 [a0, a1] [.ref s0, .ref s1] h := getIk c90_2
theorem c90_5 : cd 90 5 = some (5, .invokevirtual 13, 3, [(6, 48)]) := by decide +kernel
theorem xc90_5 {d : Nat} {a0 a1 : Value} {s0 : Int32} {s1 : Nat} {h : AHp} {h1 : AHp} {v : Int32} (hr : cls (h.1 s1) = 6) (hq : Rf d 48 0 [.ref s1, .int s0] [] h = some (some (.int v), h1)) : Rf (d + 1) 90 5 [a0, a1] [.int s0, .ref s1] h = Rf (d + 1) 90 8 [a0, a1] [.int v] h1 := clV (c := 48) (as := [.int s0]) c90_5 rfl (by simp [isV]) (by rw [hr]; rfl) hq
theorem c90_8 : cd 90 8 = some (8, .aload_n 0, 1, []) := by decide +kernel
theorem x90_8 {d : Nat} {a1 : Value} {s0 : Int32} {x : Nat} {h : AHp} : Rf d 90 8 [.ref x, a1] [.int s0] h = Rf d 90 9 [.ref x, a1] [.ref x, .int s0] h := Rf_go ((stp_of c90_8).trans rfl)
theorem c90_9 : cd 90 9 = some (9, .getfield 19, 3, [(0, 1), (9, 1)]) := by decide +kernel
theorem x90_9 {d : Nat} {a0 a1 : Value} {s0 : Nat} {s1 : Int32} {h : AHp} : Rf d 90 9 [a0, a1] [.ref s0, .int s1] h = if fIx [(0, 1), (9, 1)] (cls (h.1 s0)) = some 1 ∧ oKi (h.1 s0) 1 = true then Rf d 90 12 [a0, a1] [.int (oN (h.1 s0) 1), .int s1] h else Rx d 90 9 [a0, a1] [.ref s0, .int s1] h := getIk c90_9
theorem c90_12 : cd 90 12 = some (12, .iadd, 1, []) := by decide +kernel
theorem x90_12 {d : Nat} {a0 a1 : Value} {s0 : Int32} {s1 : Int32} {h : AHp} : Rf d 90 12 [a0, a1] [.int s0, .int s1] h = Rf d 90 13 [a0, a1] [.int (s1 + s0)] h := Rf_go ((stp_of c90_12).trans rfl)
theorem c90_13 : cd 90 13 = some (13, .ireturn, 1, []) := by decide +kernel
theorem x90_13 {d : Nat} {a0 a1 : Value} {s0 : Int32} {h : AHp} : Rf d 90 13 [a0, a1] [.int s0] h = some (some (.int s0), h) := Rf_end (by rw [stp_of c90_13]; simp only [stpI]; rw [if_pos (show retI (mH 90).2.2.1 s0 = true from retI_int)])
-- 91: X9_tells
theorem c91_0 : cd 91 0 = some (0, .aload_n 1, 1, []) := by decide +kernel
theorem x91_0 {d : Nat} {a0 a2 : Value} {x : Nat} {h : AHp} : Rf d 91 0 [a0, .ref x, a2] [] h = Rf d 91 1 [a0, .ref x, a2] [.ref x] h := Rf_go ((stp_of c91_0).trans rfl)
theorem c91_1 : cd 91 1 = some (1, .bipush 31, 2, []) := by decide +kernel
theorem x91_1 {d : Nat} {a0 a1 a2 : Value} {s0 : Nat} {h : AHp} : Rf d 91 1 [a0, a1, a2] [.ref s0] h = Rf d 91 3 [a0, a1, a2] [.int 31, .ref s0] h := Rf_go ((stp_of c91_1).trans rfl)
theorem c91_3 : cd 91 3 = some (3, .invokevirtual 22, 3, [(10, 93)]) := by decide +kernel
theorem xc91_3 {d : Nat} {a0 a1 a2 : Value} {s0 : Int32} {s1 : Nat} {h : AHp} {h1 : AHp} (hr : cls (h.1 s1) = 10) (hq : Rf d 93 0 [.ref s1, .int s0] [] h = some (none, h1)) : Rf (d + 1) 91 3 [a0, a1, a2] [.int s0, .ref s1] h = Rf (d + 1) 91 6 [a0, a1, a2] [] h1 := clV (c := 93) (as := [.int s0]) c91_3 rfl (by simp [isV]) (by rw [hr]; rfl) hq
theorem c91_6 : cd 91 6 = some (6, .aload_n 0, 1, []) := by decide +kernel
theorem x91_6 {d : Nat} {a1 a2 : Value} {x : Nat} {h : AHp} : Rf d 91 6 [.ref x, a1, a2] [] h = Rf d 91 7 [.ref x, a1, a2] [.ref x] h := Rf_go ((stp_of c91_6).trans rfl)
theorem c91_7 : cd 91 7 = some (7, .aload_n 1, 1, []) := by decide +kernel
theorem x91_7 {d : Nat} {a0 a2 : Value} {s0 : Nat} {x : Nat} {h : AHp} : Rf d 91 7 [a0, .ref x, a2] [.ref s0] h = Rf d 91 8 [a0, .ref x, a2] [.ref x, .ref s0] h := Rf_go ((stp_of c91_7).trans rfl)
theorem c91_8 : cd 91 8 = some (8, .iload_n 2, 1, []) := by decide +kernel
theorem x91_8 {d : Nat} {a0 a1 : Value} {s0 : Nat} {s1 : Nat} {x : Int32} {h : AHp} : Rf d 91 8 [a0, a1, .int x] [.ref s0, .ref s1] h = Rf d 91 9 [a0, a1, .int x] [.int x, .ref s0, .ref s1] h := Rf_go ((stp_of c91_8).trans rfl)
theorem c91_9 : cd 91 9 = some (9, .invokespecial 28, 3, [(1004, 34)]) := by decide +kernel
theorem xc91_9 {d : Nat} {a0 a1 a2 : Value} {s0 : Int32} {s1 : Nat} {s2 : Nat} {h : AHp} {h1 : AHp} {v : Int32} (hr : cls (h.1 s2) < 13) (hq : Rf d 34 0 [.ref s2, .ref s1, .int s0] [] h = some (some (.int v), h1)) : Rf (d + 1) 91 9 [a0, a1, a2] [.int s0, .ref s1, .ref s2] h = Rf (d + 1) 91 12 [a0, a1, a2] [.int v] h1 := clP (as := [.ref s1, .int s0]) c91_9 rfl rfl (by simp [isV]) hr hq
theorem c91_12 : cd 91 12 = some (12, .bipush 7, 2, []) := by decide +kernel
theorem x91_12 {d : Nat} {a0 a1 a2 : Value} {s0 : Int32} {h : AHp} : Rf d 91 12 [a0, a1, a2] [.int s0] h = Rf d 91 14 [a0, a1, a2] [.int 7, .int s0] h := Rf_go ((stp_of c91_12).trans rfl)
theorem c91_14 : cd 91 14 = some (14, .ixor, 1, []) := by decide +kernel
theorem x91_14 {d : Nat} {a0 a1 a2 : Value} {s0 : Int32} {s1 : Int32} {h : AHp} : Rf d 91 14 [a0, a1, a2] [.int s0, .int s1] h = Rf d 91 15 [a0, a1, a2] [.int (s1 ^^^ s0)] h := Rf_go ((stp_of c91_14).trans rfl)
theorem c91_15 : cd 91 15 = some (15, .ireturn, 1, []) := by decide +kernel
theorem x91_15 {d : Nat} {a0 a1 a2 : Value} {s0 : Int32} {h : AHp} : Rf d 91 15 [a0, a1, a2] [.int s0] h = some (some (.int s0), h) := Rf_end (by rw [stp_of c91_15]; simp only [stpI]; rw [if_pos (show retI (mH 91).2.2.1 s0 = true from retI_int)])
-- 92: X10_init
theorem c92_0 : cd 92 0 = some (0, .aload_n 0, 1, []) := by decide +kernel
theorem x92_0 {d : Nat} {x : Nat} {h : AHp} : Rf d 92 0 [.ref x] [] h = Rf d 92 1 [.ref x] [.ref x] h := Rf_go ((stp_of c92_0).trans rfl)
theorem c92_1 : cd 92 1 = some (1, .invokespecial 3, 3, [(1001, 0)]) := by decide +kernel
theorem x92_1 {d : Nat} {a0 : Value} {s0 : Nat} {h : AHp} : Rf d 92 1 [a0] [.ref s0] h = Rf d 92 4 [a0] [] h := Rf_go ((stp_of c92_1).trans rfl)
theorem c92_4 : cd 92 4 = some (4, .aload_n 0, 1, []) := by decide +kernel
theorem x92_4 {d : Nat} {x : Nat} {h : AHp} : Rf d 92 4 [.ref x] [] h = Rf d 92 5 [.ref x] [.ref x] h := Rf_go ((stp_of c92_4).trans rfl)
theorem c92_5 : cd 92 5 = some (5, .bipush 20, 2, []) := by decide +kernel
theorem x92_5 {d : Nat} {a0 : Value} {s0 : Nat} {h : AHp} : Rf d 92 5 [a0] [.ref s0] h = Rf d 92 7 [a0] [.int 20, .ref s0] h := Rf_go ((stp_of c92_5).trans rfl)
theorem c92_7 : cd 92 7 = some (7, .newarray .int, 2, [(0, 0)]) := by decide +kernel
theorem x92_7 {d : Nat} {a0 : Value} {s0 : Int32} {s1 : Nat} {h : AHp} : Rf d 92 7 [a0] [.int s0, .ref s1] h = if okN s0 = true then Rf d 92 9 [a0] [.ref h.2.1, .ref s1] (hnew h (.inl (0, s0.toNatClampNeg, .inl (fun _ => 0))) s0.toNatClampNeg) else Rx d 92 7 [a0] [.int s0, .ref s1] h := nwA c92_7
theorem c92_9 : cd 92 9 = some (9, .putfield 9, 3, [(10, 0)]) := by decide +kernel
theorem x92_9 {d : Nat} {a0 : Value} {s0 : Nat} {s1 : Nat} {h : AHp} : Rf d 92 9 [a0] [.ref s0, .ref s1] h = if cls (h.1 s1) = 10 ∧ oL (h.1 s1) = 2 then Rf d 92 12 [a0] [] (hset h s1 (oSet (h.1 s1) 0 (.ref s0))) else Rx d 92 9 [a0] [.ref s0, .ref s1] h := putV c92_9 rfl (fMay_a (t := .int) (by decide +kernel))
theorem c92_12 : cd 92 12 = some (12, .return_, 1, []) := by decide +kernel
theorem x92_12 {d : Nat} {a0 : Value} {h : AHp} : Rf d 92 12 [a0] [] h = some (none, h) := Rf_end (endV c92_12 (by decide +kernel))
-- 93: X10_began
theorem c93_0 : cd 93 0 = some (0, .aload_n 0, 1, []) := by decide +kernel
theorem x93_0 {d : Nat} {a1 : Value} {x : Nat} {h : AHp} : Rf d 93 0 [.ref x, a1] [] h = Rf d 93 1 [.ref x, a1] [.ref x] h := Rf_go ((stp_of c93_0).trans rfl)
theorem c93_1 : cd 93 1 = some (1, .getfield 15, 3, [(10, 1)]) := by decide +kernel
theorem x93_1 {d : Nat} {a0 a1 : Value} {s0 : Nat} {h : AHp} : Rf d 93 1 [a0, a1] [.ref s0] h = if cls (h.1 s0) = 10 ∧ oKi (h.1 s0) 1 = true then Rf d 93 4 [a0, a1] [.int (oN (h.1 s0) 1)] h else Rx d 93 1 [a0, a1] [.ref s0] h := getI c93_1
theorem c93_4 : cd 93 4 = some (4, .ifCond .lt 22, 3, [(26, 0)]) := by decide +kernel
theorem x93_4 {d : Nat} {a0 a1 : Value} {s0 : Int32} {h : AHp} : Rf d 93 4 [a0, a1] [.int s0] h = if s0 < 0 then Rf d 93 26 [a0, a1] [] h else Rf d 93 7 [a0, a1] [] h := Rf_brd ((stp_of c93_4).trans rfl)
theorem c93_26 : cd 93 26 = some (26, .aload_n 0, 1, []) := by decide +kernel
theorem x93_26 {d : Nat} {a1 : Value} {x : Nat} {h : AHp} : Rf d 93 26 [.ref x, a1] [] h = Rf d 93 27 [.ref x, a1] [.ref x] h := Rf_go ((stp_of c93_26).trans rfl)
theorem c93_27 : cd 93 27 = some (27, .dup, 1, []) := by decide +kernel
theorem x93_27 {d : Nat} {a0 a1 : Value} {s0 : Nat} {h : AHp} : Rf d 93 27 [a0, a1] [.ref s0] h = Rf d 93 28 [a0, a1] [.ref s0, .ref s0] h := Rf_go ((stp_of c93_27).trans rfl)
theorem c93_28 : cd 93 28 = some (28, .getfield 15, 3, [(10, 1)]) := by decide +kernel
theorem x93_28 {d : Nat} {a0 a1 : Value} {s0 : Nat} {s1 : Nat} {h : AHp} : Rf d 93 28 [a0, a1] [.ref s0, .ref s1] h = if cls (h.1 s0) = 10 ∧ oKi (h.1 s0) 1 = true then Rf d 93 31 [a0, a1] [.int (oN (h.1 s0) 1), .ref s1] h else Rx d 93 28 [a0, a1] [.ref s0, .ref s1] h := getI c93_28
theorem c93_31 : cd 93 31 = some (31, .iconst 1, 1, []) := by decide +kernel
theorem x93_31 {d : Nat} {a0 a1 : Value} {s0 : Int32} {s1 : Nat} {h : AHp} : Rf d 93 31 [a0, a1] [.int s0, .ref s1] h = Rf d 93 32 [a0, a1] [.int 1, .int s0, .ref s1] h := Rf_go ((stp_of c93_31).trans rfl)
theorem c93_32 : cd 93 32 = some (32, .iadd, 1, []) := by decide +kernel
theorem x93_32 {d : Nat} {a0 a1 : Value} {s0 : Int32} {s1 : Int32} {s2 : Nat} {h : AHp} : Rf d 93 32 [a0, a1] [.int s0, .int s1, .ref s2] h = Rf d 93 33 [a0, a1] [.int (s1 + s0), .ref s2] h := Rf_go ((stp_of c93_32).trans rfl)
theorem c93_33 : cd 93 33 = some (33, .putfield 15, 3, [(10, 1)]) := by decide +kernel
theorem x93_33 {d : Nat} {a0 a1 : Value} {s0 : Int32} {s1 : Nat} {h : AHp} : Rf d 93 33 [a0, a1] [.int s0, .ref s1] h = if cls (h.1 s1) = 10 ∧ oL (h.1 s1) = 2 then Rf d 93 36 [a0, a1] [] (hset h s1 (oSet (h.1 s1) 1 (.int s0))) else Rx d 93 33 [a0, a1] [.int s0, .ref s1] h := putV c93_33 rfl (fMay_i (by decide +kernel))
theorem c93_36 : cd 93 36 = some (36, .return_, 1, []) := by decide +kernel
theorem x93_36 {d : Nat} {a0 a1 : Value} {h : AHp} : Rf d 93 36 [a0, a1] [] h = some (none, h) := Rf_end (endV c93_36 (by decide +kernel))
theorem c93_7 : cd 93 7 = some (7, .aload_n 0, 1, []) := by decide +kernel
theorem x93_7 {d : Nat} {a1 : Value} {x : Nat} {h : AHp} : Rf d 93 7 [.ref x, a1] [] h = Rf d 93 8 [.ref x, a1] [.ref x] h := Rf_go ((stp_of c93_7).trans rfl)
theorem c93_8 : cd 93 8 = some (8, .getfield 15, 3, [(10, 1)]) := by decide +kernel
theorem x93_8 {d : Nat} {a0 a1 : Value} {s0 : Nat} {h : AHp} : Rf d 93 8 [a0, a1] [.ref s0] h = if cls (h.1 s0) = 10 ∧ oKi (h.1 s0) 1 = true then Rf d 93 11 [a0, a1] [.int (oN (h.1 s0) 1)] h else Rx d 93 8 [a0, a1] [.ref s0] h := getI c93_8
theorem c93_11 : cd 93 11 = some (11, .bipush 20, 2, []) := by decide +kernel
theorem x93_11 {d : Nat} {a0 a1 : Value} {s0 : Int32} {h : AHp} : Rf d 93 11 [a0, a1] [.int s0] h = Rf d 93 13 [a0, a1] [.int 20, .int s0] h := Rf_go ((stp_of c93_11).trans rfl)
theorem c93_13 : cd 93 13 = some (13, .if_icmp .ge 13, 3, [(26, 0)]) := by decide +kernel
theorem x93_13 {d : Nat} {a0 a1 : Value} {s0 : Int32} {s1 : Int32} {h : AHp} : Rf d 93 13 [a0, a1] [.int s0, .int s1] h = if s1 < s0 then Rf d 93 16 [a0, a1] [] h else Rf d 93 26 [a0, a1] [] h := Rf_brn ((stp_of c93_13).trans rfl)
theorem c93_16 : cd 93 16 = some (16, .aload_n 0, 1, []) := by decide +kernel
theorem x93_16 {d : Nat} {a1 : Value} {x : Nat} {h : AHp} : Rf d 93 16 [.ref x, a1] [] h = Rf d 93 17 [.ref x, a1] [.ref x] h := Rf_go ((stp_of c93_16).trans rfl)
theorem c93_17 : cd 93 17 = some (17, .getfield 9, 3, [(10, 0)]) := by decide +kernel
theorem x93_17 {d : Nat} {a0 a1 : Value} {s0 : Nat} {h : AHp} : Rf d 93 17 [a0, a1] [.ref s0] h = if cls (h.1 s0) = 10 ∧ oKr (h.1 s0) 0 = true then Rf d 93 20 [a0, a1] [.ref (oR (h.1 s0) 0)] h else Rx d 93 17 [a0, a1] [.ref s0] h := getR c93_17
theorem c93_20 : cd 93 20 = some (20, .aload_n 0, 1, []) := by decide +kernel
theorem x93_20 {d : Nat} {a1 : Value} {s0 : Nat} {x : Nat} {h : AHp} : Rf d 93 20 [.ref x, a1] [.ref s0] h = Rf d 93 21 [.ref x, a1] [.ref x, .ref s0] h := Rf_go ((stp_of c93_20).trans rfl)
theorem c93_21 : cd 93 21 = some (21, .getfield 15, 3, [(10, 1)]) := by decide +kernel
theorem x93_21 {d : Nat} {a0 a1 : Value} {s0 : Nat} {s1 : Nat} {h : AHp} : Rf d 93 21 [a0, a1] [.ref s0, .ref s1] h = if cls (h.1 s0) = 10 ∧ oKi (h.1 s0) 1 = true then Rf d 93 24 [a0, a1] [.int (oN (h.1 s0) 1), .ref s1] h else Rx d 93 21 [a0, a1] [.ref s0, .ref s1] h := getI c93_21
theorem c93_24 : cd 93 24 = some (24, .iload_n 1, 1, []) := by decide +kernel
theorem x93_24 {d : Nat} {a0 : Value} {s0 : Int32} {s1 : Nat} {x : Int32} {h : AHp} : Rf d 93 24 [a0, .int x] [.int s0, .ref s1] h = Rf d 93 25 [a0, .int x] [.int x, .int s0, .ref s1] h := Rf_go ((stp_of c93_24).trans rfl)
theorem c93_25 : cd 93 25 = some (25, .iastore, 1, []) := by decide +kernel
theorem x93_25 {d : Nat} {a0 a1 : Value} {s0 : Int32} {s1 : Int32} {s2 : Nat} {h : AHp} : Rf d 93 25 [a0, a1] [.int s0, .int s1, .ref s2] h = if aT (h.1 s2) = 0 ∧ inB s1 (aN (h.1 s2)) = true then Rf d 93 26 [a0, a1] [] (hset h s2 (.inl (0, aN (h.1 s2), .inl (upd (aF (h.1 s2)) s1.toNatClampNeg s0)))) else Rx d 93 25 [a0, a1] [.int s0, .int s1, .ref s2] h := stI c93_25
