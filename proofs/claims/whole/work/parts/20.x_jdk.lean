-- 199: J9_floorMod_7cf53
theorem c199_0 : cd 199 0 = some (0, .iload_n 0, 1, []) := by decide +kernel
theorem x199_0 {d : Nat} {a1 a2 : Value} {x : Int32} {h : AHp} : Rf d 199 0 [.int x, a1, a2] [] h = Rf d 199 1 [.int x, a1, a2] [.int x] h := Rf_go ((stp_of c199_0).trans rfl)
theorem c199_1 : cd 199 1 = some (1, .iload_n 1, 1, []) := by decide +kernel
theorem x199_1 {d : Nat} {a0 a2 : Value} {s0 : Int32} {x : Int32} {h : AHp} : Rf d 199 1 [a0, .int x, a2] [.int s0] h = Rf d 199 2 [a0, .int x, a2] [.int x, .int s0] h := Rf_go ((stp_of c199_1).trans rfl)
theorem c199_2 : cd 199 2 = some (2, .irem, 1, []) := by decide +kernel
theorem x199_2 {d : Nat} {a0 a1 a2 : Value} {s0 : Int32} {s1 : Int32} {h : AHp} : Rf d 199 2 [a0, a1, a2] [.int s0, .int s1] h = if ¬ s0 = 0 then Rf d 199 3 [a0, a1, a2] [.int (remI s1 s0)] h else Rx d 199 2 [a0, a1, a2] [.int s0, .int s1] h := divE c199_2 (fun _ _ _ => rfl)
theorem c199_3 : cd 199 3 = some (3, .istore_n 2, 1, []) := by decide +kernel
theorem x199_3 {d : Nat} {a0 a1 a2 : Value} {s0 : Int32} {h : AHp} : Rf d 199 3 [a0, a1, a2] [.int s0] h = Rf d 199 4 [a0, a1, .int s0] [] h := Rf_go ((stp_of c199_3).trans rfl)
theorem c199_4 : cd 199 4 = some (4, .iload_n 0, 1, []) := by decide +kernel
theorem x199_4 {d : Nat} {a1 a2 : Value} {x : Int32} {h : AHp} : Rf d 199 4 [.int x, a1, a2] [] h = Rf d 199 5 [.int x, a1, a2] [.int x] h := Rf_go ((stp_of c199_4).trans rfl)
theorem c199_5 : cd 199 5 = some (5, .iload_n 1, 1, []) := by decide +kernel
theorem x199_5 {d : Nat} {a0 a2 : Value} {s0 : Int32} {x : Int32} {h : AHp} : Rf d 199 5 [a0, .int x, a2] [.int s0] h = Rf d 199 6 [a0, .int x, a2] [.int x, .int s0] h := Rf_go ((stp_of c199_5).trans rfl)
theorem c199_6 : cd 199 6 = some (6, .ixor, 1, []) := by decide +kernel
theorem x199_6 {d : Nat} {a0 a1 a2 : Value} {s0 : Int32} {s1 : Int32} {h : AHp} : Rf d 199 6 [a0, a1, a2] [.int s0, .int s1] h = Rf d 199 7 [a0, a1, a2] [.int (s1 ^^^ s0)] h := Rf_go ((stp_of c199_6).trans rfl)
theorem c199_7 : cd 199 7 = some (7, .ifCond .ge 11, 3, [(18, 0)]) := by decide +kernel
theorem x199_7 {d : Nat} {a0 a1 a2 : Value} {s0 : Int32} {h : AHp} : Rf d 199 7 [a0, a1, a2] [.int s0] h = if s0 < 0 then Rf d 199 10 [a0, a1, a2] [] h else Rf d 199 18 [a0, a1, a2] [] h := Rf_brn ((stp_of c199_7).trans rfl)
theorem c199_18 : cd 199 18 = some (18, .iload_n 2, 1, []) := by decide +kernel
theorem x199_18 {d : Nat} {a0 a1 : Value} {x : Int32} {h : AHp} : Rf d 199 18 [a0, a1, .int x] [] h = Rf d 199 19 [a0, a1, .int x] [.int x] h := Rf_go ((stp_of c199_18).trans rfl)
theorem c199_19 : cd 199 19 = some (19, .ireturn, 1, []) := by decide +kernel
theorem x199_19 {d : Nat} {a0 a1 a2 : Value} {s0 : Int32} {h : AHp} : Rf d 199 19 [a0, a1, a2] [.int s0] h = some (some (.int s0), h) := Rf_end (by rw [stp_of c199_19]; simp only [stpI]; rw [if_pos (show retI (mH 199).2.2.1 s0 = true from retI_int)])
theorem c199_10 : cd 199 10 = some (10, .iload_n 2, 1, []) := by decide +kernel
theorem x199_10 {d : Nat} {a0 a1 : Value} {x : Int32} {h : AHp} : Rf d 199 10 [a0, a1, .int x] [] h = Rf d 199 11 [a0, a1, .int x] [.int x] h := Rf_go ((stp_of c199_10).trans rfl)
theorem c199_11 : cd 199 11 = some (11, .ifCond .eq 7, 3, [(18, 0)]) := by decide +kernel
theorem x199_11 {d : Nat} {a0 a1 a2 : Value} {s0 : Int32} {h : AHp} : Rf d 199 11 [a0, a1, a2] [.int s0] h = if s0 = 0 then Rf d 199 18 [a0, a1, a2] [] h else Rf d 199 14 [a0, a1, a2] [] h := Rf_brd ((stp_of c199_11).trans rfl)
theorem c199_14 : cd 199 14 = some (14, .iload_n 2, 1, []) := by decide +kernel
theorem x199_14 {d : Nat} {a0 a1 : Value} {x : Int32} {h : AHp} : Rf d 199 14 [a0, a1, .int x] [] h = Rf d 199 15 [a0, a1, .int x] [.int x] h := Rf_go ((stp_of c199_14).trans rfl)
theorem c199_15 : cd 199 15 = some (15, .iload_n 1, 1, []) := by decide +kernel
theorem x199_15 {d : Nat} {a0 a2 : Value} {s0 : Int32} {x : Int32} {h : AHp} : Rf d 199 15 [a0, .int x, a2] [.int s0] h = Rf d 199 16 [a0, .int x, a2] [.int x, .int s0] h := Rf_go ((stp_of c199_15).trans rfl)
theorem c199_16 : cd 199 16 = some (16, .iadd, 1, []) := by decide +kernel
theorem x199_16 {d : Nat} {a0 a1 a2 : Value} {s0 : Int32} {s1 : Int32} {h : AHp} : Rf d 199 16 [a0, a1, a2] [.int s0, .int s1] h = Rf d 199 17 [a0, a1, a2] [.int (s1 + s0)] h := Rf_go ((stp_of c199_16).trans rfl)
theorem c199_17 : cd 199 17 = some (17, .ireturn, 1, []) := by decide +kernel
theorem x199_17 {d : Nat} {a0 a1 a2 : Value} {s0 : Int32} {h : AHp} : Rf d 199 17 [a0, a1, a2] [.int s0] h = some (some (.int s0), h) := Rf_end (by rw [stp_of c199_17]; simp only [stpI]; rw [if_pos (show retI (mH 199).2.2.1 s0 = true from retI_int)])
-- 200: J9_abs_0f7a4
theorem c200_0 : cd 200 0 = some (0, .iload_n 0, 1, []) := by decide +kernel
theorem x200_0 {d : Nat} {x : Int32} {h : AHp} : Rf d 200 0 [.int x] [] h = Rf d 200 1 [.int x] [.int x] h := Rf_go ((stp_of c200_0).trans rfl)
theorem c200_1 : cd 200 1 = some (1, .ifCond .ge 8, 3, [(9, 0)]) := by decide +kernel
theorem x200_1 {d : Nat} {a0 : Value} {s0 : Int32} {h : AHp} : Rf d 200 1 [a0] [.int s0] h = if s0 < 0 then Rf d 200 4 [a0] [] h else Rf d 200 9 [a0] [] h := Rf_brn ((stp_of c200_1).trans rfl)
theorem c200_9 : cd 200 9 = some (9, .iload_n 0, 1, []) := by decide +kernel
theorem x200_9 {d : Nat} {x : Int32} {h : AHp} : Rf d 200 9 [.int x] [] h = Rf d 200 10 [.int x] [.int x] h := Rf_go ((stp_of c200_9).trans rfl)
theorem c200_10 : cd 200 10 = some (10, .ireturn, 1, []) := by decide +kernel
theorem x200_10 {d : Nat} {a0 : Value} {s0 : Int32} {h : AHp} : Rf d 200 10 [a0] [.int s0] h = some (some (.int s0), h) := Rf_end (by rw [stp_of c200_10]; simp only [stpI]; rw [if_pos (show retI (mH 200).2.2.1 s0 = true from retI_int)])
theorem c200_4 : cd 200 4 = some (4, .iload_n 0, 1, []) := by decide +kernel
theorem x200_4 {d : Nat} {x : Int32} {h : AHp} : Rf d 200 4 [.int x] [] h = Rf d 200 5 [.int x] [.int x] h := Rf_go ((stp_of c200_4).trans rfl)
theorem c200_5 : cd 200 5 = some (5, .ineg, 1, []) := by decide +kernel
theorem x200_5 {d : Nat} {a0 : Value} {s0 : Int32} {h : AHp} : Rf d 200 5 [a0] [.int s0] h = Rf d 200 6 [a0] [.int (-s0)] h := Rf_go ((stp_of c200_5).trans rfl)
theorem c200_6 : cd 200 6 = some (6, .goto 4, 3, [(10, 0)]) := by decide +kernel
theorem x200_6 {d : Nat} {a0 : Value} {s0 : Int32} {h : AHp} : Rf d 200 6 [a0] [.int s0] h = Rf d 200 10 [a0] [.int s0] h := Rf_go ((stp_of c200_6).trans rfl)
-- 201: J9_max_7cf53
theorem c201_0 : cd 201 0 = some (0, .iload_n 0, 1, []) := by decide +kernel
theorem x201_0 {d : Nat} {a1 : Value} {x : Int32} {h : AHp} : Rf d 201 0 [.int x, a1] [] h = Rf d 201 1 [.int x, a1] [.int x] h := Rf_go ((stp_of c201_0).trans rfl)
theorem c201_1 : cd 201 1 = some (1, .iload_n 1, 1, []) := by decide +kernel
theorem x201_1 {d : Nat} {a0 : Value} {s0 : Int32} {x : Int32} {h : AHp} : Rf d 201 1 [a0, .int x] [.int s0] h = Rf d 201 2 [a0, .int x] [.int x, .int s0] h := Rf_go ((stp_of c201_1).trans rfl)
theorem c201_2 : cd 201 2 = some (2, .if_icmp .lt 7, 3, [(9, 0)]) := by decide +kernel
theorem x201_2 {d : Nat} {a0 a1 : Value} {s0 : Int32} {s1 : Int32} {h : AHp} : Rf d 201 2 [a0, a1] [.int s0, .int s1] h = if s1 < s0 then Rf d 201 9 [a0, a1] [] h else Rf d 201 5 [a0, a1] [] h := Rf_brd ((stp_of c201_2).trans rfl)
theorem c201_9 : cd 201 9 = some (9, .iload_n 1, 1, []) := by decide +kernel
theorem x201_9 {d : Nat} {a0 : Value} {x : Int32} {h : AHp} : Rf d 201 9 [a0, .int x] [] h = Rf d 201 10 [a0, .int x] [.int x] h := Rf_go ((stp_of c201_9).trans rfl)
theorem c201_10 : cd 201 10 = some (10, .ireturn, 1, []) := by decide +kernel
theorem x201_10 {d : Nat} {a0 a1 : Value} {s0 : Int32} {h : AHp} : Rf d 201 10 [a0, a1] [.int s0] h = some (some (.int s0), h) := Rf_end (by rw [stp_of c201_10]; simp only [stpI]; rw [if_pos (show retI (mH 201).2.2.1 s0 = true from retI_int)])
theorem c201_5 : cd 201 5 = some (5, .iload_n 0, 1, []) := by decide +kernel
theorem x201_5 {d : Nat} {a1 : Value} {x : Int32} {h : AHp} : Rf d 201 5 [.int x, a1] [] h = Rf d 201 6 [.int x, a1] [.int x] h := Rf_go ((stp_of c201_5).trans rfl)
theorem c201_6 : cd 201 6 = some (6, .goto 4, 3, [(10, 0)]) := by decide +kernel
theorem x201_6 {d : Nat} {a0 a1 : Value} {s0 : Int32} {h : AHp} : Rf d 201 6 [a0, a1] [.int s0] h = Rf d 201 10 [a0, a1] [.int s0] h := Rf_go ((stp_of c201_6).trans rfl)
-- 202: J9_min_7cf53
theorem c202_0 : cd 202 0 = some (0, .iload_n 0, 1, []) := by decide +kernel
theorem x202_0 {d : Nat} {a1 : Value} {x : Int32} {h : AHp} : Rf d 202 0 [.int x, a1] [] h = Rf d 202 1 [.int x, a1] [.int x] h := Rf_go ((stp_of c202_0).trans rfl)
theorem c202_1 : cd 202 1 = some (1, .iload_n 1, 1, []) := by decide +kernel
theorem x202_1 {d : Nat} {a0 : Value} {s0 : Int32} {x : Int32} {h : AHp} : Rf d 202 1 [a0, .int x] [.int s0] h = Rf d 202 2 [a0, .int x] [.int x, .int s0] h := Rf_go ((stp_of c202_1).trans rfl)
theorem c202_2 : cd 202 2 = some (2, .if_icmp .gt 7, 3, [(9, 0)]) := by decide +kernel
theorem x202_2 {d : Nat} {a0 a1 : Value} {s0 : Int32} {s1 : Int32} {h : AHp} : Rf d 202 2 [a0, a1] [.int s0, .int s1] h = if s0 < s1 then Rf d 202 9 [a0, a1] [] h else Rf d 202 5 [a0, a1] [] h := Rf_brd ((stp_of c202_2).trans rfl)
theorem c202_9 : cd 202 9 = some (9, .iload_n 1, 1, []) := by decide +kernel
theorem x202_9 {d : Nat} {a0 : Value} {x : Int32} {h : AHp} : Rf d 202 9 [a0, .int x] [] h = Rf d 202 10 [a0, .int x] [.int x] h := Rf_go ((stp_of c202_9).trans rfl)
theorem c202_10 : cd 202 10 = some (10, .ireturn, 1, []) := by decide +kernel
theorem x202_10 {d : Nat} {a0 a1 : Value} {s0 : Int32} {h : AHp} : Rf d 202 10 [a0, a1] [.int s0] h = some (some (.int s0), h) := Rf_end (by rw [stp_of c202_10]; simp only [stpI]; rw [if_pos (show retI (mH 202).2.2.1 s0 = true from retI_int)])
theorem c202_5 : cd 202 5 = some (5, .iload_n 0, 1, []) := by decide +kernel
theorem x202_5 {d : Nat} {a1 : Value} {x : Int32} {h : AHp} : Rf d 202 5 [.int x, a1] [] h = Rf d 202 6 [.int x, a1] [.int x] h := Rf_go ((stp_of c202_5).trans rfl)
theorem c202_6 : cd 202 6 = some (6, .goto 4, 3, [(10, 0)]) := by decide +kernel
theorem x202_6 {d : Nat} {a0 a1 : Value} {s0 : Int32} {h : AHp} : Rf d 202 6 [a0, a1] [.int s0] h = Rf d 202 10 [a0, a1] [.int s0] h := Rf_go ((stp_of c202_6).trans rfl)
-- 203: J0_length_8abf5
theorem c203_0 : cd 203 0 = some (0, .aload_n 0, 1, []) := by decide +kernel
theorem x203_0 {d : Nat} {x : Nat} {h : AHp} : Rf d 203 0 [.ref x] [] h = Rf d 203 1 [.ref x] [.ref x] h := Rf_go ((stp_of c203_0).trans rfl)
theorem c203_1 : cd 203 1 = some (1, .getfield 9, 3, [(13, 0)]) := by decide +kernel
theorem x203_1 {d : Nat} {a0 : Value} {s0 : Nat} {h : AHp} : Rf d 203 1 [a0] [.ref s0] h = if cls (h.1 s0) = 13 ∧ oKr (h.1 s0) 0 = true then Rf d 203 4 [a0] [.ref (oR (h.1 s0) 0)] h else Rx d 203 1 [a0] [.ref s0] h := getR c203_1
theorem c203_4 : cd 203 4 = some (4, .arraylength, 1, []) := by decide +kernel
theorem x203_4 {d : Nat} {a0 : Value} {s0 : Nat} {h : AHp} : Rf d 203 4 [a0] [.ref s0] h = if aT (h.1 s0) = 0 ∨ aT (h.1 s0) = 1 ∨ aT (h.1 s0) = 10 ∨ aT (h.1 s0) = 11 then Rf d 203 5 [a0] [.int (nI (aN (h.1 s0)))] h else Rx d 203 4 [a0] [.ref s0] h := alI c203_4
theorem c203_5 : cd 203 5 = some (5, .aload_n 0, 1, []) := by decide +kernel
theorem x203_5 {d : Nat} {s0 : Int32} {x : Nat} {h : AHp} : Rf d 203 5 [.ref x] [.int s0] h = Rf d 203 6 [.ref x] [.ref x, .int s0] h := Rf_go ((stp_of c203_5).trans rfl)
theorem c203_6 : cd 203 6 = some (6, .invokevirtual 335, 3, [(13, 207)]) := by decide +kernel
theorem xc203_6 {d : Nat} {a0 : Value} {s0 : Nat} {s1 : Int32} {h : AHp} {h1 : AHp} {v : Int32} (hr : cls (h.1 s0) = 13) (hq : Rf d 207 0 [.ref s0] [] h = some (some (.int v), h1)) : Rf (d + 1) 203 6 [a0] [.ref s0, .int s1] h = Rf (d + 1) 203 9 [a0] [.int v, .int s1] h1 := clV (c := 207) (as := []) c203_6 rfl (by simp [isV]) (by rw [hr]; rfl) hq
theorem c203_9 : cd 203 9 = some (9, .ishr, 1, []) := by decide +kernel
theorem x203_9 {d : Nat} {a0 : Value} {s0 : Int32} {s1 : Int32} {h : AHp} : Rf d 203 9 [a0] [.int s0, .int s1] h = Rf d 203 10 [a0] [.int (s1 >>> (s0 &&& 31))] h := Rf_go ((stp_of c203_9).trans rfl)
theorem c203_10 : cd 203 10 = some (10, .ireturn, 1, []) := by decide +kernel
theorem x203_10 {d : Nat} {a0 : Value} {s0 : Int32} {h : AHp} : Rf d 203 10 [a0] [.int s0] h = some (some (.int s0), h) := Rf_end (by rw [stp_of c203_10]; simp only [stpI]; rw [if_pos (show retI (mH 203).2.2.1 s0 = true from retI_int)])
-- 204: J0_charAt_5068e
theorem c204_0 : cd 204 0 = some (0, .aload_n 0, 1, []) := by decide +kernel
theorem x204_0 {d : Nat} {a1 : Value} {x : Nat} {h : AHp} : Rf d 204 0 [.ref x, a1] [] h = Rf d 204 1 [.ref x, a1] [.ref x] h := Rf_go ((stp_of c204_0).trans rfl)
theorem c204_1 : cd 204 1 = some (1, .invokevirtual 492, 3, [(13, 208)]) := by decide +kernel
theorem xc204_1 {d : Nat} {a0 a1 : Value} {s0 : Nat} {h : AHp} {h1 : AHp} {v : Int32} (hr : cls (h.1 s0) = 13) (hq : Rf d 208 0 [.ref s0] [] h = some (some (.int v), h1)) : Rf (d + 1) 204 1 [a0, a1] [.ref s0] h = Rf (d + 1) 204 4 [a0, a1] [.int v] h1 := clV (c := 208) (as := []) c204_1 rfl (by simp [isV]) (by rw [hr]; rfl) hq
theorem c204_4 : cd 204 4 = some (4, .ifCond .eq 12, 3, [(16, 0)]) := by decide +kernel
theorem x204_4 {d : Nat} {a0 a1 : Value} {s0 : Int32} {h : AHp} : Rf d 204 4 [a0, a1] [.int s0] h = if s0 = 0 then Rf d 204 16 [a0, a1] [] h else Rf d 204 7 [a0, a1] [] h := Rf_brd ((stp_of c204_4).trans rfl)
theorem c204_16 : cd 204 16 = some (16, .aload_n 0, 1, []) := by decide +kernel
theorem x204_16 {d : Nat} {a1 : Value} {x : Nat} {h : AHp} : Rf d 204 16 [.ref x, a1] [] h = Rf d 204 17 [.ref x, a1] [.ref x] h := Rf_go ((stp_of c204_16).trans rfl)
theorem c204_17 : cd 204 17 = some (17, .getfield 9, 3, [(13, 0)]) := by decide +kernel
theorem x204_17 {d : Nat} {a0 a1 : Value} {s0 : Nat} {h : AHp} : Rf d 204 17 [a0, a1] [.ref s0] h = if cls (h.1 s0) = 13 ∧ oKr (h.1 s0) 0 = true then Rf d 204 20 [a0, a1] [.ref (oR (h.1 s0) 0)] h else Rx d 204 17 [a0, a1] [.ref s0] h := getR c204_17
theorem c204_20 : cd 204 20 = some (20, .iload_n 1, 1, []) := by decide +kernel
theorem x204_20 {d : Nat} {a0 : Value} {s0 : Nat} {x : Int32} {h : AHp} : Rf d 204 20 [a0, .int x] [.ref s0] h = Rf d 204 21 [a0, .int x] [.int x, .ref s0] h := Rf_go ((stp_of c204_20).trans rfl)
theorem c204_7 : cd 204 7 = some (7, .aload_n 0, 1, []) := by decide +kernel
theorem x204_7 {d : Nat} {a1 : Value} {x : Nat} {h : AHp} : Rf d 204 7 [.ref x, a1] [] h = Rf d 204 8 [.ref x, a1] [.ref x] h := Rf_go ((stp_of c204_7).trans rfl)
theorem c204_8 : cd 204 8 = some (8, .getfield 9, 3, [(13, 0)]) := by decide +kernel
theorem x204_8 {d : Nat} {a0 a1 : Value} {s0 : Nat} {h : AHp} : Rf d 204 8 [a0, a1] [.ref s0] h = if cls (h.1 s0) = 13 ∧ oKr (h.1 s0) 0 = true then Rf d 204 11 [a0, a1] [.ref (oR (h.1 s0) 0)] h else Rx d 204 8 [a0, a1] [.ref s0] h := getR c204_8
theorem c204_11 : cd 204 11 = some (11, .iload_n 1, 1, []) := by decide +kernel
theorem x204_11 {d : Nat} {a0 : Value} {s0 : Nat} {x : Int32} {h : AHp} : Rf d 204 11 [a0, .int x] [.ref s0] h = Rf d 204 12 [a0, .int x] [.int x, .ref s0] h := Rf_go ((stp_of c204_11).trans rfl)
theorem c204_12 : cd 204 12 = some (12, .invokestatic 495, 3, [(0, 210)]) := by decide +kernel
theorem xc204_12 {d : Nat} {a0 a1 : Value} {s0 : Int32} {s1 : Nat} {h : AHp} {h1 : AHp} {v : Int32} (hq : Rf d 210 0 [.ref s1, .int s0] [] h = some (some (.int v), h1)) : Rf (d + 1) 204 12 [a0, a1] [.int s0, .ref s1] h = Rf (d + 1) 204 15 [a0, a1] [.int v] h1 := clS (as := [.ref s1, .int s0]) c204_12 rfl rfl (by simp [isV]) hq
theorem c204_15 : cd 204 15 = some (15, .ireturn, 1, []) := by decide +kernel
theorem x204_15 {d : Nat} {a0 a1 : Value} {s0 : Int32} {h : AHp} : Rf d 204 15 [a0, a1] [.int s0] h = if retI (some .char) s0 = true then some (some (.int s0), h) else Rx d 204 15 [a0, a1] [.int s0] h := Rf_ife (fun hk => by rw [stp_of c204_15]; exact if_pos hk)
-- 205: J0_indexOf_0f7a4
theorem c205_0 : cd 205 0 = some (0, .aload_n 0, 1, []) := by decide +kernel
theorem x205_0 {d : Nat} {a1 : Value} {x : Nat} {h : AHp} : Rf d 205 0 [.ref x, a1] [] h = Rf d 205 1 [.ref x, a1] [.ref x] h := Rf_go ((stp_of c205_0).trans rfl)
theorem c205_1 : cd 205 1 = some (1, .iload_n 1, 1, []) := by decide +kernel
theorem x205_1 {d : Nat} {a0 : Value} {s0 : Nat} {x : Int32} {h : AHp} : Rf d 205 1 [a0, .int x] [.ref s0] h = Rf d 205 2 [a0, .int x] [.int x, .ref s0] h := Rf_go ((stp_of c205_1).trans rfl)
theorem c205_2 : cd 205 2 = some (2, .iconst 0, 1, []) := by decide +kernel
theorem x205_2 {d : Nat} {a0 a1 : Value} {s0 : Int32} {s1 : Nat} {h : AHp} : Rf d 205 2 [a0, a1] [.int s0, .ref s1] h = Rf d 205 3 [a0, a1] [.int 0, .int s0, .ref s1] h := Rf_go ((stp_of c205_2).trans rfl)
theorem c205_3 : cd 205 3 = some (3, .invokevirtual 633, 3, [(13, 206)]) := by decide +kernel
theorem xc205_3 {d : Nat} {a0 a1 : Value} {s0 : Int32} {s1 : Int32} {s2 : Nat} {h : AHp} {h1 : AHp} {v : Int32} (hr : cls (h.1 s2) = 13) (hq : Rf d 206 0 [.ref s2, .int s1, .int s0] [] h = some (some (.int v), h1)) : Rf (d + 1) 205 3 [a0, a1] [.int s0, .int s1, .ref s2] h = Rf (d + 1) 205 6 [a0, a1] [.int v] h1 := clV (c := 206) (as := [.int s1, .int s0]) c205_3 rfl (by simp [isV]) (by rw [hr]; rfl) hq
theorem c205_6 : cd 205 6 = some (6, .ireturn, 1, []) := by decide +kernel
theorem x205_6 {d : Nat} {a0 a1 : Value} {s0 : Int32} {h : AHp} : Rf d 205 6 [a0, a1] [.int s0] h = some (some (.int s0), h) := Rf_end (by rw [stp_of c205_6]; simp only [stpI]; rw [if_pos (show retI (mH 205).2.2.1 s0 = true from retI_int)])
-- 206: J0_indexOf_7cf53
theorem c206_0 : cd 206 0 = some (0, .aload_n 0, 1, []) := by decide +kernel
theorem x206_0 {d : Nat} {a1 a2 : Value} {x : Nat} {h : AHp} : Rf d 206 0 [.ref x, a1, a2] [] h = Rf d 206 1 [.ref x, a1, a2] [.ref x] h := Rf_go ((stp_of c206_0).trans rfl)
theorem c206_1 : cd 206 1 = some (1, .invokevirtual 492, 3, [(13, 208)]) := by decide +kernel
theorem xc206_1 {d : Nat} {a0 a1 a2 : Value} {s0 : Nat} {h : AHp} {h1 : AHp} {v : Int32} (hr : cls (h.1 s0) = 13) (hq : Rf d 208 0 [.ref s0] [] h = some (some (.int v), h1)) : Rf (d + 1) 206 1 [a0, a1, a2] [.ref s0] h = Rf (d + 1) 206 4 [a0, a1, a2] [.int v] h1 := clV (c := 208) (as := []) c206_1 rfl (by simp [isV]) (by rw [hr]; rfl) hq
theorem c206_4 : cd 206 4 = some (4, .ifCond .eq 19, 3, [(23, 0)]) := by decide +kernel
theorem x206_4 {d : Nat} {a0 a1 a2 : Value} {s0 : Int32} {h : AHp} : Rf d 206 4 [a0, a1, a2] [.int s0] h = if s0 = 0 then Rf d 206 23 [a0, a1, a2] [] h else Rf d 206 7 [a0, a1, a2] [] h := Rf_brd ((stp_of c206_4).trans rfl)
theorem c206_23 : cd 206 23 = some (23, .aload_n 0, 1, []) := by decide +kernel
theorem x206_23 {d : Nat} {a1 a2 : Value} {x : Nat} {h : AHp} : Rf d 206 23 [.ref x, a1, a2] [] h = Rf d 206 24 [.ref x, a1, a2] [.ref x] h := Rf_go ((stp_of c206_23).trans rfl)
theorem c206_24 : cd 206 24 = some (24, .getfield 9, 3, [(13, 0)]) := by decide +kernel
theorem x206_24 {d : Nat} {a0 a1 a2 : Value} {s0 : Nat} {h : AHp} : Rf d 206 24 [a0, a1, a2] [.ref s0] h = if cls (h.1 s0) = 13 ∧ oKr (h.1 s0) 0 = true then Rf d 206 27 [a0, a1, a2] [.ref (oR (h.1 s0) 0)] h else Rx d 206 24 [a0, a1, a2] [.ref s0] h := getR c206_24
theorem c206_27 : cd 206 27 = some (27, .iload_n 1, 1, []) := by decide +kernel
theorem x206_27 {d : Nat} {a0 a2 : Value} {s0 : Nat} {x : Int32} {h : AHp} : Rf d 206 27 [a0, .int x, a2] [.ref s0] h = Rf d 206 28 [a0, .int x, a2] [.int x, .ref s0] h := Rf_go ((stp_of c206_27).trans rfl)
theorem c206_28 : cd 206 28 = some (28, .iload_n 2, 1, []) := by decide +kernel
theorem x206_28 {d : Nat} {a0 a1 : Value} {s0 : Int32} {s1 : Nat} {x : Int32} {h : AHp} : Rf d 206 28 [a0, a1, .int x] [.int s0, .ref s1] h = Rf d 206 29 [a0, a1, .int x] [.int x, .int s0, .ref s1] h := Rf_go ((stp_of c206_28).trans rfl)
theorem c206_29 : cd 206 29 = some (29, .aload_n 0, 1, []) := by decide +kernel
theorem x206_29 {d : Nat} {a1 a2 : Value} {s0 : Int32} {s1 : Int32} {s2 : Nat} {x : Nat} {h : AHp} : Rf d 206 29 [.ref x, a1, a2] [.int s0, .int s1, .ref s2] h = Rf d 206 30 [.ref x, a1, a2] [.ref x, .int s0, .int s1, .ref s2] h := Rf_go ((stp_of c206_29).trans rfl)
theorem c206_30 : cd 206 30 = some (30, .invokevirtual 505, 3, [(13, 203)]) := by decide +kernel
theorem xc206_30 {d : Nat} {a0 a1 a2 : Value} {s0 : Nat} {s1 : Int32} {s2 : Int32} {s3 : Nat} {h : AHp} {h1 : AHp} {v : Int32} (hr : cls (h.1 s0) = 13) (hq : Rf d 203 0 [.ref s0] [] h = some (some (.int v), h1)) : Rf (d + 1) 206 30 [a0, a1, a2] [.ref s0, .int s1, .int s2, .ref s3] h = Rf (d + 1) 206 33 [a0, a1, a2] [.int v, .int s1, .int s2, .ref s3] h1 := clV (c := 203) (as := []) c206_30 rfl (by simp [isV]) (by rw [hr]; rfl) hq
theorem c206_7 : cd 206 7 = some (7, .aload_n 0, 1, []) := by decide +kernel
theorem x206_7 {d : Nat} {a1 a2 : Value} {x : Nat} {h : AHp} : Rf d 206 7 [.ref x, a1, a2] [] h = Rf d 206 8 [.ref x, a1, a2] [.ref x] h := Rf_go ((stp_of c206_7).trans rfl)
theorem c206_8 : cd 206 8 = some (8, .getfield 9, 3, [(13, 0)]) := by decide +kernel
theorem x206_8 {d : Nat} {a0 a1 a2 : Value} {s0 : Nat} {h : AHp} : Rf d 206 8 [a0, a1, a2] [.ref s0] h = if cls (h.1 s0) = 13 ∧ oKr (h.1 s0) 0 = true then Rf d 206 11 [a0, a1, a2] [.ref (oR (h.1 s0) 0)] h else Rx d 206 8 [a0, a1, a2] [.ref s0] h := getR c206_8
theorem c206_11 : cd 206 11 = some (11, .iload_n 1, 1, []) := by decide +kernel
theorem x206_11 {d : Nat} {a0 a2 : Value} {s0 : Nat} {x : Int32} {h : AHp} : Rf d 206 11 [a0, .int x, a2] [.ref s0] h = Rf d 206 12 [a0, .int x, a2] [.int x, .ref s0] h := Rf_go ((stp_of c206_11).trans rfl)
theorem c206_12 : cd 206 12 = some (12, .iload_n 2, 1, []) := by decide +kernel
theorem x206_12 {d : Nat} {a0 a1 : Value} {s0 : Int32} {s1 : Nat} {x : Int32} {h : AHp} : Rf d 206 12 [a0, a1, .int x] [.int s0, .ref s1] h = Rf d 206 13 [a0, a1, .int x] [.int x, .int s0, .ref s1] h := Rf_go ((stp_of c206_12).trans rfl)
theorem c206_13 : cd 206 13 = some (13, .aload_n 0, 1, []) := by decide +kernel
theorem x206_13 {d : Nat} {a1 a2 : Value} {s0 : Int32} {s1 : Int32} {s2 : Nat} {x : Nat} {h : AHp} : Rf d 206 13 [.ref x, a1, a2] [.int s0, .int s1, .ref s2] h = Rf d 206 14 [.ref x, a1, a2] [.ref x, .int s0, .int s1, .ref s2] h := Rf_go ((stp_of c206_13).trans rfl)
theorem c206_14 : cd 206 14 = some (14, .invokevirtual 505, 3, [(13, 203)]) := by decide +kernel
theorem xc206_14 {d : Nat} {a0 a1 a2 : Value} {s0 : Nat} {s1 : Int32} {s2 : Int32} {s3 : Nat} {h : AHp} {h1 : AHp} {v : Int32} (hr : cls (h.1 s0) = 13) (hq : Rf d 203 0 [.ref s0] [] h = some (some (.int v), h1)) : Rf (d + 1) 206 14 [a0, a1, a2] [.ref s0, .int s1, .int s2, .ref s3] h = Rf (d + 1) 206 17 [a0, a1, a2] [.int v, .int s1, .int s2, .ref s3] h1 := clV (c := 203) (as := []) c206_14 rfl (by simp [isV]) (by rw [hr]; rfl) hq
theorem c206_17 : cd 206 17 = some (17, .invokestatic 637, 3, [(0, 212)]) := by decide +kernel
theorem xc206_17 {d : Nat} {a0 a1 a2 : Value} {s0 : Int32} {s1 : Int32} {s2 : Int32} {s3 : Nat} {h : AHp} {h1 : AHp} {v : Int32} (hq : Rf d 212 0 [.ref s3, .int s2, .int s1, .int s0] [] h = some (some (.int v), h1)) : Rf (d + 1) 206 17 [a0, a1, a2] [.int s0, .int s1, .int s2, .ref s3] h = Rf (d + 1) 206 20 [a0, a1, a2] [.int v] h1 := clS (as := [.ref s3, .int s2, .int s1, .int s0]) c206_17 rfl rfl (by simp [isV]) hq
theorem c206_20 : cd 206 20 = some (20, .goto 16, 3, [(36, 0)]) := by decide +kernel
theorem x206_20 {d : Nat} {a0 a1 a2 : Value} {s0 : Int32} {h : AHp} : Rf d 206 20 [a0, a1, a2] [.int s0] h = Rf d 206 36 [a0, a1, a2] [.int s0] h := Rf_go ((stp_of c206_20).trans rfl)
theorem c206_36 : cd 206 36 = some (36, .ireturn, 1, []) := by decide +kernel
theorem x206_36 {d : Nat} {a0 a1 a2 : Value} {s0 : Int32} {h : AHp} : Rf d 206 36 [a0, a1, a2] [.int s0] h = some (some (.int s0), h) := Rf_end (by rw [stp_of c206_36]; simp only [stpI]; rw [if_pos (show retI (mH 206).2.2.1 s0 = true from retI_int)])
-- 207: J0_coder_7d493
theorem c207_0 : cd 207 0 = some (0, .getstatic 38, 3, [(0, 1)]) := by decide +kernel
theorem x207_0 {d : Nat} {a0 : Value} {h : AHp} : Rf d 207 0 [a0] [] h = Rf d 207 3 [a0] [.int 1] h := Rf_go ((stp_of c207_0).trans rfl)
theorem c207_3 : cd 207 3 = some (3, .ifCond .eq 10, 3, [(13, 0)]) := by decide +kernel
theorem x207_3 {d : Nat} {a0 : Value} {s0 : Int32} {h : AHp} : Rf d 207 3 [a0] [.int s0] h = if s0 = 0 then Rf d 207 13 [a0] [] h else Rf d 207 6 [a0] [] h := Rf_brd ((stp_of c207_3).trans rfl)
theorem c207_13 : cd 207 13 = some (13, .iconst 1, 1, []) := by decide +kernel
theorem x207_13 {d : Nat} {a0 : Value} {h : AHp} : Rf d 207 13 [a0] [] h = Rf d 207 14 [a0] [.int 1] h := Rf_go ((stp_of c207_13).trans rfl)
theorem c207_14 : cd 207 14 = some (14, .ireturn, 1, []) := by decide +kernel
theorem x207_14 {d : Nat} {a0 : Value} {s0 : Int32} {h : AHp} : Rf d 207 14 [a0] [.int s0] h = if retI (some .byte) s0 = true then some (some (.int s0), h) else Rx d 207 14 [a0] [.int s0] h := Rf_ife (fun hk => by rw [stp_of c207_14]; exact if_pos hk)
theorem c207_6 : cd 207 6 = some (6, .aload_n 0, 1, []) := by decide +kernel
theorem x207_6 {d : Nat} {x : Nat} {h : AHp} : Rf d 207 6 [.ref x] [] h = Rf d 207 7 [.ref x] [.ref x] h := Rf_go ((stp_of c207_6).trans rfl)
theorem c207_7 : cd 207 7 = some (7, .getfield 15, 3, [(13, 1)]) := by decide +kernel
theorem x207_7 {d : Nat} {a0 : Value} {s0 : Nat} {h : AHp} : Rf d 207 7 [a0] [.ref s0] h = if cls (h.1 s0) = 13 ∧ oKi (h.1 s0) 1 = true then Rf d 207 10 [a0] [.int (oN (h.1 s0) 1)] h else Rx d 207 7 [a0] [.ref s0] h := getI c207_7
theorem c207_10 : cd 207 10 = some (10, .goto 4, 3, [(14, 0)]) := by decide +kernel
theorem x207_10 {d : Nat} {a0 : Value} {s0 : Int32} {h : AHp} : Rf d 207 10 [a0] [.int s0] h = Rf d 207 14 [a0] [.int s0] h := Rf_go ((stp_of c207_10).trans rfl)
-- 208: J0_isLatin1_aae02
theorem c208_0 : cd 208 0 = some (0, .getstatic 38, 3, [(0, 1)]) := by decide +kernel
theorem x208_0 {d : Nat} {a0 : Value} {h : AHp} : Rf d 208 0 [a0] [] h = Rf d 208 3 [a0] [.int 1] h := Rf_go ((stp_of c208_0).trans rfl)
theorem c208_3 : cd 208 3 = some (3, .ifCond .eq 14, 3, [(17, 0)]) := by decide +kernel
theorem x208_3 {d : Nat} {a0 : Value} {s0 : Int32} {h : AHp} : Rf d 208 3 [a0] [.int s0] h = if s0 = 0 then Rf d 208 17 [a0] [] h else Rf d 208 6 [a0] [] h := Rf_brd ((stp_of c208_3).trans rfl)
theorem c208_17 : cd 208 17 = some (17, .iconst 0, 1, []) := by decide +kernel
theorem x208_17 {d : Nat} {a0 : Value} {h : AHp} : Rf d 208 17 [a0] [] h = Rf d 208 18 [a0] [.int 0] h := Rf_go ((stp_of c208_17).trans rfl)
theorem c208_18 : cd 208 18 = some (18, .ireturn, 1, []) := by decide +kernel
theorem x208_18 {d : Nat} {a0 : Value} {s0 : Int32} {h : AHp} : Rf d 208 18 [a0] [.int s0] h = if retI (some .boolean) s0 = true then some (some (.int s0), h) else Rx d 208 18 [a0] [.int s0] h := Rf_ife (fun hk => by rw [stp_of c208_18]; exact if_pos hk)
theorem c208_6 : cd 208 6 = some (6, .aload_n 0, 1, []) := by decide +kernel
theorem x208_6 {d : Nat} {x : Nat} {h : AHp} : Rf d 208 6 [.ref x] [] h = Rf d 208 7 [.ref x] [.ref x] h := Rf_go ((stp_of c208_6).trans rfl)
theorem c208_7 : cd 208 7 = some (7, .getfield 15, 3, [(13, 1)]) := by decide +kernel
theorem x208_7 {d : Nat} {a0 : Value} {s0 : Nat} {h : AHp} : Rf d 208 7 [a0] [.ref s0] h = if cls (h.1 s0) = 13 ∧ oKi (h.1 s0) 1 = true then Rf d 208 10 [a0] [.int (oN (h.1 s0) 1)] h else Rx d 208 7 [a0] [.ref s0] h := getI c208_7
theorem c208_10 : cd 208 10 = some (10, .ifCond .ne 7, 3, [(17, 0)]) := by decide +kernel
theorem x208_10 {d : Nat} {a0 : Value} {s0 : Int32} {h : AHp} : Rf d 208 10 [a0] [.int s0] h = if s0 = 0 then Rf d 208 13 [a0] [] h else Rf d 208 17 [a0] [] h := Rf_brn ((stp_of c208_10).trans rfl)
theorem c208_13 : cd 208 13 = some (13, .iconst 1, 1, []) := by decide +kernel
theorem x208_13 {d : Nat} {a0 : Value} {h : AHp} : Rf d 208 13 [a0] [] h = Rf d 208 14 [a0] [.int 1] h := Rf_go ((stp_of c208_13).trans rfl)
theorem c208_14 : cd 208 14 = some (14, .goto 4, 3, [(18, 0)]) := by decide +kernel
theorem x208_14 {d : Nat} {a0 : Value} {s0 : Int32} {h : AHp} : Rf d 208 14 [a0] [.int s0] h = Rf d 208 18 [a0] [.int s0] h := Rf_go ((stp_of c208_14).trans rfl)
-- 209: J0_checkIndex_df160
theorem c209_0 : cd 209 0 = some (0, .iload_n 0, 1, []) := by decide +kernel
theorem x209_0 {d : Nat} {a1 : Value} {x : Int32} {h : AHp} : Rf d 209 0 [.int x, a1] [] h = Rf d 209 1 [.int x, a1] [.int x] h := Rf_go ((stp_of c209_0).trans rfl)
theorem c209_1 : cd 209 1 = some (1, .iload_n 1, 1, []) := by decide +kernel
theorem x209_1 {d : Nat} {a0 : Value} {s0 : Int32} {x : Int32} {h : AHp} : Rf d 209 1 [a0, .int x] [.int s0] h = Rf d 209 2 [a0, .int x] [.int x, .int s0] h := Rf_go ((stp_of c209_1).trans rfl)
theorem c209_2 : cd 209 2 = some (2, .getstatic 1053, 3, [(1, 30)]) := by decide +kernel
theorem x209_2 {d : Nat} {a0 a1 : Value} {s0 : Int32} {s1 : Int32} {h : AHp} : Rf d 209 2 [a0, a1] [.int s0, .int s1] h = Rf d 209 5 [a0, a1] [.retAddr 1, .int s0, .int s1] h := Rf_go ((stp_of c209_2).trans rfl)
theorem c209_5 : cd 209 5 = some (5, .invokestatic 1059, 3, [(0, 216)]) := by decide +kernel
theorem xc209_5 {d : Nat} {a0 a1 : Value} {s1 : Int32} {s2 : Int32} {h : AHp} {h1 : AHp} {v : Int32} (hq : Rf d 216 0 [.int s2, .int s1, .retAddr 1] [] h = some (some (.int v), h1)) : Rf (d + 1) 209 5 [a0, a1] [.retAddr 1, .int s1, .int s2] h = Rf (d + 1) 209 8 [a0, a1] [.int v] h1 := clS (as := [.int s2, .int s1, .retAddr 1]) c209_5 rfl rfl (by simp [isV]) hq
theorem c209_8 : cd 209 8 = some (8, .pop, 1, []) := by decide +kernel
theorem x209_8 {d : Nat} {a0 a1 : Value} {s0 : Int32} {h : AHp} : Rf d 209 8 [a0, a1] [.int s0] h = Rf d 209 9 [a0, a1] [] h := Rf_go ((stp_of c209_8).trans rfl)
theorem c209_9 : cd 209 9 = some (9, .return_, 1, []) := by decide +kernel
theorem x209_9 {d : Nat} {a0 a1 : Value} {h : AHp} : Rf d 209 9 [a0, a1] [] h = some (none, h) := Rf_end (endV c209_9 (by decide +kernel))
-- 210: J1_charAt_3b067
theorem c210_0 : cd 210 0 = some (0, .iload_n 1, 1, []) := by decide +kernel
theorem x210_0 {d : Nat} {a0 : Value} {x : Int32} {h : AHp} : Rf d 210 0 [a0, .int x] [] h = Rf d 210 1 [a0, .int x] [.int x] h := Rf_go ((stp_of c210_0).trans rfl)
theorem c210_1 : cd 210 1 = some (1, .aload_n 0, 1, []) := by decide +kernel
theorem x210_1 {d : Nat} {a1 : Value} {s0 : Int32} {x : Nat} {h : AHp} : Rf d 210 1 [.ref x, a1] [.int s0] h = Rf d 210 2 [.ref x, a1] [.ref x, .int s0] h := Rf_go ((stp_of c210_1).trans rfl)
theorem c210_2 : cd 210 2 = some (2, .arraylength, 1, []) := by decide +kernel
theorem x210_2 {d : Nat} {a0 a1 : Value} {s0 : Nat} {s1 : Int32} {h : AHp} : Rf d 210 2 [a0, a1] [.ref s0, .int s1] h = if aT (h.1 s0) = 0 ∨ aT (h.1 s0) = 1 ∨ aT (h.1 s0) = 10 ∨ aT (h.1 s0) = 11 then Rf d 210 3 [a0, a1] [.int (nI (aN (h.1 s0))), .int s1] h else Rx d 210 2 [a0, a1] [.ref s0, .int s1] h := alI c210_2
theorem c210_3 : cd 210 3 = some (3, .invokestatic 9, 3, [(0, 209)]) := by decide +kernel
theorem xc210_3 {d : Nat} {a0 a1 : Value} {s0 : Int32} {s1 : Int32} {h : AHp} {h1 : AHp} (hq : Rf d 209 0 [.int s1, .int s0] [] h = some (none, h1)) : Rf (d + 1) 210 3 [a0, a1] [.int s0, .int s1] h = Rf (d + 1) 210 6 [a0, a1] [] h1 := clS (as := [.int s1, .int s0]) c210_3 rfl rfl (by simp [isV]) hq
theorem c210_6 : cd 210 6 = some (6, .aload_n 0, 1, []) := by decide +kernel
theorem x210_6 {d : Nat} {a1 : Value} {x : Nat} {h : AHp} : Rf d 210 6 [.ref x, a1] [] h = Rf d 210 7 [.ref x, a1] [.ref x] h := Rf_go ((stp_of c210_6).trans rfl)
theorem c210_7 : cd 210 7 = some (7, .iload_n 1, 1, []) := by decide +kernel
theorem x210_7 {d : Nat} {a0 : Value} {s0 : Nat} {x : Int32} {h : AHp} : Rf d 210 7 [a0, .int x] [.ref s0] h = Rf d 210 8 [a0, .int x] [.int x, .ref s0] h := Rf_go ((stp_of c210_7).trans rfl)
theorem c210_8 : cd 210 8 = some (8, .baload, 1, []) := by decide +kernel
theorem x210_8 {d : Nat} {a0 a1 : Value} {s0 : Int32} {s1 : Nat} {h : AHp} : Rf d 210 8 [a0, a1] [.int s0, .ref s1] h = if (aT (h.1 s1) = 1 ∨ aT (h.1 s1) = 2 ∨ aT (h.1 s1) = 11) ∧ inB s0 (aN (h.1 s1)) = true then Rf d 210 9 [a0, a1] [.int (aF (h.1 s1) s0.toNatClampNeg)] h else Rx d 210 8 [a0, a1] [.int s0, .ref s1] h := ldB c210_8
theorem c210_9 : cd 210 9 = some (9, .sipush 255, 3, []) := by decide +kernel
theorem x210_9 {d : Nat} {a0 a1 : Value} {s0 : Int32} {h : AHp} : Rf d 210 9 [a0, a1] [.int s0] h = Rf d 210 12 [a0, a1] [.int 255, .int s0] h := Rf_go ((stp_of c210_9).trans rfl)
theorem c210_12 : cd 210 12 = some (12, .iand, 1, []) := by decide +kernel
theorem x210_12 {d : Nat} {a0 a1 : Value} {s0 : Int32} {s1 : Int32} {h : AHp} : Rf d 210 12 [a0, a1] [.int s0, .int s1] h = Rf d 210 13 [a0, a1] [.int (s1 &&& s0)] h := Rf_go ((stp_of c210_12).trans rfl)
theorem c210_13 : cd 210 13 = some (13, .i2c, 1, []) := by decide +kernel
theorem x210_13 {d : Nat} {a0 a1 : Value} {s0 : Int32} {h : AHp} : Rf d 210 13 [a0, a1] [.int s0] h = Rf d 210 14 [a0, a1] [.int ((s0.toUInt32 % 65536).toInt32)] h := Rf_go ((stp_of c210_13).trans rfl)
theorem c210_14 : cd 210 14 = some (14, .ireturn, 1, []) := by decide +kernel
theorem x210_14 {d : Nat} {a0 a1 : Value} {s0 : Int32} {h : AHp} : Rf d 210 14 [a0, a1] [.int s0] h = if retI (some .char) s0 = true then some (some (.int s0), h) else Rx d 210 14 [a0, a1] [.int s0] h := Rf_ife (fun hk => by rw [stp_of c210_14]; exact if_pos hk)
-- 211: J1_canEncode_9a6ad
theorem c211_0 : cd 211 0 = some (0, .iload_n 0, 1, []) := by decide +kernel
theorem x211_0 {d : Nat} {x : Int32} {h : AHp} : Rf d 211 0 [.int x] [] h = Rf d 211 1 [.int x] [.int x] h := Rf_go ((stp_of c211_0).trans rfl)
theorem c211_1 : cd 211 1 = some (1, .ifCond .lt 14, 3, [(15, 0)]) := by decide +kernel
theorem x211_1 {d : Nat} {a0 : Value} {s0 : Int32} {h : AHp} : Rf d 211 1 [a0] [.int s0] h = if s0 < 0 then Rf d 211 15 [a0] [] h else Rf d 211 4 [a0] [] h := Rf_brd ((stp_of c211_1).trans rfl)
theorem c211_15 : cd 211 15 = some (15, .iconst 0, 1, []) := by decide +kernel
theorem x211_15 {d : Nat} {a0 : Value} {h : AHp} : Rf d 211 15 [a0] [] h = Rf d 211 16 [a0] [.int 0] h := Rf_go ((stp_of c211_15).trans rfl)
theorem c211_16 : cd 211 16 = some (16, .ireturn, 1, []) := by decide +kernel
theorem x211_16 {d : Nat} {a0 : Value} {s0 : Int32} {h : AHp} : Rf d 211 16 [a0] [.int s0] h = if retI (some .boolean) s0 = true then some (some (.int s0), h) else Rx d 211 16 [a0] [.int s0] h := Rf_ife (fun hk => by rw [stp_of c211_16]; exact if_pos hk)
theorem c211_4 : cd 211 4 = some (4, .iload_n 0, 1, []) := by decide +kernel
theorem x211_4 {d : Nat} {x : Int32} {h : AHp} : Rf d 211 4 [.int x] [] h = Rf d 211 5 [.int x] [.int x] h := Rf_go ((stp_of c211_4).trans rfl)
theorem c211_5 : cd 211 5 = some (5, .sipush 255, 3, []) := by decide +kernel
theorem x211_5 {d : Nat} {a0 : Value} {s0 : Int32} {h : AHp} : Rf d 211 5 [a0] [.int s0] h = Rf d 211 8 [a0] [.int 255, .int s0] h := Rf_go ((stp_of c211_5).trans rfl)
theorem c211_8 : cd 211 8 = some (8, .if_icmp .gt 7, 3, [(15, 0)]) := by decide +kernel
theorem x211_8 {d : Nat} {a0 : Value} {s0 : Int32} {s1 : Int32} {h : AHp} : Rf d 211 8 [a0] [.int s0, .int s1] h = if s0 < s1 then Rf d 211 15 [a0] [] h else Rf d 211 11 [a0] [] h := Rf_brd ((stp_of c211_8).trans rfl)
theorem c211_11 : cd 211 11 = some (11, .iconst 1, 1, []) := by decide +kernel
theorem x211_11 {d : Nat} {a0 : Value} {h : AHp} : Rf d 211 11 [a0] [] h = Rf d 211 12 [a0] [.int 1] h := Rf_go ((stp_of c211_11).trans rfl)
theorem c211_12 : cd 211 12 = some (12, .goto 4, 3, [(16, 0)]) := by decide +kernel
theorem x211_12 {d : Nat} {a0 : Value} {s0 : Int32} {h : AHp} : Rf d 211 12 [a0] [.int s0] h = Rf d 211 16 [a0] [.int s0] h := Rf_go ((stp_of c211_12).trans rfl)
-- 212: J1_indexOf_4cfef
theorem c212_0 : cd 212 0 = some (0, .iload_n 1, 1, []) := by decide +kernel
theorem x212_0 {d : Nat} {a0 a2 a3 : Value} {x : Int32} {h : AHp} : Rf d 212 0 [a0, .int x, a2, a3] [] h = Rf d 212 1 [a0, .int x, a2, a3] [.int x] h := Rf_go ((stp_of c212_0).trans rfl)
theorem c212_1 : cd 212 1 = some (1, .invokestatic 88, 3, [(0, 211)]) := by decide +kernel
theorem xc212_1 {d : Nat} {a0 a1 a2 a3 : Value} {s0 : Int32} {h : AHp} {h1 : AHp} {v : Int32} (hq : Rf d 211 0 [.int s0] [] h = some (some (.int v), h1)) : Rf (d + 1) 212 1 [a0, a1, a2, a3] [.int s0] h = Rf (d + 1) 212 4 [a0, a1, a2, a3] [.int v] h1 := clS (as := [.int s0]) c212_1 rfl rfl (by simp [isV]) hq
theorem c212_4 : cd 212 4 = some (4, .ifCond .ne 5, 3, [(9, 0)]) := by decide +kernel
theorem x212_4 {d : Nat} {a0 a1 a2 a3 : Value} {s0 : Int32} {h : AHp} : Rf d 212 4 [a0, a1, a2, a3] [.int s0] h = if s0 = 0 then Rf d 212 7 [a0, a1, a2, a3] [] h else Rf d 212 9 [a0, a1, a2, a3] [] h := Rf_brn ((stp_of c212_4).trans rfl)
theorem c212_9 : cd 212 9 = some (9, .iload_n 2, 1, []) := by decide +kernel
theorem x212_9 {d : Nat} {a0 a1 a3 : Value} {x : Int32} {h : AHp} : Rf d 212 9 [a0, a1, .int x, a3] [] h = Rf d 212 10 [a0, a1, .int x, a3] [.int x] h := Rf_go ((stp_of c212_9).trans rfl)
theorem c212_10 : cd 212 10 = some (10, .iconst 0, 1, []) := by decide +kernel
theorem x212_10 {d : Nat} {a0 a1 a2 a3 : Value} {s0 : Int32} {h : AHp} : Rf d 212 10 [a0, a1, a2, a3] [.int s0] h = Rf d 212 11 [a0, a1, a2, a3] [.int 0, .int s0] h := Rf_go ((stp_of c212_10).trans rfl)
theorem c212_11 : cd 212 11 = some (11, .invokestatic 92, 3, [(0, 201)]) := by decide +kernel
theorem xc212_11 {d : Nat} {a0 a1 a2 a3 : Value} {s0 : Int32} {s1 : Int32} {h : AHp} {h1 : AHp} {v : Int32} (hq : Rf d 201 0 [.int s1, .int s0] [] h = some (some (.int v), h1)) : Rf (d + 1) 212 11 [a0, a1, a2, a3] [.int s0, .int s1] h = Rf (d + 1) 212 14 [a0, a1, a2, a3] [.int v] h1 := clS (as := [.int s1, .int s0]) c212_11 rfl rfl (by simp [isV]) hq
theorem c212_14 : cd 212 14 = some (14, .istore_n 2, 1, []) := by decide +kernel
theorem x212_14 {d : Nat} {a0 a1 a2 a3 : Value} {s0 : Int32} {h : AHp} : Rf d 212 14 [a0, a1, a2, a3] [.int s0] h = Rf d 212 15 [a0, a1, .int s0, a3] [] h := Rf_go ((stp_of c212_14).trans rfl)
theorem c212_15 : cd 212 15 = some (15, .iload_n 3, 1, []) := by decide +kernel
theorem x212_15 {d : Nat} {a0 a1 a2 : Value} {x : Int32} {h : AHp} : Rf d 212 15 [a0, a1, a2, .int x] [] h = Rf d 212 16 [a0, a1, a2, .int x] [.int x] h := Rf_go ((stp_of c212_15).trans rfl)
theorem c212_16 : cd 212 16 = some (16, .aload_n 0, 1, []) := by decide +kernel
theorem x212_16 {d : Nat} {a1 a2 a3 : Value} {s0 : Int32} {x : Nat} {h : AHp} : Rf d 212 16 [.ref x, a1, a2, a3] [.int s0] h = Rf d 212 17 [.ref x, a1, a2, a3] [.ref x, .int s0] h := Rf_go ((stp_of c212_16).trans rfl)
theorem c212_17 : cd 212 17 = some (17, .arraylength, 1, []) := by decide +kernel
theorem x212_17 {d : Nat} {a0 a1 a2 a3 : Value} {s0 : Nat} {s1 : Int32} {h : AHp} : Rf d 212 17 [a0, a1, a2, a3] [.ref s0, .int s1] h = if aT (h.1 s0) = 0 ∨ aT (h.1 s0) = 1 ∨ aT (h.1 s0) = 10 ∨ aT (h.1 s0) = 11 then Rf d 212 18 [a0, a1, a2, a3] [.int (nI (aN (h.1 s0))), .int s1] h else Rx d 212 17 [a0, a1, a2, a3] [.ref s0, .int s1] h := alI c212_17
theorem c212_18 : cd 212 18 = some (18, .invokestatic 38, 3, [(0, 202)]) := by decide +kernel
theorem xc212_18 {d : Nat} {a0 a1 a2 a3 : Value} {s0 : Int32} {s1 : Int32} {h : AHp} {h1 : AHp} {v : Int32} (hq : Rf d 202 0 [.int s1, .int s0] [] h = some (some (.int v), h1)) : Rf (d + 1) 212 18 [a0, a1, a2, a3] [.int s0, .int s1] h = Rf (d + 1) 212 21 [a0, a1, a2, a3] [.int v] h1 := clS (as := [.int s1, .int s0]) c212_18 rfl rfl (by simp [isV]) hq
theorem c212_21 : cd 212 21 = some (21, .istore_n 3, 1, []) := by decide +kernel
theorem x212_21 {d : Nat} {a0 a1 a2 a3 : Value} {s0 : Int32} {h : AHp} : Rf d 212 21 [a0, a1, a2, a3] [.int s0] h = Rf d 212 22 [a0, a1, a2, .int s0] [] h := Rf_go ((stp_of c212_21).trans rfl)
theorem c212_22 : cd 212 22 = some (22, .iload_n 2, 1, []) := by decide +kernel
theorem x212_22 {d : Nat} {a0 a1 a3 : Value} {x : Int32} {h : AHp} : Rf d 212 22 [a0, a1, .int x, a3] [] h = Rf d 212 23 [a0, a1, .int x, a3] [.int x] h := Rf_go ((stp_of c212_22).trans rfl)
theorem c212_23 : cd 212 23 = some (23, .iload_n 3, 1, []) := by decide +kernel
theorem x212_23 {d : Nat} {a0 a1 a2 : Value} {s0 : Int32} {x : Int32} {h : AHp} : Rf d 212 23 [a0, a1, a2, .int x] [.int s0] h = Rf d 212 24 [a0, a1, a2, .int x] [.int x, .int s0] h := Rf_go ((stp_of c212_23).trans rfl)
theorem c212_24 : cd 212 24 = some (24, .if_icmp .lt 5, 3, [(29, 0)]) := by decide +kernel
theorem x212_24 {d : Nat} {a0 a1 a2 a3 : Value} {s0 : Int32} {s1 : Int32} {h : AHp} : Rf d 212 24 [a0, a1, a2, a3] [.int s0, .int s1] h = if s1 < s0 then Rf d 212 29 [a0, a1, a2, a3] [] h else Rf d 212 27 [a0, a1, a2, a3] [] h := Rf_brd ((stp_of c212_24).trans rfl)
theorem c212_29 : cd 212 29 = some (29, .aload_n 0, 1, []) := by decide +kernel
theorem x212_29 {d : Nat} {a1 a2 a3 : Value} {x : Nat} {h : AHp} : Rf d 212 29 [.ref x, a1, a2, a3] [] h = Rf d 212 30 [.ref x, a1, a2, a3] [.ref x] h := Rf_go ((stp_of c212_29).trans rfl)
theorem c212_30 : cd 212 30 = some (30, .iload_n 1, 1, []) := by decide +kernel
theorem x212_30 {d : Nat} {a0 a2 a3 : Value} {s0 : Nat} {x : Int32} {h : AHp} : Rf d 212 30 [a0, .int x, a2, a3] [.ref s0] h = Rf d 212 31 [a0, .int x, a2, a3] [.int x, .ref s0] h := Rf_go ((stp_of c212_30).trans rfl)
theorem c212_31 : cd 212 31 = some (31, .iload_n 2, 1, []) := by decide +kernel
theorem x212_31 {d : Nat} {a0 a1 a3 : Value} {s0 : Int32} {s1 : Nat} {x : Int32} {h : AHp} : Rf d 212 31 [a0, a1, .int x, a3] [.int s0, .ref s1] h = Rf d 212 32 [a0, a1, .int x, a3] [.int x, .int s0, .ref s1] h := Rf_go ((stp_of c212_31).trans rfl)
theorem c212_32 : cd 212 32 = some (32, .iload_n 3, 1, []) := by decide +kernel
theorem x212_32 {d : Nat} {a0 a1 a2 : Value} {s0 : Int32} {s1 : Int32} {s2 : Nat} {x : Int32} {h : AHp} : Rf d 212 32 [a0, a1, a2, .int x] [.int s0, .int s1, .ref s2] h = Rf d 212 33 [a0, a1, a2, .int x] [.int x, .int s0, .int s1, .ref s2] h := Rf_go ((stp_of c212_32).trans rfl)
theorem c212_33 : cd 212 33 = some (33, .invokestatic 95, 3, [(0, 213)]) := by decide +kernel
theorem xc212_33 {d : Nat} {a0 a1 a2 a3 : Value} {s0 : Int32} {s1 : Int32} {s2 : Int32} {s3 : Nat} {h : AHp} {h1 : AHp} {v : Int32} (hq : Rf d 213 0 [.ref s3, .int s2, .int s1, .int s0, noV, noV] [] h = some (some (.int v), h1)) : Rf (d + 1) 212 33 [a0, a1, a2, a3] [.int s0, .int s1, .int s2, .ref s3] h = Rf (d + 1) 212 36 [a0, a1, a2, a3] [.int v] h1 := clS (as := [.ref s3, .int s2, .int s1, .int s0]) c212_33 rfl rfl (by simp [isV]) hq
theorem c212_36 : cd 212 36 = some (36, .ireturn, 1, []) := by decide +kernel
theorem x212_36 {d : Nat} {a0 a1 a2 a3 : Value} {s0 : Int32} {h : AHp} : Rf d 212 36 [a0, a1, a2, a3] [.int s0] h = some (some (.int s0), h) := Rf_end (by rw [stp_of c212_36]; simp only [stpI]; rw [if_pos (show retI (mH 212).2.2.1 s0 = true from retI_int)])
theorem c212_27 : cd 212 27 = some (27, .iconst (-1), 1, []) := by decide +kernel
theorem x212_27 {d : Nat} {a0 a1 a2 a3 : Value} {h : AHp} : Rf d 212 27 [a0, a1, a2, a3] [] h = Rf d 212 28 [a0, a1, a2, a3] [.int (-1)] h := Rf_go ((stp_of c212_27).trans rfl)
theorem c212_28 : cd 212 28 = some (28, .ireturn, 1, []) := by decide +kernel
theorem x212_28 {d : Nat} {a0 a1 a2 a3 : Value} {s0 : Int32} {h : AHp} : Rf d 212 28 [a0, a1, a2, a3] [.int s0] h = some (some (.int s0), h) := Rf_end (by rw [stp_of c212_28]; simp only [stpI]; rw [if_pos (show retI (mH 212).2.2.1 s0 = true from retI_int)])
theorem c212_7 : cd 212 7 = some (7, .iconst (-1), 1, []) := by decide +kernel
theorem x212_7 {d : Nat} {a0 a1 a2 a3 : Value} {h : AHp} : Rf d 212 7 [a0, a1, a2, a3] [] h = Rf d 212 8 [a0, a1, a2, a3] [.int (-1)] h := Rf_go ((stp_of c212_7).trans rfl)
theorem c212_8 : cd 212 8 = some (8, .ireturn, 1, []) := by decide +kernel
theorem x212_8 {d : Nat} {a0 a1 a2 a3 : Value} {s0 : Int32} {h : AHp} : Rf d 212 8 [a0, a1, a2, a3] [.int s0] h = some (some (.int s0), h) := Rf_end (by rw [stp_of c212_8]; simp only [stpI]; rw [if_pos (show retI (mH 212).2.2.1 s0 = true from retI_int)])
-- 213: J1_indexOfChar_4cfef
theorem c213_0 : cd 213 0 = some (0, .iload_n 1, 1, []) := by decide +kernel
theorem x213_0 {d : Nat} {a0 a2 a3 a4 a5 : Value} {x : Int32} {h : AHp} : Rf d 213 0 [a0, .int x, a2, a3, a4, a5] [] h = Rf d 213 1 [a0, .int x, a2, a3, a4, a5] [.int x] h := Rf_go ((stp_of c213_0).trans rfl)
theorem c213_1 : cd 213 1 = some (1, .i2b, 1, []) := by decide +kernel
theorem x213_1 {d : Nat} {a0 a1 a2 a3 a4 a5 : Value} {s0 : Int32} {h : AHp} : Rf d 213 1 [a0, a1, a2, a3, a4, a5] [.int s0] h = Rf d 213 2 [a0, a1, a2, a3, a4, a5] [.int (s0.toInt8.toInt32)] h := Rf_go ((stp_of c213_1).trans rfl)
theorem c213_2 : cd 213 2 = some (2, .istore 4, 2, []) := by decide +kernel
theorem x213_2 {d : Nat} {a0 a1 a2 a3 a4 a5 : Value} {s0 : Int32} {h : AHp} : Rf d 213 2 [a0, a1, a2, a3, a4, a5] [.int s0] h = Rf d 213 4 [a0, a1, a2, a3, .int s0, a5] [] h := Rf_go ((stp_of c213_2).trans rfl)
theorem c213_4 : cd 213 4 = some (4, .iload_n 2, 1, []) := by decide +kernel
theorem x213_4 {d : Nat} {a0 a1 a3 a4 a5 : Value} {x : Int32} {h : AHp} : Rf d 213 4 [a0, a1, .int x, a3, a4, a5] [] h = Rf d 213 5 [a0, a1, .int x, a3, a4, a5] [.int x] h := Rf_go ((stp_of c213_4).trans rfl)
theorem c213_5 : cd 213 5 = some (5, .istore 5, 2, []) := by decide +kernel
theorem x213_5 {d : Nat} {a0 a1 a2 a3 a4 a5 : Value} {s0 : Int32} {h : AHp} : Rf d 213 5 [a0, a1, a2, a3, a4, a5] [.int s0] h = Rf d 213 7 [a0, a1, a2, a3, a4, .int s0] [] h := Rf_go ((stp_of c213_5).trans rfl)
theorem c213_7 : cd 213 7 = some (7, .iload 5, 2, []) := by decide +kernel
theorem x213_7 {d : Nat} {a0 a1 a2 a3 a4 : Value} {x : Int32} {h : AHp} : Rf d 213 7 [a0, a1, a2, a3, a4, .int x] [] h = Rf d 213 9 [a0, a1, a2, a3, a4, .int x] [.int x] h := Rf_go ((stp_of c213_7).trans rfl)
theorem c213_9 : cd 213 9 = some (9, .iload_n 3, 1, []) := by decide +kernel
theorem x213_9 {d : Nat} {a0 a1 a2 a4 a5 : Value} {s0 : Int32} {x : Int32} {h : AHp} : Rf d 213 9 [a0, a1, a2, .int x, a4, a5] [.int s0] h = Rf d 213 10 [a0, a1, a2, .int x, a4, a5] [.int x, .int s0] h := Rf_go ((stp_of c213_9).trans rfl)
theorem c213_10 : cd 213 10 = some (10, .if_icmp .ge 21, 3, [(31, 0)]) := by decide +kernel
theorem x213_10 {d : Nat} {a0 a1 a2 a3 a4 a5 : Value} {s0 : Int32} {s1 : Int32} {h : AHp} : Rf d 213 10 [a0, a1, a2, a3, a4, a5] [.int s0, .int s1] h = if s1 < s0 then Rf d 213 13 [a0, a1, a2, a3, a4, a5] [] h else Rf d 213 31 [a0, a1, a2, a3, a4, a5] [] h := Rf_brn ((stp_of c213_10).trans rfl)
theorem c213_31 : cd 213 31 = some (31, .iconst (-1), 1, []) := by decide +kernel
theorem x213_31 {d : Nat} {a0 a1 a2 a3 a4 a5 : Value} {h : AHp} : Rf d 213 31 [a0, a1, a2, a3, a4, a5] [] h = Rf d 213 32 [a0, a1, a2, a3, a4, a5] [.int (-1)] h := Rf_go ((stp_of c213_31).trans rfl)
theorem c213_32 : cd 213 32 = some (32, .ireturn, 1, []) := by decide +kernel
theorem x213_32 {d : Nat} {a0 a1 a2 a3 a4 a5 : Value} {s0 : Int32} {h : AHp} : Rf d 213 32 [a0, a1, a2, a3, a4, a5] [.int s0] h = some (some (.int s0), h) := Rf_end (by rw [stp_of c213_32]; simp only [stpI]; rw [if_pos (show retI (mH 213).2.2.1 s0 = true from retI_int)])
theorem c213_13 : cd 213 13 = some (13, .aload_n 0, 1, []) := by decide +kernel
theorem x213_13 {d : Nat} {a1 a2 a3 a4 a5 : Value} {x : Nat} {h : AHp} : Rf d 213 13 [.ref x, a1, a2, a3, a4, a5] [] h = Rf d 213 14 [.ref x, a1, a2, a3, a4, a5] [.ref x] h := Rf_go ((stp_of c213_13).trans rfl)
theorem c213_14 : cd 213 14 = some (14, .iload 5, 2, []) := by decide +kernel
theorem x213_14 {d : Nat} {a0 a1 a2 a3 a4 : Value} {s0 : Nat} {x : Int32} {h : AHp} : Rf d 213 14 [a0, a1, a2, a3, a4, .int x] [.ref s0] h = Rf d 213 16 [a0, a1, a2, a3, a4, .int x] [.int x, .ref s0] h := Rf_go ((stp_of c213_14).trans rfl)
theorem c213_16 : cd 213 16 = some (16, .baload, 1, []) := by decide +kernel
theorem x213_16 {d : Nat} {a0 a1 a2 a3 a4 a5 : Value} {s0 : Int32} {s1 : Nat} {h : AHp} : Rf d 213 16 [a0, a1, a2, a3, a4, a5] [.int s0, .ref s1] h = if (aT (h.1 s1) = 1 ∨ aT (h.1 s1) = 2 ∨ aT (h.1 s1) = 11) ∧ inB s0 (aN (h.1 s1)) = true then Rf d 213 17 [a0, a1, a2, a3, a4, a5] [.int (aF (h.1 s1) s0.toNatClampNeg)] h else Rx d 213 16 [a0, a1, a2, a3, a4, a5] [.int s0, .ref s1] h := ldB c213_16
theorem c213_17 : cd 213 17 = some (17, .iload 4, 2, []) := by decide +kernel
theorem x213_17 {d : Nat} {a0 a1 a2 a3 a5 : Value} {s0 : Int32} {x : Int32} {h : AHp} : Rf d 213 17 [a0, a1, a2, a3, .int x, a5] [.int s0] h = Rf d 213 19 [a0, a1, a2, a3, .int x, a5] [.int x, .int s0] h := Rf_go ((stp_of c213_17).trans rfl)
theorem c213_19 : cd 213 19 = some (19, .if_icmp .ne 6, 3, [(25, 0)]) := by decide +kernel
theorem x213_19 {d : Nat} {a0 a1 a2 a3 a4 a5 : Value} {s0 : Int32} {s1 : Int32} {h : AHp} : Rf d 213 19 [a0, a1, a2, a3, a4, a5] [.int s0, .int s1] h = if s1 = s0 then Rf d 213 22 [a0, a1, a2, a3, a4, a5] [] h else Rf d 213 25 [a0, a1, a2, a3, a4, a5] [] h := Rf_brn ((stp_of c213_19).trans rfl)
theorem c213_25 : cd 213 25 = some (25, .iinc 5 1, 3, []) := by decide +kernel
theorem x213_25 {d : Nat} {a0 a1 a2 a3 a4 : Value} {x : Int32} {h : AHp} : Rf d 213 25 [a0, a1, a2, a3, a4, .int x] [] h = Rf d 213 28 [a0, a1, a2, a3, a4, .int (x + 1)] [] h := Rf_go ((stp_of c213_25).trans rfl)
theorem c213_28 : cd 213 28 = some (28, .goto (-21), 3, [(7, 0)]) := by decide +kernel
theorem x213_28 {d : Nat} {a0 a1 a2 a3 a4 a5 : Value} {h : AHp} : Rf d 213 28 [a0, a1, a2, a3, a4, a5] [] h = Rf d 213 7 [a0, a1, a2, a3, a4, a5] [] h := Rf_go ((stp_of c213_28).trans rfl)
theorem c213_22 : cd 213 22 = some (22, .iload 5, 2, []) := by decide +kernel
theorem x213_22 {d : Nat} {a0 a1 a2 a3 a4 : Value} {x : Int32} {h : AHp} : Rf d 213 22 [a0, a1, a2, a3, a4, .int x] [] h = Rf d 213 24 [a0, a1, a2, a3, a4, .int x] [.int x] h := Rf_go ((stp_of c213_22).trans rfl)
theorem c213_24 : cd 213 24 = some (24, .ireturn, 1, []) := by decide +kernel
theorem x213_24 {d : Nat} {a0 a1 a2 a3 a4 a5 : Value} {s0 : Int32} {h : AHp} : Rf d 213 24 [a0, a1, a2, a3, a4, a5] [.int s0] h = some (some (.int s0), h) := Rf_end (by rw [stp_of c213_24]; simp only [stpI]; rw [if_pos (show retI (mH 213).2.2.1 s0 = true from retI_int)])
-- 214: J7_fill_53178
theorem c214_0 : cd 214 0 = some (0, .iconst 0, 1, []) := by decide +kernel
theorem x214_0 {d : Nat} {a0 a1 a2 a3 : Value} {h : AHp} : Rf d 214 0 [a0, a1, a2, a3] [] h = Rf d 214 1 [a0, a1, a2, a3] [.int 0] h := Rf_go ((stp_of c214_0).trans rfl)
theorem c214_1 : cd 214 1 = some (1, .istore_n 2, 1, []) := by decide +kernel
theorem x214_1 {d : Nat} {a0 a1 a2 a3 : Value} {s0 : Int32} {h : AHp} : Rf d 214 1 [a0, a1, a2, a3] [.int s0] h = Rf d 214 2 [a0, a1, .int s0, a3] [] h := Rf_go ((stp_of c214_1).trans rfl)
theorem c214_2 : cd 214 2 = some (2, .aload_n 0, 1, []) := by decide +kernel
theorem x214_2 {d : Nat} {a1 a2 a3 : Value} {x : Nat} {h : AHp} : Rf d 214 2 [.ref x, a1, a2, a3] [] h = Rf d 214 3 [.ref x, a1, a2, a3] [.ref x] h := Rf_go ((stp_of c214_2).trans rfl)
theorem c214_3 : cd 214 3 = some (3, .arraylength, 1, []) := by decide +kernel
theorem x214_3 {d : Nat} {a0 a1 a2 a3 : Value} {s0 : Nat} {h : AHp} : Rf d 214 3 [a0, a1, a2, a3] [.ref s0] h = if aT (h.1 s0) = 0 ∨ aT (h.1 s0) = 1 ∨ aT (h.1 s0) = 10 ∨ aT (h.1 s0) = 11 then Rf d 214 4 [a0, a1, a2, a3] [.int (nI (aN (h.1 s0)))] h else Rx d 214 3 [a0, a1, a2, a3] [.ref s0] h := alI c214_3
theorem c214_4 : cd 214 4 = some (4, .istore_n 3, 1, []) := by decide +kernel
theorem x214_4 {d : Nat} {a0 a1 a2 a3 : Value} {s0 : Int32} {h : AHp} : Rf d 214 4 [a0, a1, a2, a3] [.int s0] h = Rf d 214 5 [a0, a1, a2, .int s0] [] h := Rf_go ((stp_of c214_4).trans rfl)
theorem c214_5 : cd 214 5 = some (5, .iload_n 2, 1, []) := by decide +kernel
theorem x214_5 {d : Nat} {a0 a1 a3 : Value} {x : Int32} {h : AHp} : Rf d 214 5 [a0, a1, .int x, a3] [] h = Rf d 214 6 [a0, a1, .int x, a3] [.int x] h := Rf_go ((stp_of c214_5).trans rfl)
theorem c214_6 : cd 214 6 = some (6, .iload_n 3, 1, []) := by decide +kernel
theorem x214_6 {d : Nat} {a0 a1 a2 : Value} {s0 : Int32} {x : Int32} {h : AHp} : Rf d 214 6 [a0, a1, a2, .int x] [.int s0] h = Rf d 214 7 [a0, a1, a2, .int x] [.int x, .int s0] h := Rf_go ((stp_of c214_6).trans rfl)
theorem c214_7 : cd 214 7 = some (7, .if_icmp .ge 13, 3, [(20, 0)]) := by decide +kernel
theorem x214_7 {d : Nat} {a0 a1 a2 a3 : Value} {s0 : Int32} {s1 : Int32} {h : AHp} : Rf d 214 7 [a0, a1, a2, a3] [.int s0, .int s1] h = if s1 < s0 then Rf d 214 10 [a0, a1, a2, a3] [] h else Rf d 214 20 [a0, a1, a2, a3] [] h := Rf_brn ((stp_of c214_7).trans rfl)
theorem c214_20 : cd 214 20 = some (20, .return_, 1, []) := by decide +kernel
theorem x214_20 {d : Nat} {a0 a1 a2 a3 : Value} {h : AHp} : Rf d 214 20 [a0, a1, a2, a3] [] h = some (none, h) := Rf_end (endV c214_20 (by decide +kernel))
theorem c214_10 : cd 214 10 = some (10, .aload_n 0, 1, []) := by decide +kernel
theorem x214_10 {d : Nat} {a1 a2 a3 : Value} {x : Nat} {h : AHp} : Rf d 214 10 [.ref x, a1, a2, a3] [] h = Rf d 214 11 [.ref x, a1, a2, a3] [.ref x] h := Rf_go ((stp_of c214_10).trans rfl)
theorem c214_11 : cd 214 11 = some (11, .iload_n 2, 1, []) := by decide +kernel
theorem x214_11 {d : Nat} {a0 a1 a3 : Value} {s0 : Nat} {x : Int32} {h : AHp} : Rf d 214 11 [a0, a1, .int x, a3] [.ref s0] h = Rf d 214 12 [a0, a1, .int x, a3] [.int x, .ref s0] h := Rf_go ((stp_of c214_11).trans rfl)
theorem c214_12 : cd 214 12 = some (12, .iload_n 1, 1, []) := by decide +kernel
theorem x214_12 {d : Nat} {a0 a2 a3 : Value} {s0 : Int32} {s1 : Nat} {x : Int32} {h : AHp} : Rf d 214 12 [a0, .int x, a2, a3] [.int s0, .ref s1] h = Rf d 214 13 [a0, .int x, a2, a3] [.int x, .int s0, .ref s1] h := Rf_go ((stp_of c214_12).trans rfl)
theorem c214_13 : cd 214 13 = some (13, .iastore, 1, []) := by decide +kernel
theorem x214_13 {d : Nat} {a0 a1 a2 a3 : Value} {s0 : Int32} {s1 : Int32} {s2 : Nat} {h : AHp} : Rf d 214 13 [a0, a1, a2, a3] [.int s0, .int s1, .ref s2] h = if aT (h.1 s2) = 0 ∧ inB s1 (aN (h.1 s2)) = true then Rf d 214 14 [a0, a1, a2, a3] [] (hset h s2 (.inl (0, aN (h.1 s2), .inl (upd (aF (h.1 s2)) s1.toNatClampNeg s0)))) else Rx d 214 13 [a0, a1, a2, a3] [.int s0, .int s1, .ref s2] h := stI c214_13
theorem c214_14 : cd 214 14 = some (14, .iinc 2 1, 3, []) := by decide +kernel
theorem x214_14 {d : Nat} {a0 a1 a3 : Value} {x : Int32} {h : AHp} : Rf d 214 14 [a0, a1, .int x, a3] [] h = Rf d 214 17 [a0, a1, .int (x + 1), a3] [] h := Rf_go ((stp_of c214_14).trans rfl)
theorem c214_17 : cd 214 17 = some (17, .goto (-12), 3, [(5, 0)]) := by decide +kernel
theorem x214_17 {d : Nat} {a0 a1 a2 a3 : Value} {h : AHp} : Rf d 214 17 [a0, a1, a2, a3] [] h = Rf d 214 5 [a0, a1, a2, a3] [] h := Rf_go ((stp_of c214_17).trans rfl)
-- 215: J7_copyOf_9075b
theorem c215_0 : cd 215 0 = some (0, .iload_n 1, 1, []) := by decide +kernel
theorem x215_0 {d : Nat} {a0 a2 : Value} {x : Int32} {h : AHp} : Rf d 215 0 [a0, .int x, a2] [] h = Rf d 215 1 [a0, .int x, a2] [.int x] h := Rf_go ((stp_of c215_0).trans rfl)
theorem c215_1 : cd 215 1 = some (1, .aload_n 0, 1, []) := by decide +kernel
theorem x215_1 {d : Nat} {a1 a2 : Value} {s0 : Int32} {x : Nat} {h : AHp} : Rf d 215 1 [.ref x, a1, a2] [.int s0] h = Rf d 215 2 [.ref x, a1, a2] [.ref x, .int s0] h := Rf_go ((stp_of c215_1).trans rfl)
theorem c215_2 : cd 215 2 = some (2, .arraylength, 1, []) := by decide +kernel
theorem x215_2 {d : Nat} {a0 a1 a2 : Value} {s0 : Nat} {s1 : Int32} {h : AHp} : Rf d 215 2 [a0, a1, a2] [.ref s0, .int s1] h = if aT (h.1 s0) = 0 ∨ aT (h.1 s0) = 1 ∨ aT (h.1 s0) = 10 ∨ aT (h.1 s0) = 11 then Rf d 215 3 [a0, a1, a2] [.int (nI (aN (h.1 s0))), .int s1] h else Rx d 215 2 [a0, a1, a2] [.ref s0, .int s1] h := alI c215_2
theorem c215_3 : cd 215 3 = some (3, .if_icmp .ne 11, 3, [(14, 0)]) := by decide +kernel
theorem x215_3 {d : Nat} {a0 a1 a2 : Value} {s0 : Int32} {s1 : Int32} {h : AHp} : Rf d 215 3 [a0, a1, a2] [.int s0, .int s1] h = if s1 = s0 then Rf d 215 6 [a0, a1, a2] [] h else Rf d 215 14 [a0, a1, a2] [] h := Rf_brn ((stp_of c215_3).trans rfl)
theorem c215_14 : cd 215 14 = some (14, .iload_n 1, 1, []) := by decide +kernel
theorem x215_14 {d : Nat} {a0 a2 : Value} {x : Int32} {h : AHp} : Rf d 215 14 [a0, .int x, a2] [] h = Rf d 215 15 [a0, .int x, a2] [.int x] h := Rf_go ((stp_of c215_14).trans rfl)
theorem c215_15 : cd 215 15 = some (15, .newarray .byte, 2, [(1, 0)]) := by decide +kernel
theorem x215_15 {d : Nat} {a0 a1 a2 : Value} {s0 : Int32} {h : AHp} : Rf d 215 15 [a0, a1, a2] [.int s0] h = if okN s0 = true then Rf d 215 17 [a0, a1, a2] [.ref h.2.1] (hnew h (.inl (1, s0.toNatClampNeg, .inl (fun _ => 0))) s0.toNatClampNeg) else Rx d 215 15 [a0, a1, a2] [.int s0] h := nwA c215_15
theorem c215_17 : cd 215 17 = some (17, .astore_n 2, 1, []) := by decide +kernel
theorem x215_17 {d : Nat} {a0 a1 a2 : Value} {s0 : Nat} {h : AHp} : Rf d 215 17 [a0, a1, a2] [.ref s0] h = Rf d 215 18 [a0, a1, .ref s0] [] h := Rf_go ((stp_of c215_17).trans rfl)
theorem c215_18 : cd 215 18 = some (18, .aload_n 0, 1, []) := by decide +kernel
theorem x215_18 {d : Nat} {a1 a2 : Value} {x : Nat} {h : AHp} : Rf d 215 18 [.ref x, a1, a2] [] h = Rf d 215 19 [.ref x, a1, a2] [.ref x] h := Rf_go ((stp_of c215_18).trans rfl)
theorem c215_19 : cd 215 19 = some (19, .iconst 0, 1, []) := by decide +kernel
theorem x215_19 {d : Nat} {a0 a1 a2 : Value} {s0 : Nat} {h : AHp} : Rf d 215 19 [a0, a1, a2] [.ref s0] h = Rf d 215 20 [a0, a1, a2] [.int 0, .ref s0] h := Rf_go ((stp_of c215_19).trans rfl)
theorem c215_20 : cd 215 20 = some (20, .aload_n 2, 1, []) := by decide +kernel
theorem x215_20 {d : Nat} {a0 a1 : Value} {s0 : Int32} {s1 : Nat} {x : Nat} {h : AHp} : Rf d 215 20 [a0, a1, .ref x] [.int s0, .ref s1] h = Rf d 215 21 [a0, a1, .ref x] [.ref x, .int s0, .ref s1] h := Rf_go ((stp_of c215_20).trans rfl)
theorem c215_21 : cd 215 21 = some (21, .iconst 0, 1, []) := by decide +kernel
theorem x215_21 {d : Nat} {a0 a1 a2 : Value} {s0 : Nat} {s1 : Int32} {s2 : Nat} {h : AHp} : Rf d 215 21 [a0, a1, a2] [.ref s0, .int s1, .ref s2] h = Rf d 215 22 [a0, a1, a2] [.int 0, .ref s0, .int s1, .ref s2] h := Rf_go ((stp_of c215_21).trans rfl)
theorem c215_22 : cd 215 22 = some (22, .aload_n 0, 1, []) := by decide +kernel
theorem x215_22 {d : Nat} {a1 a2 : Value} {s0 : Int32} {s1 : Nat} {s2 : Int32} {s3 : Nat} {x : Nat} {h : AHp} : Rf d 215 22 [.ref x, a1, a2] [.int s0, .ref s1, .int s2, .ref s3] h = Rf d 215 23 [.ref x, a1, a2] [.ref x, .int s0, .ref s1, .int s2, .ref s3] h := Rf_go ((stp_of c215_22).trans rfl)
theorem c215_23 : cd 215 23 = some (23, .arraylength, 1, []) := by decide +kernel
theorem x215_23 {d : Nat} {a0 a1 a2 : Value} {s0 : Nat} {s1 : Int32} {s2 : Nat} {s3 : Int32} {s4 : Nat} {h : AHp} : Rf d 215 23 [a0, a1, a2] [.ref s0, .int s1, .ref s2, .int s3, .ref s4] h = if aT (h.1 s0) = 0 ∨ aT (h.1 s0) = 1 ∨ aT (h.1 s0) = 10 ∨ aT (h.1 s0) = 11 then Rf d 215 24 [a0, a1, a2] [.int (nI (aN (h.1 s0))), .int s1, .ref s2, .int s3, .ref s4] h else Rx d 215 23 [a0, a1, a2] [.ref s0, .int s1, .ref s2, .int s3, .ref s4] h := alI c215_23
theorem c215_24 : cd 215 24 = some (24, .iload_n 1, 1, []) := by decide +kernel
theorem x215_24 {d : Nat} {a0 a2 : Value} {s0 : Int32} {s1 : Int32} {s2 : Nat} {s3 : Int32} {s4 : Nat} {x : Int32} {h : AHp} : Rf d 215 24 [a0, .int x, a2] [.int s0, .int s1, .ref s2, .int s3, .ref s4] h = Rf d 215 25 [a0, .int x, a2] [.int x, .int s0, .int s1, .ref s2, .int s3, .ref s4] h := Rf_go ((stp_of c215_24).trans rfl)
theorem c215_25 : cd 215 25 = some (25, .invokestatic 304, 3, [(0, 202)]) := by decide +kernel
theorem xc215_25 {d : Nat} {a0 a1 a2 : Value} {s0 : Int32} {s1 : Int32} {s2 : Int32} {s3 : Nat} {s4 : Int32} {s5 : Nat} {h : AHp} {h1 : AHp} {v : Int32} (hq : Rf d 202 0 [.int s1, .int s0] [] h = some (some (.int v), h1)) : Rf (d + 1) 215 25 [a0, a1, a2] [.int s0, .int s1, .int s2, .ref s3, .int s4, .ref s5] h = Rf (d + 1) 215 28 [a0, a1, a2] [.int v, .int s2, .ref s3, .int s4, .ref s5] h1 := clS (as := [.int s1, .int s0]) c215_25 rfl rfl (by simp [isV]) hq
theorem c215_28 : cd 215 28 = some (28, .invokestatic 150, 3, [(1000, 0)]) := by decide +kernel
theorem x215_28 {d : Nat} {a0 a1 a2 : Value} {s0 : Int32} {s1 : Int32} {s2 : Nat} {s3 : Int32} {s4 : Nat} {h : AHp} : Rf d 215 28 [a0, a1, a2] [.int s0, .int s1, .ref s2, .int s3, .ref s4] h = if (copyC (h.1 s4) (h.1 s2) s3 s1 s0).isSome = true then Rf d 215 31 [a0, a1, a2] [] (hset h s2 ((copyC (h.1 s4) (h.1 s2) s3 s1 s0).getD noC)) else Rx d 215 28 [a0, a1, a2] [.int s0, .int s1, .ref s2, .int s3, .ref s4] h := cpA c215_28 (by simp)
theorem c215_31 : cd 215 31 = some (31, .aload_n 2, 1, []) := by decide +kernel
theorem x215_31 {d : Nat} {a0 a1 : Value} {x : Nat} {h : AHp} : Rf d 215 31 [a0, a1, .ref x] [] h = Rf d 215 32 [a0, a1, .ref x] [.ref x] h := Rf_go ((stp_of c215_31).trans rfl)
theorem c215_32 : cd 215 32 = some (32, .areturn, 1, []) := by decide +kernel
theorem x215_32 {d : Nat} {a0 a1 a2 : Value} {s0 : Nat} {h : AHp} : Rf d 215 32 [a0, a1, a2] [.ref s0] h = some (some (.ref s0), h) := Rf_end (endA c215_32 (by decide +kernel))
theorem c215_6 : cd 215 6 = some (6, .aload_n 0, 1, []) := by decide +kernel
theorem x215_6 {d : Nat} {a1 a2 : Value} {x : Nat} {h : AHp} : Rf d 215 6 [.ref x, a1, a2] [] h = Rf d 215 7 [.ref x, a1, a2] [.ref x] h := Rf_go ((stp_of c215_6).trans rfl)
-- 216: J3_checkIndex_8e157
theorem c216_0 : cd 216 0 = some (0, .iload_n 0, 1, []) := by decide +kernel
theorem x216_0 {d : Nat} {a1 a2 : Value} {x : Int32} {h : AHp} : Rf d 216 0 [.int x, a1, a2] [] h = Rf d 216 1 [.int x, a1, a2] [.int x] h := Rf_go ((stp_of c216_0).trans rfl)
theorem c216_1 : cd 216 1 = some (1, .ifCond .lt 8, 3, [(9, 0)]) := by decide +kernel
theorem x216_1 {d : Nat} {a0 a1 a2 : Value} {s0 : Int32} {h : AHp} : Rf d 216 1 [a0, a1, a2] [.int s0] h = if s0 < 0 then Rf d 216 9 [a0, a1, a2] [] h else Rf d 216 4 [a0, a1, a2] [] h := Rf_brd ((stp_of c216_1).trans rfl)
theorem c216_9 : cd 216 9 = some (9, .aload_n 2, 1, []) := by decide +kernel
theorem x216_9 {d : Nat} {a0 a1 : Value} {x : Nat} {h : AHp} : Rf d 216 9 [a0, a1, .ref x] [] h = Rf d 216 10 [a0, a1, .ref x] [.ref x] h := Rf_go ((stp_of c216_9).trans rfl)
theorem c216_10 : cd 216 10 = some (10, .iload_n 0, 1, []) := by decide +kernel
theorem x216_10 {d : Nat} {a1 a2 : Value} {s0 : Nat} {x : Int32} {h : AHp} : Rf d 216 10 [.int x, a1, a2] [.ref s0] h = Rf d 216 11 [.int x, a1, a2] [.int x, .ref s0] h := Rf_go ((stp_of c216_10).trans rfl)
theorem c216_11 : cd 216 11 = some (11, .iload_n 1, 1, []) := by decide +kernel
theorem x216_11 {d : Nat} {a0 a2 : Value} {s0 : Int32} {s1 : Nat} {x : Int32} {h : AHp} : Rf d 216 11 [a0, .int x, a2] [.int s0, .ref s1] h = Rf d 216 12 [a0, .int x, a2] [.int x, .int s0, .ref s1] h := Rf_go ((stp_of c216_11).trans rfl)
theorem c216_4 : cd 216 4 = some (4, .iload_n 0, 1, []) := by decide +kernel
theorem x216_4 {d : Nat} {a1 a2 : Value} {x : Int32} {h : AHp} : Rf d 216 4 [.int x, a1, a2] [] h = Rf d 216 5 [.int x, a1, a2] [.int x] h := Rf_go ((stp_of c216_4).trans rfl)
theorem c216_5 : cd 216 5 = some (5, .iload_n 1, 1, []) := by decide +kernel
theorem x216_5 {d : Nat} {a0 a2 : Value} {s0 : Int32} {x : Int32} {h : AHp} : Rf d 216 5 [a0, .int x, a2] [.int s0] h = Rf d 216 6 [a0, .int x, a2] [.int x, .int s0] h := Rf_go ((stp_of c216_5).trans rfl)
theorem c216_6 : cd 216 6 = some (6, .if_icmp .lt 10, 3, [(16, 0)]) := by decide +kernel
theorem x216_6 {d : Nat} {a0 a1 a2 : Value} {s0 : Int32} {s1 : Int32} {h : AHp} : Rf d 216 6 [a0, a1, a2] [.int s0, .int s1] h = if s1 < s0 then Rf d 216 16 [a0, a1, a2] [] h else Rf d 216 9 [a0, a1, a2] [] h := Rf_brd ((stp_of c216_6).trans rfl)
theorem c216_16 : cd 216 16 = some (16, .iload_n 0, 1, []) := by decide +kernel
theorem x216_16 {d : Nat} {a1 a2 : Value} {x : Int32} {h : AHp} : Rf d 216 16 [.int x, a1, a2] [] h = Rf d 216 17 [.int x, a1, a2] [.int x] h := Rf_go ((stp_of c216_16).trans rfl)
theorem c216_17 : cd 216 17 = some (17, .ireturn, 1, []) := by decide +kernel
theorem x216_17 {d : Nat} {a0 a1 a2 : Value} {s0 : Int32} {h : AHp} : Rf d 216 17 [a0, a1, a2] [.int s0] h = some (some (.int s0), h) := Rf_end (by rw [stp_of c216_17]; simp only [stpI]; rw [if_pos (show retI (mH 216).2.2.1 s0 = true from retI_int)])
