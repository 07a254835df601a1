-- 130: X12_init
theorem c130_0 : cd 130 0 = some (0, .aload_n 0, 1, []) := by decide +kernel
theorem x130_0 {d : Nat} {x : Nat} {h : AHp} : Rf d 130 0 [.ref x] [] h = Rf d 130 1 [.ref x] [.ref x] h := Rf_go ((stp_of c130_0).trans rfl)
theorem c130_1 : cd 130 1 = some (1, .invokespecial 1, 3, [(1001, 0)]) := by decide +kernel
theorem x130_1 {d : Nat} {a0 : Value} {s0 : Nat} {h : AHp} : Rf d 130 1 [a0] [.ref s0] h = Rf d 130 4 [a0] [] h := Rf_go ((stp_of c130_1).trans rfl)
theorem c130_4 : cd 130 4 = some (4, .aload_n 0, 1, []) := by decide +kernel
theorem x130_4 {d : Nat} {x : Nat} {h : AHp} : Rf d 130 4 [.ref x] [] h = Rf d 130 5 [.ref x] [.ref x] h := Rf_go ((stp_of c130_4).trans rfl)
theorem c130_5 : cd 130 5 = some (5, .sipush 931, 3, []) := by decide +kernel
theorem x130_5 {d : Nat} {a0 : Value} {s0 : Nat} {h : AHp} : Rf d 130 5 [a0] [.ref s0] h = Rf d 130 8 [a0] [.int 931, .ref s0] h := Rf_go ((stp_of c130_5).trans rfl)
theorem c130_8 : cd 130 8 = some (8, .newarray .int, 2, [(0, 0)]) := by decide +kernel
theorem x130_8 {d : Nat} {a0 : Value} {s0 : Int32} {s1 : Nat} {h : AHp} : Rf d 130 8 [a0] [.int s0, .ref s1] h = if okN s0 = true then Rf d 130 10 [a0] [.ref h.2.1, .ref s1] (hnew h (.inl (0, s0.toNatClampNeg, .inl (fun _ => 0))) s0.toNatClampNeg) else Rx d 130 8 [a0] [.int s0, .ref s1] h := nwA c130_8
theorem c130_10 : cd 130 10 = some (10, .putfield 9, 3, [(12, 0)]) := by decide +kernel
theorem x130_10 {d : Nat} {a0 : Value} {s0 : Nat} {s1 : Nat} {h : AHp} : Rf d 130 10 [a0] [.ref s0, .ref s1] h = if cls (h.1 s1) = 12 ∧ oL (h.1 s1) = 12 then Rf d 130 13 [a0] [] (hset h s1 (oSet (h.1 s1) 0 (.ref s0))) else Rx d 130 10 [a0] [.ref s0, .ref s1] h := putV c130_10 rfl (fMay_a (t := .int) (by decide +kernel))
theorem c130_13 : cd 130 13 = some (13, .aload_n 0, 1, []) := by decide +kernel
theorem x130_13 {d : Nat} {x : Nat} {h : AHp} : Rf d 130 13 [.ref x] [] h = Rf d 130 14 [.ref x] [.ref x] h := Rf_go ((stp_of c130_13).trans rfl)
theorem c130_14 : cd 130 14 = some (14, .sipush 931, 3, []) := by decide +kernel
theorem x130_14 {d : Nat} {a0 : Value} {s0 : Nat} {h : AHp} : Rf d 130 14 [a0] [.ref s0] h = Rf d 130 17 [a0] [.int 931, .ref s0] h := Rf_go ((stp_of c130_14).trans rfl)
theorem c130_17 : cd 130 17 = some (17, .newarray .int, 2, [(0, 0)]) := by decide +kernel
theorem x130_17 {d : Nat} {a0 : Value} {s0 : Int32} {s1 : Nat} {h : AHp} : Rf d 130 17 [a0] [.int s0, .ref s1] h = if okN s0 = true then Rf d 130 19 [a0] [.ref h.2.1, .ref s1] (hnew h (.inl (0, s0.toNatClampNeg, .inl (fun _ => 0))) s0.toNatClampNeg) else Rx d 130 17 [a0] [.int s0, .ref s1] h := nwA c130_17
theorem c130_19 : cd 130 19 = some (19, .putfield 13, 3, [(12, 1)]) := by decide +kernel
theorem x130_19 {d : Nat} {a0 : Value} {s0 : Nat} {s1 : Nat} {h : AHp} : Rf d 130 19 [a0] [.ref s0, .ref s1] h = if cls (h.1 s1) = 12 ∧ oL (h.1 s1) = 12 then Rf d 130 22 [a0] [] (hset h s1 (oSet (h.1 s1) 1 (.ref s0))) else Rx d 130 19 [a0] [.ref s0, .ref s1] h := putV c130_19 rfl (fMay_a (t := .int) (by decide +kernel))
theorem c130_22 : cd 130 22 = some (22, .aload_n 0, 1, []) := by decide +kernel
theorem x130_22 {d : Nat} {x : Nat} {h : AHp} : Rf d 130 22 [.ref x] [] h = Rf d 130 23 [.ref x] [.ref x] h := Rf_go ((stp_of c130_22).trans rfl)
theorem c130_23 : cd 130 23 = some (23, .bipush 101, 2, []) := by decide +kernel
theorem x130_23 {d : Nat} {a0 : Value} {s0 : Nat} {h : AHp} : Rf d 130 23 [a0] [.ref s0] h = Rf d 130 25 [a0] [.int 101, .ref s0] h := Rf_go ((stp_of c130_23).trans rfl)
theorem c130_25 : cd 130 25 = some (25, .newarray .int, 2, [(0, 0)]) := by decide +kernel
theorem x130_25 {d : Nat} {a0 : Value} {s0 : Int32} {s1 : Nat} {h : AHp} : Rf d 130 25 [a0] [.int s0, .ref s1] h = if okN s0 = true then Rf d 130 27 [a0] [.ref h.2.1, .ref s1] (hnew h (.inl (0, s0.toNatClampNeg, .inl (fun _ => 0))) s0.toNatClampNeg) else Rx d 130 25 [a0] [.int s0, .ref s1] h := nwA c130_25
theorem c130_27 : cd 130 27 = some (27, .putfield 16, 3, [(12, 6)]) := by decide +kernel
theorem x130_27 {d : Nat} {a0 : Value} {s0 : Nat} {s1 : Nat} {h : AHp} : Rf d 130 27 [a0] [.ref s0, .ref s1] h = if cls (h.1 s1) = 12 ∧ oL (h.1 s1) = 12 then Rf d 130 30 [a0] [] (hset h s1 (oSet (h.1 s1) 6 (.ref s0))) else Rx d 130 27 [a0] [.ref s0, .ref s1] h := putV c130_27 rfl (fMay_a (t := .int) (by decide +kernel))
theorem c130_30 : cd 130 30 = some (30, .aload_n 0, 1, []) := by decide +kernel
theorem x130_30 {d : Nat} {x : Nat} {h : AHp} : Rf d 130 30 [.ref x] [] h = Rf d 130 31 [.ref x] [.ref x] h := Rf_go ((stp_of c130_30).trans rfl)
theorem c130_31 : cd 130 31 = some (31, .bipush 10, 2, []) := by decide +kernel
theorem x130_31 {d : Nat} {a0 : Value} {s0 : Nat} {h : AHp} : Rf d 130 31 [a0] [.ref s0] h = Rf d 130 33 [a0] [.int 10, .ref s0] h := Rf_go ((stp_of c130_31).trans rfl)
theorem c130_33 : cd 130 33 = some (33, .newarray .int, 2, [(0, 0)]) := by decide +kernel
theorem x130_33 {d : Nat} {a0 : Value} {s0 : Int32} {s1 : Nat} {h : AHp} : Rf d 130 33 [a0] [.int s0, .ref s1] h = if okN s0 = true then Rf d 130 35 [a0] [.ref h.2.1, .ref s1] (hnew h (.inl (0, s0.toNatClampNeg, .inl (fun _ => 0))) s0.toNatClampNeg) else Rx d 130 33 [a0] [.int s0, .ref s1] h := nwA c130_33
theorem c130_35 : cd 130 35 = some (35, .putfield 19, 3, [(12, 7)]) := by decide +kernel
theorem x130_35 {d : Nat} {a0 : Value} {s0 : Nat} {s1 : Nat} {h : AHp} : Rf d 130 35 [a0] [.ref s0, .ref s1] h = if cls (h.1 s1) = 12 ∧ oL (h.1 s1) = 12 then Rf d 130 38 [a0] [] (hset h s1 (oSet (h.1 s1) 7 (.ref s0))) else Rx d 130 35 [a0] [.ref s0, .ref s1] h := putV c130_35 rfl (fMay_a (t := .int) (by decide +kernel))
theorem c130_38 : cd 130 38 = some (38, .aload_n 0, 1, []) := by decide +kernel
theorem x130_38 {d : Nat} {x : Nat} {h : AHp} : Rf d 130 38 [.ref x] [] h = Rf d 130 39 [.ref x] [.ref x] h := Rf_go ((stp_of c130_38).trans rfl)
theorem c130_39 : cd 130 39 = some (39, .bipush 10, 2, []) := by decide +kernel
theorem x130_39 {d : Nat} {a0 : Value} {s0 : Nat} {h : AHp} : Rf d 130 39 [a0] [.ref s0] h = Rf d 130 41 [a0] [.int 10, .ref s0] h := Rf_go ((stp_of c130_39).trans rfl)
theorem c130_41 : cd 130 41 = some (41, .newarray .int, 2, [(0, 0)]) := by decide +kernel
theorem x130_41 {d : Nat} {a0 : Value} {s0 : Int32} {s1 : Nat} {h : AHp} : Rf d 130 41 [a0] [.int s0, .ref s1] h = if okN s0 = true then Rf d 130 43 [a0] [.ref h.2.1, .ref s1] (hnew h (.inl (0, s0.toNatClampNeg, .inl (fun _ => 0))) s0.toNatClampNeg) else Rx d 130 41 [a0] [.int s0, .ref s1] h := nwA c130_41
theorem c130_43 : cd 130 43 = some (43, .putfield 22, 3, [(12, 8)]) := by decide +kernel
theorem x130_43 {d : Nat} {a0 : Value} {s0 : Nat} {s1 : Nat} {h : AHp} : Rf d 130 43 [a0] [.ref s0, .ref s1] h = if cls (h.1 s1) = 12 ∧ oL (h.1 s1) = 12 then Rf d 130 46 [a0] [] (hset h s1 (oSet (h.1 s1) 8 (.ref s0))) else Rx d 130 43 [a0] [.ref s0, .ref s1] h := putV c130_43 rfl (fMay_a (t := .int) (by decide +kernel))
theorem c130_46 : cd 130 46 = some (46, .aload_n 0, 1, []) := by decide +kernel
theorem x130_46 {d : Nat} {x : Nat} {h : AHp} : Rf d 130 46 [.ref x] [] h = Rf d 130 47 [.ref x] [.ref x] h := Rf_go ((stp_of c130_46).trans rfl)
theorem c130_47 : cd 130 47 = some (47, .bipush 22, 2, []) := by decide +kernel
theorem x130_47 {d : Nat} {a0 : Value} {s0 : Nat} {h : AHp} : Rf d 130 47 [a0] [.ref s0] h = Rf d 130 49 [a0] [.int 22, .ref s0] h := Rf_go ((stp_of c130_47).trans rfl)
theorem c130_49 : cd 130 49 = some (49, .newarray .int, 2, [(0, 0)]) := by decide +kernel
theorem x130_49 {d : Nat} {a0 : Value} {s0 : Int32} {s1 : Nat} {h : AHp} : Rf d 130 49 [a0] [.int s0, .ref s1] h = if okN s0 = true then Rf d 130 51 [a0] [.ref h.2.1, .ref s1] (hnew h (.inl (0, s0.toNatClampNeg, .inl (fun _ => 0))) s0.toNatClampNeg) else Rx d 130 49 [a0] [.int s0, .ref s1] h := nwA c130_49
theorem c130_51 : cd 130 51 = some (51, .putfield 25, 3, [(12, 9)]) := by decide +kernel
theorem x130_51 {d : Nat} {a0 : Value} {s0 : Nat} {s1 : Nat} {h : AHp} : Rf d 130 51 [a0] [.ref s0, .ref s1] h = if cls (h.1 s1) = 12 ∧ oL (h.1 s1) = 12 then Rf d 130 54 [a0] [] (hset h s1 (oSet (h.1 s1) 9 (.ref s0))) else Rx d 130 51 [a0] [.ref s0, .ref s1] h := putV c130_51 rfl (fMay_a (t := .int) (by decide +kernel))
theorem c130_54 : cd 130 54 = some (54, .aload_n 0, 1, []) := by decide +kernel
theorem x130_54 {d : Nat} {x : Nat} {h : AHp} : Rf d 130 54 [.ref x] [] h = Rf d 130 55 [.ref x] [.ref x] h := Rf_go ((stp_of c130_54).trans rfl)
theorem c130_55 : cd 130 55 = some (55, .bipush 20, 2, []) := by decide +kernel
theorem x130_55 {d : Nat} {a0 : Value} {s0 : Nat} {h : AHp} : Rf d 130 55 [a0] [.ref s0] h = Rf d 130 57 [a0] [.int 20, .ref s0] h := Rf_go ((stp_of c130_55).trans rfl)
theorem c130_57 : cd 130 57 = some (57, .newarray .int, 2, [(0, 0)]) := by decide +kernel
theorem x130_57 {d : Nat} {a0 : Value} {s0 : Int32} {s1 : Nat} {h : AHp} : Rf d 130 57 [a0] [.int s0, .ref s1] h = if okN s0 = true then Rf d 130 59 [a0] [.ref h.2.1, .ref s1] (hnew h (.inl (0, s0.toNatClampNeg, .inl (fun _ => 0))) s0.toNatClampNeg) else Rx d 130 57 [a0] [.int s0, .ref s1] h := nwA c130_57
theorem c130_59 : cd 130 59 = some (59, .putfield 28, 3, [(12, 11)]) := by decide +kernel
theorem x130_59 {d : Nat} {a0 : Value} {s0 : Nat} {s1 : Nat} {h : AHp} : Rf d 130 59 [a0] [.ref s0, .ref s1] h = if cls (h.1 s1) = 12 ∧ oL (h.1 s1) = 12 then Rf d 130 62 [a0] [] (hset h s1 (oSet (h.1 s1) 11 (.ref s0))) else Rx d 130 59 [a0] [.ref s0, .ref s1] h := putV c130_59 rfl (fMay_a (t := .int) (by decide +kernel))
theorem c130_62 : cd 130 62 = some (62, .return_, 1, []) := by decide +kernel
theorem x130_62 {d : Nat} {a0 : Value} {h : AHp} : Rf d 130 62 [a0] [] h = some (none, h) := Rf_end (endV c130_62 (by decide +kernel))
-- 131: X12_within
theorem c131_0 : cd 131 0 = some (0, .iload_n 0, 1, []) := by decide +kernel
theorem x131_0 {d : Nat} {a1 a2 : Value} {x : Int32} {h : AHp} : Rf d 131 0 [.int x, a1, a2] [] h = Rf d 131 1 [.int x, a1, a2] [.int x] h := Rf_go ((stp_of c131_0).trans rfl)
theorem c131_1 : cd 131 1 = some (1, .iload_n 1, 1, []) := by decide +kernel
theorem x131_1 {d : Nat} {a0 a2 : Value} {s0 : Int32} {x : Int32} {h : AHp} : Rf d 131 1 [a0, .int x, a2] [.int s0] h = Rf d 131 2 [a0, .int x, a2] [.int x, .int s0] h := Rf_go ((stp_of c131_1).trans rfl)
theorem c131_2 : cd 131 2 = some (2, .if_icmp .lt 12, 3, [(14, 0)]) := by decide +kernel
theorem x131_2 {d : Nat} {a0 a1 a2 : Value} {s0 : Int32} {s1 : Int32} {h : AHp} : Rf d 131 2 [a0, a1, a2] [.int s0, .int s1] h = if s1 < s0 then Rf d 131 14 [a0, a1, a2] [] h else Rf d 131 5 [a0, a1, a2] [] h := Rf_brd ((stp_of c131_2).trans rfl)
theorem c131_14 : cd 131 14 = some (14, .iconst 0, 1, []) := by decide +kernel
theorem x131_14 {d : Nat} {a0 a1 a2 : Value} {h : AHp} : Rf d 131 14 [a0, a1, a2] [] h = Rf d 131 15 [a0, a1, a2] [.int 0] h := Rf_go ((stp_of c131_14).trans rfl)
theorem c131_15 : cd 131 15 = some (15, .ireturn, 1, []) := by decide +kernel
theorem x131_15 {d : Nat} {a0 a1 a2 : Value} {s0 : Int32} {h : AHp} : Rf d 131 15 [a0, a1, a2] [.int s0] h = if retI (some .boolean) s0 = true then some (some (.int s0), h) else Rx d 131 15 [a0, a1, a2] [.int s0] h := Rf_ife (fun hk => by rw [stp_of c131_15]; exact if_pos hk)
theorem c131_5 : cd 131 5 = some (5, .iload_n 0, 1, []) := by decide +kernel
theorem x131_5 {d : Nat} {a1 a2 : Value} {x : Int32} {h : AHp} : Rf d 131 5 [.int x, a1, a2] [] h = Rf d 131 6 [.int x, a1, a2] [.int x] h := Rf_go ((stp_of c131_5).trans rfl)
theorem c131_6 : cd 131 6 = some (6, .iload_n 2, 1, []) := by decide +kernel
theorem x131_6 {d : Nat} {a0 a1 : Value} {s0 : Int32} {x : Int32} {h : AHp} : Rf d 131 6 [a0, a1, .int x] [.int s0] h = Rf d 131 7 [a0, a1, .int x] [.int x, .int s0] h := Rf_go ((stp_of c131_6).trans rfl)
theorem c131_7 : cd 131 7 = some (7, .if_icmp .gt 7, 3, [(14, 0)]) := by decide +kernel
theorem x131_7 {d : Nat} {a0 a1 a2 : Value} {s0 : Int32} {s1 : Int32} {h : AHp} : Rf d 131 7 [a0, a1, a2] [.int s0, .int s1] h = if s0 < s1 then Rf d 131 14 [a0, a1, a2] [] h else Rf d 131 10 [a0, a1, a2] [] h := Rf_brd ((stp_of c131_7).trans rfl)
theorem c131_10 : cd 131 10 = some (10, .iconst 1, 1, []) := by decide +kernel
theorem x131_10 {d : Nat} {a0 a1 a2 : Value} {h : AHp} : Rf d 131 10 [a0, a1, a2] [] h = Rf d 131 11 [a0, a1, a2] [.int 1] h := Rf_go ((stp_of c131_10).trans rfl)
theorem c131_11 : cd 131 11 = some (11, .goto 4, 3, [(15, 0)]) := by decide +kernel
theorem x131_11 {d : Nat} {a0 a1 a2 : Value} {s0 : Int32} {h : AHp} : Rf d 131 11 [a0, a1, a2] [.int s0] h = Rf d 131 15 [a0, a1, a2] [.int s0] h := Rf_go ((stp_of c131_11).trans rfl)
-- 132: X12_isWorker
theorem c132_0 : cd 132 0 = some (0, .iload_n 1, 1, []) := by decide +kernel
theorem x132_0 {d : Nat} {a0 : Value} {x : Int32} {h : AHp} : Rf d 132 0 [a0, .int x] [] h = Rf d 132 1 [a0, .int x] [.int x] h := Rf_go ((stp_of c132_0).trans rfl)
theorem c132_1 : cd 132 1 = some (1, .iconst 0, 1, []) := by decide +kernel
theorem x132_1 {d : Nat} {a0 a1 : Value} {s0 : Int32} {h : AHp} : Rf d 132 1 [a0, a1] [.int s0] h = Rf d 132 2 [a0, a1] [.int 0, .int s0] h := Rf_go ((stp_of c132_1).trans rfl)
theorem c132_2 : cd 132 2 = some (2, .aload_n 0, 1, []) := by decide +kernel
theorem x132_2 {d : Nat} {a1 : Value} {s0 : Int32} {s1 : Int32} {x : Nat} {h : AHp} : Rf d 132 2 [.ref x, a1] [.int s0, .int s1] h = Rf d 132 3 [.ref x, a1] [.ref x, .int s0, .int s1] h := Rf_go ((stp_of c132_2).trans rfl)
theorem c132_3 : cd 132 3 = some (3, .getfield 9, 3, [(12, 0)]) := by decide +kernel
theorem x132_3 {d : Nat} {a0 a1 : Value} {s0 : Nat} {s1 : Int32} {s2 : Int32} {h : AHp} : Rf d 132 3 [a0, a1] [.ref s0, .int s1, .int s2] h = if cls (h.1 s0) = 12 ∧ oKr (h.1 s0) 0 = true then Rf d 132 6 [a0, a1] [.ref (oR (h.1 s0) 0), .int s1, .int s2] h else Rx d 132 3 [a0, a1] [.ref s0, .int s1, .int s2] h := getR c132_3
theorem c132_6 : cd 132 6 = some (6, .iconst 0, 1, []) := by decide +kernel
theorem x132_6 {d : Nat} {a0 a1 : Value} {s0 : Nat} {s1 : Int32} {s2 : Int32} {h : AHp} : Rf d 132 6 [a0, a1] [.ref s0, .int s1, .int s2] h = Rf d 132 7 [a0, a1] [.int 0, .ref s0, .int s1, .int s2] h := Rf_go ((stp_of c132_6).trans rfl)
theorem c132_7 : cd 132 7 = some (7, .iaload, 1, []) := by decide +kernel
theorem x132_7 {d : Nat} {a0 a1 : Value} {s0 : Int32} {s1 : Nat} {s2 : Int32} {s3 : Int32} {h : AHp} : Rf d 132 7 [a0, a1] [.int s0, .ref s1, .int s2, .int s3] h = if (aT (h.1 s1) = 0 ∨ aT (h.1 s1) = 10) ∧ inB s0 (aN (h.1 s1)) = true then Rf d 132 8 [a0, a1] [.int (aF (h.1 s1) s0.toNatClampNeg), .int s2, .int s3] h else Rx d 132 7 [a0, a1] [.int s0, .ref s1, .int s2, .int s3] h := ldI c132_7
theorem c132_8 : cd 132 8 = some (8, .iconst 1, 1, []) := by decide +kernel
theorem x132_8 {d : Nat} {a0 a1 : Value} {s0 : Int32} {s1 : Int32} {s2 : Int32} {h : AHp} : Rf d 132 8 [a0, a1] [.int s0, .int s1, .int s2] h = Rf d 132 9 [a0, a1] [.int 1, .int s0, .int s1, .int s2] h := Rf_go ((stp_of c132_8).trans rfl)
theorem c132_9 : cd 132 9 = some (9, .isub, 1, []) := by decide +kernel
theorem x132_9 {d : Nat} {a0 a1 : Value} {s0 : Int32} {s1 : Int32} {s2 : Int32} {s3 : Int32} {h : AHp} : Rf d 132 9 [a0, a1] [.int s0, .int s1, .int s2, .int s3] h = Rf d 132 10 [a0, a1] [.int (s1 - s0), .int s2, .int s3] h := Rf_go ((stp_of c132_9).trans rfl)
theorem c132_10 : cd 132 10 = some (10, .invokestatic 31, 3, [(0, 131)]) := by decide +kernel
theorem xc132_10 {d : Nat} {a0 a1 : Value} {s0 : Int32} {s1 : Int32} {s2 : Int32} {h : AHp} {h1 : AHp} {v : Int32} (hq : Rf d 131 0 [.int s2, .int s1, .int s0] [] h = some (some (.int v), h1)) : Rf (d + 1) 132 10 [a0, a1] [.int s0, .int s1, .int s2] h = Rf (d + 1) 132 13 [a0, a1] [.int v] h1 := clS (as := [.int s2, .int s1, .int s0]) c132_10 rfl rfl (by simp [isV]) hq
theorem c132_13 : cd 132 13 = some (13, .ireturn, 1, []) := by decide +kernel
theorem x132_13 {d : Nat} {a0 a1 : Value} {s0 : Int32} {h : AHp} : Rf d 132 13 [a0, a1] [.int s0] h = if retI (some .boolean) s0 = true then some (some (.int s0), h) else Rx d 132 13 [a0, a1] [.int s0] h := Rf_ife (fun hk => by rw [stp_of c132_13]; exact if_pos hk)
-- 133: X12_feed
theorem c133_0 : cd 133 0 = some (0, .iload_n 1, 1, []) := by decide +kernel
theorem x133_0 {d : Nat} {a0 : Value} {x : Int32} {h : AHp} : Rf d 133 0 [a0, .int x] [] h = Rf d 133 1 [a0, .int x] [.int x] h := Rf_go ((stp_of c133_0).trans rfl)
theorem c133_1 : cd 133 1 = some (1, .iconst 0, 1, []) := by decide +kernel
theorem x133_1 {d : Nat} {a0 a1 : Value} {s0 : Int32} {h : AHp} : Rf d 133 1 [a0, a1] [.int s0] h = Rf d 133 2 [a0, a1] [.int 0, .int s0] h := Rf_go ((stp_of c133_1).trans rfl)
theorem c133_2 : cd 133 2 = some (2, .bipush 127, 2, []) := by decide +kernel
theorem x133_2 {d : Nat} {a0 a1 : Value} {s0 : Int32} {s1 : Int32} {h : AHp} : Rf d 133 2 [a0, a1] [.int s0, .int s1] h = Rf d 133 4 [a0, a1] [.int 127, .int s0, .int s1] h := Rf_go ((stp_of c133_2).trans rfl)
theorem c133_4 : cd 133 4 = some (4, .invokestatic 31, 3, [(0, 131)]) := by decide +kernel
theorem xc133_4 {d : Nat} {a0 a1 : Value} {s0 : Int32} {s1 : Int32} {s2 : Int32} {h : AHp} {h1 : AHp} {v : Int32} (hq : Rf d 131 0 [.int s2, .int s1, .int s0] [] h = some (some (.int v), h1)) : Rf (d + 1) 133 4 [a0, a1] [.int s0, .int s1, .int s2] h = Rf (d + 1) 133 7 [a0, a1] [.int v] h1 := clS (as := [.int s2, .int s1, .int s0]) c133_4 rfl rfl (by simp [isV]) hq
theorem c133_7 : cd 133 7 = some (7, .ifCond .ne 6, 3, [(13, 0)]) := by decide +kernel
theorem x133_7 {d : Nat} {a0 a1 : Value} {s0 : Int32} {h : AHp} : Rf d 133 7 [a0, a1] [.int s0] h = if s0 = 0 then Rf d 133 10 [a0, a1] [] h else Rf d 133 13 [a0, a1] [] h := Rf_brn ((stp_of c133_7).trans rfl)
theorem c133_13 : cd 133 13 = some (13, .aload_n 0, 1, []) := by decide +kernel
theorem x133_13 {d : Nat} {a1 : Value} {x : Nat} {h : AHp} : Rf d 133 13 [.ref x, a1] [] h = Rf d 133 14 [.ref x, a1] [.ref x] h := Rf_go ((stp_of c133_13).trans rfl)
theorem c133_14 : cd 133 14 = some (14, .getfield 9, 3, [(12, 0)]) := by decide +kernel
theorem x133_14 {d : Nat} {a0 a1 : Value} {s0 : Nat} {h : AHp} : Rf d 133 14 [a0, a1] [.ref s0] h = if cls (h.1 s0) = 12 ∧ oKr (h.1 s0) 0 = true then Rf d 133 17 [a0, a1] [.ref (oR (h.1 s0) 0)] h else Rx d 133 14 [a0, a1] [.ref s0] h := getR c133_14
theorem c133_17 : cd 133 17 = some (17, .iconst 4, 1, []) := by decide +kernel
theorem x133_17 {d : Nat} {a0 a1 : Value} {s0 : Nat} {h : AHp} : Rf d 133 17 [a0, a1] [.ref s0] h = Rf d 133 18 [a0, a1] [.int 4, .ref s0] h := Rf_go ((stp_of c133_17).trans rfl)
theorem c133_18 : cd 133 18 = some (18, .iaload, 1, []) := by decide +kernel
theorem x133_18 {d : Nat} {a0 a1 : Value} {s0 : Int32} {s1 : Nat} {h : AHp} : Rf d 133 18 [a0, a1] [.int s0, .ref s1] h = if (aT (h.1 s1) = 0 ∨ aT (h.1 s1) = 10) ∧ inB s0 (aN (h.1 s1)) = true then Rf d 133 19 [a0, a1] [.int (aF (h.1 s1) s0.toNatClampNeg)] h else Rx d 133 18 [a0, a1] [.int s0, .ref s1] h := ldI c133_18
theorem c133_19 : cd 133 19 = some (19, .bipush 100, 2, []) := by decide +kernel
theorem x133_19 {d : Nat} {a0 a1 : Value} {s0 : Int32} {h : AHp} : Rf d 133 19 [a0, a1] [.int s0] h = Rf d 133 21 [a0, a1] [.int 100, .int s0] h := Rf_go ((stp_of c133_19).trans rfl)
theorem c133_21 : cd 133 21 = some (21, .if_icmp .ne 6, 3, [(27, 0)]) := by decide +kernel
theorem x133_21 {d : Nat} {a0 a1 : Value} {s0 : Int32} {s1 : Int32} {h : AHp} : Rf d 133 21 [a0, a1] [.int s0, .int s1] h = if s1 = s0 then Rf d 133 24 [a0, a1] [] h else Rf d 133 27 [a0, a1] [] h := Rf_brn ((stp_of c133_21).trans rfl)
theorem c133_27 : cd 133 27 = some (27, .aload_n 0, 1, []) := by decide +kernel
theorem x133_27 {d : Nat} {a1 : Value} {x : Nat} {h : AHp} : Rf d 133 27 [.ref x, a1] [] h = Rf d 133 28 [.ref x, a1] [.ref x] h := Rf_go ((stp_of c133_27).trans rfl)
theorem c133_28 : cd 133 28 = some (28, .getfield 9, 3, [(12, 0)]) := by decide +kernel
theorem x133_28 {d : Nat} {a0 a1 : Value} {s0 : Nat} {h : AHp} : Rf d 133 28 [a0, a1] [.ref s0] h = if cls (h.1 s0) = 12 ∧ oKr (h.1 s0) 0 = true then Rf d 133 31 [a0, a1] [.ref (oR (h.1 s0) 0)] h else Rx d 133 28 [a0, a1] [.ref s0] h := getR c133_28
theorem c133_31 : cd 133 31 = some (31, .bipush 126, 2, []) := by decide +kernel
theorem x133_31 {d : Nat} {a0 a1 : Value} {s0 : Nat} {h : AHp} : Rf d 133 31 [a0, a1] [.ref s0] h = Rf d 133 33 [a0, a1] [.int 126, .ref s0] h := Rf_go ((stp_of c133_31).trans rfl)
theorem c133_33 : cd 133 33 = some (33, .aload_n 0, 1, []) := by decide +kernel
theorem x133_33 {d : Nat} {a1 : Value} {s0 : Int32} {s1 : Nat} {x : Nat} {h : AHp} : Rf d 133 33 [.ref x, a1] [.int s0, .ref s1] h = Rf d 133 34 [.ref x, a1] [.ref x, .int s0, .ref s1] h := Rf_go ((stp_of c133_33).trans rfl)
theorem c133_34 : cd 133 34 = some (34, .getfield 9, 3, [(12, 0)]) := by decide +kernel
theorem x133_34 {d : Nat} {a0 a1 : Value} {s0 : Nat} {s1 : Int32} {s2 : Nat} {h : AHp} : Rf d 133 34 [a0, a1] [.ref s0, .int s1, .ref s2] h = if cls (h.1 s0) = 12 ∧ oKr (h.1 s0) 0 = true then Rf d 133 37 [a0, a1] [.ref (oR (h.1 s0) 0), .int s1, .ref s2] h else Rx d 133 34 [a0, a1] [.ref s0, .int s1, .ref s2] h := getR c133_34
theorem c133_37 : cd 133 37 = some (37, .iconst 4, 1, []) := by decide +kernel
theorem x133_37 {d : Nat} {a0 a1 : Value} {s0 : Nat} {s1 : Int32} {s2 : Nat} {h : AHp} : Rf d 133 37 [a0, a1] [.ref s0, .int s1, .ref s2] h = Rf d 133 38 [a0, a1] [.int 4, .ref s0, .int s1, .ref s2] h := Rf_go ((stp_of c133_37).trans rfl)
theorem c133_38 : cd 133 38 = some (38, .iaload, 1, []) := by decide +kernel
theorem x133_38 {d : Nat} {a0 a1 : Value} {s0 : Int32} {s1 : Nat} {s2 : Int32} {s3 : Nat} {h : AHp} : Rf d 133 38 [a0, a1] [.int s0, .ref s1, .int s2, .ref s3] h = if (aT (h.1 s1) = 0 ∨ aT (h.1 s1) = 10) ∧ inB s0 (aN (h.1 s1)) = true then Rf d 133 39 [a0, a1] [.int (aF (h.1 s1) s0.toNatClampNeg), .int s2, .ref s3] h else Rx d 133 38 [a0, a1] [.int s0, .ref s1, .int s2, .ref s3] h := ldI c133_38
theorem c133_39 : cd 133 39 = some (39, .iadd, 1, []) := by decide +kernel
theorem x133_39 {d : Nat} {a0 a1 : Value} {s0 : Int32} {s1 : Int32} {s2 : Nat} {h : AHp} : Rf d 133 39 [a0, a1] [.int s0, .int s1, .ref s2] h = Rf d 133 40 [a0, a1] [.int (s1 + s0), .ref s2] h := Rf_go ((stp_of c133_39).trans rfl)
theorem c133_40 : cd 133 40 = some (40, .iload_n 1, 1, []) := by decide +kernel
theorem x133_40 {d : Nat} {a0 : Value} {s0 : Int32} {s1 : Nat} {x : Int32} {h : AHp} : Rf d 133 40 [a0, .int x] [.int s0, .ref s1] h = Rf d 133 41 [a0, .int x] [.int x, .int s0, .ref s1] h := Rf_go ((stp_of c133_40).trans rfl)
theorem c133_41 : cd 133 41 = some (41, .iastore, 1, []) := by decide +kernel
theorem x133_41 {d : Nat} {a0 a1 : Value} {s0 : Int32} {s1 : Int32} {s2 : Nat} {h : AHp} : Rf d 133 41 [a0, a1] [.int s0, .int s1, .ref s2] h = if aT (h.1 s2) = 0 ∧ inB s1 (aN (h.1 s2)) = true then Rf d 133 42 [a0, a1] [] (hset h s2 (.inl (0, aN (h.1 s2), .inl (upd (aF (h.1 s2)) s1.toNatClampNeg s0)))) else Rx d 133 41 [a0, a1] [.int s0, .int s1, .ref s2] h := stI c133_41
theorem c133_42 : cd 133 42 = some (42, .aload_n 0, 1, []) := by decide +kernel
theorem x133_42 {d : Nat} {a1 : Value} {x : Nat} {h : AHp} : Rf d 133 42 [.ref x, a1] [] h = Rf d 133 43 [.ref x, a1] [.ref x] h := Rf_go ((stp_of c133_42).trans rfl)
theorem c133_43 : cd 133 43 = some (43, .getfield 9, 3, [(12, 0)]) := by decide +kernel
theorem x133_43 {d : Nat} {a0 a1 : Value} {s0 : Nat} {h : AHp} : Rf d 133 43 [a0, a1] [.ref s0] h = if cls (h.1 s0) = 12 ∧ oKr (h.1 s0) 0 = true then Rf d 133 46 [a0, a1] [.ref (oR (h.1 s0) 0)] h else Rx d 133 43 [a0, a1] [.ref s0] h := getR c133_43
theorem c133_46 : cd 133 46 = some (46, .iconst 4, 1, []) := by decide +kernel
theorem x133_46 {d : Nat} {a0 a1 : Value} {s0 : Nat} {h : AHp} : Rf d 133 46 [a0, a1] [.ref s0] h = Rf d 133 47 [a0, a1] [.int 4, .ref s0] h := Rf_go ((stp_of c133_46).trans rfl)
theorem c133_47 : cd 133 47 = some (47, .dup2, 1, []) := by decide +kernel
theorem x133_47 {d : Nat} {a0 a1 : Value} {s0 : Int32} {s1 : Nat} {h : AHp} : Rf d 133 47 [a0, a1] [.int s0, .ref s1] h = Rf d 133 48 [a0, a1] [.int s0, .ref s1, .int s0, .ref s1] h := Rf_go ((stp_of c133_47).trans rfl)
theorem c133_48 : cd 133 48 = some (48, .iaload, 1, []) := by decide +kernel
theorem x133_48 {d : Nat} {a0 a1 : Value} {s0 : Int32} {s1 : Nat} {s2 : Int32} {s3 : Nat} {h : AHp} : Rf d 133 48 [a0, a1] [.int s0, .ref s1, .int s2, .ref s3] h = if (aT (h.1 s1) = 0 ∨ aT (h.1 s1) = 10) ∧ inB s0 (aN (h.1 s1)) = true then Rf d 133 49 [a0, a1] [.int (aF (h.1 s1) s0.toNatClampNeg), .int s2, .ref s3] h else Rx d 133 48 [a0, a1] [.int s0, .ref s1, .int s2, .ref s3] h := ldI c133_48
theorem c133_49 : cd 133 49 = some (49, .iconst 1, 1, []) := by decide +kernel
theorem x133_49 {d : Nat} {a0 a1 : Value} {s0 : Int32} {s1 : Int32} {s2 : Nat} {h : AHp} : Rf d 133 49 [a0, a1] [.int s0, .int s1, .ref s2] h = Rf d 133 50 [a0, a1] [.int 1, .int s0, .int s1, .ref s2] h := Rf_go ((stp_of c133_49).trans rfl)
theorem c133_50 : cd 133 50 = some (50, .iadd, 1, []) := by decide +kernel
theorem x133_50 {d : Nat} {a0 a1 : Value} {s0 : Int32} {s1 : Int32} {s2 : Int32} {s3 : Nat} {h : AHp} : Rf d 133 50 [a0, a1] [.int s0, .int s1, .int s2, .ref s3] h = Rf d 133 51 [a0, a1] [.int (s1 + s0), .int s2, .ref s3] h := Rf_go ((stp_of c133_50).trans rfl)
theorem c133_51 : cd 133 51 = some (51, .dup_x2, 1, []) := by decide +kernel
theorem x133_51 {d : Nat} {a0 a1 : Value} {s0 : Int32} {s1 : Int32} {s2 : Nat} {h : AHp} : Rf d 133 51 [a0, a1] [.int s0, .int s1, .ref s2] h = Rf d 133 52 [a0, a1] [.int s0, .int s1, .ref s2, .int s0] h := Rf_go ((stp_of c133_51).trans rfl)
theorem c133_52 : cd 133 52 = some (52, .iastore, 1, []) := by decide +kernel
theorem x133_52 {d : Nat} {a0 a1 : Value} {s0 : Int32} {s1 : Int32} {s2 : Nat} {s3 : Int32} {h : AHp} : Rf d 133 52 [a0, a1] [.int s0, .int s1, .ref s2, .int s3] h = if aT (h.1 s2) = 0 ∧ inB s1 (aN (h.1 s2)) = true then Rf d 133 53 [a0, a1] [.int s3] (hset h s2 (.inl (0, aN (h.1 s2), .inl (upd (aF (h.1 s2)) s1.toNatClampNeg s0)))) else Rx d 133 52 [a0, a1] [.int s0, .int s1, .ref s2, .int s3] h := stI c133_52
theorem c133_53 : cd 133 53 = some (53, .ireturn, 1, []) := by decide +kernel
theorem x133_53 {d : Nat} {a0 a1 : Value} {s0 : Int32} {h : AHp} : Rf d 133 53 [a0, a1] [.int s0] h = some (some (.int s0), h) := Rf_end (by rw [stp_of c133_53]; simp only [stpI]; rw [if_pos (show retI (mH 133).2.2.1 s0 = true from retI_int)])
theorem c133_24 : cd 133 24 = some (24, .bipush (-4), 2, []) := by decide +kernel
theorem x133_24 {d : Nat} {a0 a1 : Value} {h : AHp} : Rf d 133 24 [a0, a1] [] h = Rf d 133 26 [a0, a1] [.int (-4)] h := Rf_go ((stp_of c133_24).trans rfl)
theorem c133_26 : cd 133 26 = some (26, .ireturn, 1, []) := by decide +kernel
theorem x133_26 {d : Nat} {a0 a1 : Value} {s0 : Int32} {h : AHp} : Rf d 133 26 [a0, a1] [.int s0] h = some (some (.int s0), h) := Rf_end (by rw [stp_of c133_26]; simp only [stpI]; rw [if_pos (show retI (mH 133).2.2.1 s0 = true from retI_int)])
theorem c133_10 : cd 133 10 = some (10, .bipush (-2), 2, []) := by decide +kernel
theorem x133_10 {d : Nat} {a0 a1 : Value} {h : AHp} : Rf d 133 10 [a0, a1] [] h = Rf d 133 12 [a0, a1] [.int (-2)] h := Rf_go ((stp_of c133_10).trans rfl)
theorem c133_12 : cd 133 12 = some (12, .ireturn, 1, []) := by decide +kernel
theorem x133_12 {d : Nat} {a0 a1 : Value} {s0 : Int32} {h : AHp} : Rf d 133 12 [a0, a1] [.int s0] h = some (some (.int s0), h) := Rf_end (by rw [stp_of c133_12]; simp only [stpI]; rw [if_pos (show retI (mH 133).2.2.1 s0 = true from retI_int)])
-- 134: X12_sign
theorem c134_0 : cd 134 0 = some (0, .aload_n 0, 1, []) := by decide +kernel
theorem x134_0 {d : Nat} {x : Nat} {h : AHp} : Rf d 134 0 [.ref x] [] h = Rf d 134 1 [.ref x] [.ref x] h := Rf_go ((stp_of c134_0).trans rfl)
theorem c134_1 : cd 134 1 = some (1, .getfield 35, 3, [(12, 3)]) := by decide +kernel
theorem x134_1 {d : Nat} {a0 : Value} {s0 : Nat} {h : AHp} : Rf d 134 1 [a0] [.ref s0] h = if cls (h.1 s0) = 12 ∧ oKi (h.1 s0) 3 = true then Rf d 134 4 [a0] [.int (oN (h.1 s0) 3)] h else Rx d 134 1 [a0] [.ref s0] h := getI c134_1
theorem c134_4 : cd 134 4 = some (4, .aload_n 0, 1, []) := by decide +kernel
theorem x134_4 {d : Nat} {s0 : Int32} {x : Nat} {h : AHp} : Rf d 134 4 [.ref x] [.int s0] h = Rf d 134 5 [.ref x] [.ref x, .int s0] h := Rf_go ((stp_of c134_4).trans rfl)
theorem c134_5 : cd 134 5 = some (5, .getfield 9, 3, [(12, 0)]) := by decide +kernel
theorem x134_5 {d : Nat} {a0 : Value} {s0 : Nat} {s1 : Int32} {h : AHp} : Rf d 134 5 [a0] [.ref s0, .int s1] h = if cls (h.1 s0) = 12 ∧ oKr (h.1 s0) 0 = true then Rf d 134 8 [a0] [.ref (oR (h.1 s0) 0), .int s1] h else Rx d 134 5 [a0] [.ref s0, .int s1] h := getR c134_5
theorem c134_8 : cd 134 8 = some (8, .iconst 4, 1, []) := by decide +kernel
theorem x134_8 {d : Nat} {a0 : Value} {s0 : Nat} {s1 : Int32} {h : AHp} : Rf d 134 8 [a0] [.ref s0, .int s1] h = Rf d 134 9 [a0] [.int 4, .ref s0, .int s1] h := Rf_go ((stp_of c134_8).trans rfl)
theorem c134_9 : cd 134 9 = some (9, .iaload, 1, []) := by decide +kernel
theorem x134_9 {d : Nat} {a0 : Value} {s0 : Int32} {s1 : Nat} {s2 : Int32} {h : AHp} : Rf d 134 9 [a0] [.int s0, .ref s1, .int s2] h = if (aT (h.1 s1) = 0 ∨ aT (h.1 s1) = 10) ∧ inB s0 (aN (h.1 s1)) = true then Rf d 134 10 [a0] [.int (aF (h.1 s1) s0.toNatClampNeg), .int s2] h else Rx d 134 9 [a0] [.int s0, .ref s1, .int s2] h := ldI c134_9
theorem c134_10 : cd 134 10 = some (10, .if_icmp .ge 18, 3, [(28, 0)]) := by decide +kernel
theorem x134_10 {d : Nat} {a0 : Value} {s0 : Int32} {s1 : Int32} {h : AHp} : Rf d 134 10 [a0] [.int s0, .int s1] h = if s1 < s0 then Rf d 134 13 [a0] [] h else Rf d 134 28 [a0] [] h := Rf_brn ((stp_of c134_10).trans rfl)
theorem c134_28 : cd 134 28 = some (28, .iconst (-1), 1, []) := by decide +kernel
theorem x134_28 {d : Nat} {a0 : Value} {h : AHp} : Rf d 134 28 [a0] [] h = Rf d 134 29 [a0] [.int (-1)] h := Rf_go ((stp_of c134_28).trans rfl)
theorem c134_29 : cd 134 29 = some (29, .ireturn, 1, []) := by decide +kernel
theorem x134_29 {d : Nat} {a0 : Value} {s0 : Int32} {h : AHp} : Rf d 134 29 [a0] [.int s0] h = some (some (.int s0), h) := Rf_end (by rw [stp_of c134_29]; simp only [stpI]; rw [if_pos (show retI (mH 134).2.2.1 s0 = true from retI_int)])
theorem c134_13 : cd 134 13 = some (13, .aload_n 0, 1, []) := by decide +kernel
theorem x134_13 {d : Nat} {x : Nat} {h : AHp} : Rf d 134 13 [.ref x] [] h = Rf d 134 14 [.ref x] [.ref x] h := Rf_go ((stp_of c134_13).trans rfl)
theorem c134_14 : cd 134 14 = some (14, .getfield 9, 3, [(12, 0)]) := by decide +kernel
theorem x134_14 {d : Nat} {a0 : Value} {s0 : Nat} {h : AHp} : Rf d 134 14 [a0] [.ref s0] h = if cls (h.1 s0) = 12 ∧ oKr (h.1 s0) 0 = true then Rf d 134 17 [a0] [.ref (oR (h.1 s0) 0)] h else Rx d 134 14 [a0] [.ref s0] h := getR c134_14
theorem c134_17 : cd 134 17 = some (17, .bipush 126, 2, []) := by decide +kernel
theorem x134_17 {d : Nat} {a0 : Value} {s0 : Nat} {h : AHp} : Rf d 134 17 [a0] [.ref s0] h = Rf d 134 19 [a0] [.int 126, .ref s0] h := Rf_go ((stp_of c134_17).trans rfl)
theorem c134_19 : cd 134 19 = some (19, .aload_n 0, 1, []) := by decide +kernel
theorem x134_19 {d : Nat} {s0 : Int32} {s1 : Nat} {x : Nat} {h : AHp} : Rf d 134 19 [.ref x] [.int s0, .ref s1] h = Rf d 134 20 [.ref x] [.ref x, .int s0, .ref s1] h := Rf_go ((stp_of c134_19).trans rfl)
theorem c134_20 : cd 134 20 = some (20, .getfield 35, 3, [(12, 3)]) := by decide +kernel
theorem x134_20 {d : Nat} {a0 : Value} {s0 : Nat} {s1 : Int32} {s2 : Nat} {h : AHp} : Rf d 134 20 [a0] [.ref s0, .int s1, .ref s2] h = if cls (h.1 s0) = 12 ∧ oKi (h.1 s0) 3 = true then Rf d 134 23 [a0] [.int (oN (h.1 s0) 3), .int s1, .ref s2] h else Rx d 134 20 [a0] [.ref s0, .int s1, .ref s2] h := getI c134_20
theorem c134_23 : cd 134 23 = some (23, .iadd, 1, []) := by decide +kernel
theorem x134_23 {d : Nat} {a0 : Value} {s0 : Int32} {s1 : Int32} {s2 : Nat} {h : AHp} : Rf d 134 23 [a0] [.int s0, .int s1, .ref s2] h = Rf d 134 24 [a0] [.int (s1 + s0), .ref s2] h := Rf_go ((stp_of c134_23).trans rfl)
theorem c134_24 : cd 134 24 = some (24, .iaload, 1, []) := by decide +kernel
theorem x134_24 {d : Nat} {a0 : Value} {s0 : Int32} {s1 : Nat} {h : AHp} : Rf d 134 24 [a0] [.int s0, .ref s1] h = if (aT (h.1 s1) = 0 ∨ aT (h.1 s1) = 10) ∧ inB s0 (aN (h.1 s1)) = true then Rf d 134 25 [a0] [.int (aF (h.1 s1) s0.toNatClampNeg)] h else Rx d 134 24 [a0] [.int s0, .ref s1] h := ldI c134_24
theorem c134_25 : cd 134 25 = some (25, .goto 4, 3, [(29, 0)]) := by decide +kernel
theorem x134_25 {d : Nat} {a0 : Value} {s0 : Int32} {h : AHp} : Rf d 134 25 [a0] [.int s0] h = Rf d 134 29 [a0] [.int s0] h := Rf_go ((stp_of c134_25).trans rfl)
-- 135: X12_is
theorem c135_0 : cd 135 0 = some (0, .aload_n 0, 1, []) := by decide +kernel
theorem x135_0 {d : Nat} {a1 : Value} {x : Nat} {h : AHp} : Rf d 135 0 [.ref x, a1] [] h = Rf d 135 1 [.ref x, a1] [.ref x] h := Rf_go ((stp_of c135_0).trans rfl)
theorem c135_1 : cd 135 1 = some (1, .invokevirtual 39, 3, [(12, 134)]) := by decide +kernel
theorem xc135_1 {d : Nat} {a0 a1 : Value} {s0 : Nat} {h : AHp} {h1 : AHp} {v : Int32} (hr : cls (h.1 s0) = 12) (hq : Rf d 134 0 [.ref s0] [] h = some (some (.int v), h1)) : Rf (d + 1) 135 1 [a0, a1] [.ref s0] h = Rf (d + 1) 135 4 [a0, a1] [.int v] h1 := clV (c := 134) (as := []) c135_1 rfl (by simp [isV]) (by rw [hr]; rfl) hq
theorem c135_4 : cd 135 4 = some (4, .iload_n 1, 1, []) := by decide +kernel
theorem x135_4 {d : Nat} {a0 : Value} {s0 : Int32} {x : Int32} {h : AHp} : Rf d 135 4 [a0, .int x] [.int s0] h = Rf d 135 5 [a0, .int x] [.int x, .int s0] h := Rf_go ((stp_of c135_4).trans rfl)
theorem c135_5 : cd 135 5 = some (5, .if_icmp .eq 5, 3, [(10, 0)]) := by decide +kernel
theorem x135_5 {d : Nat} {a0 a1 : Value} {s0 : Int32} {s1 : Int32} {h : AHp} : Rf d 135 5 [a0, a1] [.int s0, .int s1] h = if s1 = s0 then Rf d 135 10 [a0, a1] [] h else Rf d 135 8 [a0, a1] [] h := Rf_brd ((stp_of c135_5).trans rfl)
theorem c135_10 : cd 135 10 = some (10, .aload_n 0, 1, []) := by decide +kernel
theorem x135_10 {d : Nat} {a1 : Value} {x : Nat} {h : AHp} : Rf d 135 10 [.ref x, a1] [] h = Rf d 135 11 [.ref x, a1] [.ref x] h := Rf_go ((stp_of c135_10).trans rfl)
theorem c135_11 : cd 135 11 = some (11, .dup, 1, []) := by decide +kernel
theorem x135_11 {d : Nat} {a0 a1 : Value} {s0 : Nat} {h : AHp} : Rf d 135 11 [a0, a1] [.ref s0] h = Rf d 135 12 [a0, a1] [.ref s0, .ref s0] h := Rf_go ((stp_of c135_11).trans rfl)
theorem c135_12 : cd 135 12 = some (12, .getfield 35, 3, [(12, 3)]) := by decide +kernel
theorem x135_12 {d : Nat} {a0 a1 : Value} {s0 : Nat} {s1 : Nat} {h : AHp} : Rf d 135 12 [a0, a1] [.ref s0, .ref s1] h = if cls (h.1 s0) = 12 ∧ oKi (h.1 s0) 3 = true then Rf d 135 15 [a0, a1] [.int (oN (h.1 s0) 3), .ref s1] h else Rx d 135 12 [a0, a1] [.ref s0, .ref s1] h := getI c135_12
theorem c135_15 : cd 135 15 = some (15, .iconst 1, 1, []) := by decide +kernel
theorem x135_15 {d : Nat} {a0 a1 : Value} {s0 : Int32} {s1 : Nat} {h : AHp} : Rf d 135 15 [a0, a1] [.int s0, .ref s1] h = Rf d 135 16 [a0, a1] [.int 1, .int s0, .ref s1] h := Rf_go ((stp_of c135_15).trans rfl)
theorem c135_16 : cd 135 16 = some (16, .iadd, 1, []) := by decide +kernel
theorem x135_16 {d : Nat} {a0 a1 : Value} {s0 : Int32} {s1 : Int32} {s2 : Nat} {h : AHp} : Rf d 135 16 [a0, a1] [.int s0, .int s1, .ref s2] h = Rf d 135 17 [a0, a1] [.int (s1 + s0), .ref s2] h := Rf_go ((stp_of c135_16).trans rfl)
theorem c135_17 : cd 135 17 = some (17, .putfield 35, 3, [(12, 3)]) := by decide +kernel
theorem x135_17 {d : Nat} {a0 a1 : Value} {s0 : Int32} {s1 : Nat} {h : AHp} : Rf d 135 17 [a0, a1] [.int s0, .ref s1] h = if cls (h.1 s1) = 12 ∧ oL (h.1 s1) = 12 then Rf d 135 20 [a0, a1] [] (hset h s1 (oSet (h.1 s1) 3 (.int s0))) else Rx d 135 17 [a0, a1] [.int s0, .ref s1] h := putV c135_17 rfl (fMay_i (by decide +kernel))
theorem c135_20 : cd 135 20 = some (20, .iconst 1, 1, []) := by decide +kernel
theorem x135_20 {d : Nat} {a0 a1 : Value} {h : AHp} : Rf d 135 20 [a0, a1] [] h = Rf d 135 21 [a0, a1] [.int 1] h := Rf_go ((stp_of c135_20).trans rfl)
theorem c135_21 : cd 135 21 = some (21, .ireturn, 1, []) := by decide +kernel
theorem x135_21 {d : Nat} {a0 a1 : Value} {s0 : Int32} {h : AHp} : Rf d 135 21 [a0, a1] [.int s0] h = if retI (some .boolean) s0 = true then some (some (.int s0), h) else Rx d 135 21 [a0, a1] [.int s0] h := Rf_ife (fun hk => by rw [stp_of c135_21]; exact if_pos hk)
theorem c135_8 : cd 135 8 = some (8, .iconst 0, 1, []) := by decide +kernel
theorem x135_8 {d : Nat} {a0 a1 : Value} {h : AHp} : Rf d 135 8 [a0, a1] [] h = Rf d 135 9 [a0, a1] [.int 0] h := Rf_go ((stp_of c135_8).trans rfl)
theorem c135_9 : cd 135 9 = some (9, .ireturn, 1, []) := by decide +kernel
theorem x135_9 {d : Nat} {a0 a1 : Value} {s0 : Int32} {h : AHp} : Rf d 135 9 [a0, a1] [.int s0] h = if retI (some .boolean) s0 = true then some (some (.int s0), h) else Rx d 135 9 [a0, a1] [.int s0] h := Rf_ife (fun hk => by rw [stp_of c135_9]; exact if_pos hk)
-- 136: X12_is_
theorem c136_0 : cd 136 0 = some (0, .iconst 0, 1, []) := by decide +kernel
theorem x136_0 {d : Nat} {a0 a1 a2 : Value} {h : AHp} : Rf d 136 0 [a0, a1, a2] [] h = Rf d 136 1 [a0, a1, a2] [.int 0] h := Rf_go ((stp_of c136_0).trans rfl)
theorem c136_1 : cd 136 1 = some (1, .istore_n 2, 1, []) := by decide +kernel
theorem x136_1 {d : Nat} {a0 a1 a2 : Value} {s0 : Int32} {h : AHp} : Rf d 136 1 [a0, a1, a2] [.int s0] h = Rf d 136 2 [a0, a1, .int s0] [] h := Rf_go ((stp_of c136_1).trans rfl)
theorem c136_2 : cd 136 2 = some (2, .iload_n 2, 1, []) := by decide +kernel
theorem x136_2 {d : Nat} {a0 a1 : Value} {x : Int32} {h : AHp} : Rf d 136 2 [a0, a1, .int x] [] h = Rf d 136 3 [a0, a1, .int x] [.int x] h := Rf_go ((stp_of c136_2).trans rfl)
theorem c136_3 : cd 136 3 = some (3, .aload_n 1, 1, []) := by decide +kernel
theorem x136_3 {d : Nat} {a0 a2 : Value} {s0 : Int32} {x : Nat} {h : AHp} : Rf d 136 3 [a0, .ref x, a2] [.int s0] h = Rf d 136 4 [a0, .ref x, a2] [.ref x, .int s0] h := Rf_go ((stp_of c136_3).trans rfl)
theorem c136_4 : cd 136 4 = some (4, .invokevirtual 43, 3, [(13, 203)]) := by decide +kernel
theorem xc136_4 {d : Nat} {a0 a1 a2 : Value} {s0 : Nat} {s1 : Int32} {h : AHp} {h1 : AHp} {v : Int32} (hr : cls (h.1 s0) = 13) (hq : Rf d 203 0 [.ref s0] [] h = some (some (.int v), h1)) : Rf (d + 1) 136 4 [a0, a1, a2] [.ref s0, .int s1] h = Rf (d + 1) 136 7 [a0, a1, a2] [.int v, .int s1] h1 := clV (c := 203) (as := []) c136_4 rfl (by simp [isV]) (by rw [hr]; rfl) hq
theorem c136_7 : cd 136 7 = some (7, .if_icmp .ge 23, 3, [(30, 0)]) := by decide +kernel
theorem x136_7 {d : Nat} {a0 a1 a2 : Value} {s0 : Int32} {s1 : Int32} {h : AHp} : Rf d 136 7 [a0, a1, a2] [.int s0, .int s1] h = if s1 < s0 then Rf d 136 10 [a0, a1, a2] [] h else Rf d 136 30 [a0, a1, a2] [] h := Rf_brn ((stp_of c136_7).trans rfl)
theorem c136_30 : cd 136 30 = some (30, .iconst 1, 1, []) := by decide +kernel
theorem x136_30 {d : Nat} {a0 a1 a2 : Value} {h : AHp} : Rf d 136 30 [a0, a1, a2] [] h = Rf d 136 31 [a0, a1, a2] [.int 1] h := Rf_go ((stp_of c136_30).trans rfl)
theorem c136_31 : cd 136 31 = some (31, .ireturn, 1, []) := by decide +kernel
theorem x136_31 {d : Nat} {a0 a1 a2 : Value} {s0 : Int32} {h : AHp} : Rf d 136 31 [a0, a1, a2] [.int s0] h = if retI (some .boolean) s0 = true then some (some (.int s0), h) else Rx d 136 31 [a0, a1, a2] [.int s0] h := Rf_ife (fun hk => by rw [stp_of c136_31]; exact if_pos hk)
theorem c136_10 : cd 136 10 = some (10, .aload_n 0, 1, []) := by decide +kernel
theorem x136_10 {d : Nat} {a1 a2 : Value} {x : Nat} {h : AHp} : Rf d 136 10 [.ref x, a1, a2] [] h = Rf d 136 11 [.ref x, a1, a2] [.ref x] h := Rf_go ((stp_of c136_10).trans rfl)
theorem c136_11 : cd 136 11 = some (11, .aload_n 1, 1, []) := by decide +kernel
theorem x136_11 {d : Nat} {a0 a2 : Value} {s0 : Nat} {x : Nat} {h : AHp} : Rf d 136 11 [a0, .ref x, a2] [.ref s0] h = Rf d 136 12 [a0, .ref x, a2] [.ref x, .ref s0] h := Rf_go ((stp_of c136_11).trans rfl)
theorem c136_12 : cd 136 12 = some (12, .iload_n 2, 1, []) := by decide +kernel
theorem x136_12 {d : Nat} {a0 a1 : Value} {s0 : Nat} {s1 : Nat} {x : Int32} {h : AHp} : Rf d 136 12 [a0, a1, .int x] [.ref s0, .ref s1] h = Rf d 136 13 [a0, a1, .int x] [.int x, .ref s0, .ref s1] h := Rf_go ((stp_of c136_12).trans rfl)
theorem c136_13 : cd 136 13 = some (13, .invokevirtual 48, 3, [(13, 204)]) := by decide +kernel
theorem xc136_13 {d : Nat} {a0 a1 a2 : Value} {s0 : Int32} {s1 : Nat} {s2 : Nat} {h : AHp} {h1 : AHp} {v : Int32} (hr : cls (h.1 s1) = 13) (hq : Rf d 204 0 [.ref s1, .int s0] [] h = some (some (.int v), h1)) : Rf (d + 1) 136 13 [a0, a1, a2] [.int s0, .ref s1, .ref s2] h = Rf (d + 1) 136 16 [a0, a1, a2] [.int v, .ref s2] h1 := clV (c := 204) (as := [.int s0]) c136_13 rfl (by simp [isV]) (by rw [hr]; rfl) hq
theorem c136_16 : cd 136 16 = some (16, .invokevirtual 52, 3, [(12, 135)]) := by decide +kernel
theorem xc136_16 {d : Nat} {a0 a1 a2 : Value} {s0 : Int32} {s1 : Nat} {h : AHp} {h1 : AHp} {v : Int32} (hr : cls (h.1 s1) = 12) (hq : Rf d 135 0 [.ref s1, .int s0] [] h = some (some (.int v), h1)) : Rf (d + 1) 136 16 [a0, a1, a2] [.int s0, .ref s1] h = Rf (d + 1) 136 19 [a0, a1, a2] [.int v] h1 := clV (c := 135) (as := [.int s0]) c136_16 rfl (by simp [isV]) (by rw [hr]; rfl) hq
theorem c136_19 : cd 136 19 = some (19, .ifCond .ne 5, 3, [(24, 0)]) := by decide +kernel
theorem x136_19 {d : Nat} {a0 a1 a2 : Value} {s0 : Int32} {h : AHp} : Rf d 136 19 [a0, a1, a2] [.int s0] h = if s0 = 0 then Rf d 136 22 [a0, a1, a2] [] h else Rf d 136 24 [a0, a1, a2] [] h := Rf_brn ((stp_of c136_19).trans rfl)
theorem c136_24 : cd 136 24 = some (24, .iinc 2 1, 3, []) := by decide +kernel
theorem x136_24 {d : Nat} {a0 a1 : Value} {x : Int32} {h : AHp} : Rf d 136 24 [a0, a1, .int x] [] h = Rf d 136 27 [a0, a1, .int (x + 1)] [] h := Rf_go ((stp_of c136_24).trans rfl)
theorem c136_27 : cd 136 27 = some (27, .goto (-25), 3, [(2, 0)]) := by decide +kernel
theorem x136_27 {d : Nat} {a0 a1 a2 : Value} {h : AHp} : Rf d 136 27 [a0, a1, a2] [] h = Rf d 136 2 [a0, a1, a2] [] h := Rf_go ((stp_of c136_27).trans rfl)
theorem c136_22 : cd 136 22 = some (22, .iconst 0, 1, []) := by decide +kernel
theorem x136_22 {d : Nat} {a0 a1 a2 : Value} {h : AHp} : Rf d 136 22 [a0, a1, a2] [] h = Rf d 136 23 [a0, a1, a2] [.int 0] h := Rf_go ((stp_of c136_22).trans rfl)
theorem c136_23 : cd 136 23 = some (23, .ireturn, 1, []) := by decide +kernel
theorem x136_23 {d : Nat} {a0 a1 a2 : Value} {s0 : Int32} {h : AHp} : Rf d 136 23 [a0, a1, a2] [.int s0] h = if retI (some .boolean) s0 = true then some (some (.int s0), h) else Rx d 136 23 [a0, a1, a2] [.int s0] h := Rf_ife (fun hk => by rw [stp_of c136_23]; exact if_pos hk)
-- 137: X12_isDigit
theorem c137_0 : cd 137 0 = some (0, .iload_n 0, 1, []) := by decide +kernel
theorem x137_0 {d : Nat} {x : Int32} {h : AHp} : Rf d 137 0 [.int x] [] h = Rf d 137 1 [.int x] [.int x] h := Rf_go ((stp_of c137_0).trans rfl)
theorem c137_1 : cd 137 1 = some (1, .bipush 48, 2, []) := by decide +kernel
theorem x137_1 {d : Nat} {a0 : Value} {s0 : Int32} {h : AHp} : Rf d 137 1 [a0] [.int s0] h = Rf d 137 3 [a0] [.int 48, .int s0] h := Rf_go ((stp_of c137_1).trans rfl)
theorem c137_3 : cd 137 3 = some (3, .if_icmp .lt 13, 3, [(16, 0)]) := by decide +kernel
theorem x137_3 {d : Nat} {a0 : Value} {s0 : Int32} {s1 : Int32} {h : AHp} : Rf d 137 3 [a0] [.int s0, .int s1] h = if s1 < s0 then Rf d 137 16 [a0] [] h else Rf d 137 6 [a0] [] h := Rf_brd ((stp_of c137_3).trans rfl)
theorem c137_16 : cd 137 16 = some (16, .iconst 0, 1, []) := by decide +kernel
theorem x137_16 {d : Nat} {a0 : Value} {h : AHp} : Rf d 137 16 [a0] [] h = Rf d 137 17 [a0] [.int 0] h := Rf_go ((stp_of c137_16).trans rfl)
theorem c137_17 : cd 137 17 = some (17, .ireturn, 1, []) := by decide +kernel
theorem x137_17 {d : Nat} {a0 : Value} {s0 : Int32} {h : AHp} : Rf d 137 17 [a0] [.int s0] h = if retI (some .boolean) s0 = true then some (some (.int s0), h) else Rx d 137 17 [a0] [.int s0] h := Rf_ife (fun hk => by rw [stp_of c137_17]; exact if_pos hk)
theorem c137_6 : cd 137 6 = some (6, .iload_n 0, 1, []) := by decide +kernel
theorem x137_6 {d : Nat} {x : Int32} {h : AHp} : Rf d 137 6 [.int x] [] h = Rf d 137 7 [.int x] [.int x] h := Rf_go ((stp_of c137_6).trans rfl)
theorem c137_7 : cd 137 7 = some (7, .bipush 57, 2, []) := by decide +kernel
theorem x137_7 {d : Nat} {a0 : Value} {s0 : Int32} {h : AHp} : Rf d 137 7 [a0] [.int s0] h = Rf d 137 9 [a0] [.int 57, .int s0] h := Rf_go ((stp_of c137_7).trans rfl)
theorem c137_9 : cd 137 9 = some (9, .if_icmp .gt 7, 3, [(16, 0)]) := by decide +kernel
theorem x137_9 {d : Nat} {a0 : Value} {s0 : Int32} {s1 : Int32} {h : AHp} : Rf d 137 9 [a0] [.int s0, .int s1] h = if s0 < s1 then Rf d 137 16 [a0] [] h else Rf d 137 12 [a0] [] h := Rf_brd ((stp_of c137_9).trans rfl)
theorem c137_12 : cd 137 12 = some (12, .iconst 1, 1, []) := by decide +kernel
theorem x137_12 {d : Nat} {a0 : Value} {h : AHp} : Rf d 137 12 [a0] [] h = Rf d 137 13 [a0] [.int 1] h := Rf_go ((stp_of c137_12).trans rfl)
theorem c137_13 : cd 137 13 = some (13, .goto 4, 3, [(17, 0)]) := by decide +kernel
theorem x137_13 {d : Nat} {a0 : Value} {s0 : Int32} {h : AHp} : Rf d 137 13 [a0] [.int s0] h = Rf d 137 17 [a0] [.int s0] h := Rf_go ((stp_of c137_13).trans rfl)
-- 138: X12_number
theorem c138_0 : cd 138 0 = some (0, .aload_n 0, 1, []) := by decide +kernel
theorem x138_0 {d : Nat} {a1 a2 : Value} {x : Nat} {h : AHp} : Rf d 138 0 [.ref x, a1, a2] [] h = Rf d 138 1 [.ref x, a1, a2] [.ref x] h := Rf_go ((stp_of c138_0).trans rfl)
theorem c138_1 : cd 138 1 = some (1, .invokevirtual 39, 3, [(12, 134)]) := by decide +kernel
theorem xc138_1 {d : Nat} {a0 a1 a2 : Value} {s0 : Nat} {h : AHp} {h1 : AHp} {v : Int32} (hr : cls (h.1 s0) = 12) (hq : Rf d 134 0 [.ref s0] [] h = some (some (.int v), h1)) : Rf (d + 1) 138 1 [a0, a1, a2] [.ref s0] h = Rf (d + 1) 138 4 [a0, a1, a2] [.int v] h1 := clV (c := 134) (as := []) c138_1 rfl (by simp [isV]) (by rw [hr]; rfl) hq
theorem c138_4 : cd 138 4 = some (4, .istore_n 1, 1, []) := by decide +kernel
theorem x138_4 {d : Nat} {a0 a1 a2 : Value} {s0 : Int32} {h : AHp} : Rf d 138 4 [a0, a1, a2] [.int s0] h = Rf d 138 5 [a0, .int s0, a2] [] h := Rf_go ((stp_of c138_4).trans rfl)
theorem c138_5 : cd 138 5 = some (5, .iload_n 1, 1, []) := by decide +kernel
theorem x138_5 {d : Nat} {a0 a2 : Value} {x : Int32} {h : AHp} : Rf d 138 5 [a0, .int x, a2] [] h = Rf d 138 6 [a0, .int x, a2] [.int x] h := Rf_go ((stp_of c138_5).trans rfl)
theorem c138_6 : cd 138 6 = some (6, .invokestatic 56, 3, [(0, 137)]) := by decide +kernel
theorem xc138_6 {d : Nat} {a0 a1 a2 : Value} {s0 : Int32} {h : AHp} {h1 : AHp} {v : Int32} (hq : Rf d 137 0 [.int s0] [] h = some (some (.int v), h1)) : Rf (d + 1) 138 6 [a0, a1, a2] [.int s0] h = Rf (d + 1) 138 9 [a0, a1, a2] [.int v] h1 := clS (as := [.int s0]) c138_6 rfl rfl (by simp [isV]) hq
theorem c138_9 : cd 138 9 = some (9, .ifCond .ne 5, 3, [(14, 0)]) := by decide +kernel
theorem x138_9 {d : Nat} {a0 a1 a2 : Value} {s0 : Int32} {h : AHp} : Rf d 138 9 [a0, a1, a2] [.int s0] h = if s0 = 0 then Rf d 138 12 [a0, a1, a2] [] h else Rf d 138 14 [a0, a1, a2] [] h := Rf_brn ((stp_of c138_9).trans rfl)
theorem c138_14 : cd 138 14 = some (14, .aload_n 0, 1, []) := by decide +kernel
theorem x138_14 {d : Nat} {a1 a2 : Value} {x : Nat} {h : AHp} : Rf d 138 14 [.ref x, a1, a2] [] h = Rf d 138 15 [.ref x, a1, a2] [.ref x] h := Rf_go ((stp_of c138_14).trans rfl)
theorem c138_15 : cd 138 15 = some (15, .dup, 1, []) := by decide +kernel
theorem x138_15 {d : Nat} {a0 a1 a2 : Value} {s0 : Nat} {h : AHp} : Rf d 138 15 [a0, a1, a2] [.ref s0] h = Rf d 138 16 [a0, a1, a2] [.ref s0, .ref s0] h := Rf_go ((stp_of c138_15).trans rfl)
theorem c138_16 : cd 138 16 = some (16, .getfield 35, 3, [(12, 3)]) := by decide +kernel
theorem x138_16 {d : Nat} {a0 a1 a2 : Value} {s0 : Nat} {s1 : Nat} {h : AHp} : Rf d 138 16 [a0, a1, a2] [.ref s0, .ref s1] h = if cls (h.1 s0) = 12 ∧ oKi (h.1 s0) 3 = true then Rf d 138 19 [a0, a1, a2] [.int (oN (h.1 s0) 3), .ref s1] h else Rx d 138 16 [a0, a1, a2] [.ref s0, .ref s1] h := getI c138_16
theorem c138_19 : cd 138 19 = some (19, .iconst 1, 1, []) := by decide +kernel
theorem x138_19 {d : Nat} {a0 a1 a2 : Value} {s0 : Int32} {s1 : Nat} {h : AHp} : Rf d 138 19 [a0, a1, a2] [.int s0, .ref s1] h = Rf d 138 20 [a0, a1, a2] [.int 1, .int s0, .ref s1] h := Rf_go ((stp_of c138_19).trans rfl)
theorem c138_20 : cd 138 20 = some (20, .iadd, 1, []) := by decide +kernel
theorem x138_20 {d : Nat} {a0 a1 a2 : Value} {s0 : Int32} {s1 : Int32} {s2 : Nat} {h : AHp} : Rf d 138 20 [a0, a1, a2] [.int s0, .int s1, .ref s2] h = Rf d 138 21 [a0, a1, a2] [.int (s1 + s0), .ref s2] h := Rf_go ((stp_of c138_20).trans rfl)
theorem c138_21 : cd 138 21 = some (21, .putfield 35, 3, [(12, 3)]) := by decide +kernel
theorem x138_21 {d : Nat} {a0 a1 a2 : Value} {s0 : Int32} {s1 : Nat} {h : AHp} : Rf d 138 21 [a0, a1, a2] [.int s0, .ref s1] h = if cls (h.1 s1) = 12 ∧ oL (h.1 s1) = 12 then Rf d 138 24 [a0, a1, a2] [] (hset h s1 (oSet (h.1 s1) 3 (.int s0))) else Rx d 138 21 [a0, a1, a2] [.int s0, .ref s1] h := putV c138_21 rfl (fMay_i (by decide +kernel))
theorem c138_24 : cd 138 24 = some (24, .iload_n 1, 1, []) := by decide +kernel
theorem x138_24 {d : Nat} {a0 a2 : Value} {x : Int32} {h : AHp} : Rf d 138 24 [a0, .int x, a2] [] h = Rf d 138 25 [a0, .int x, a2] [.int x] h := Rf_go ((stp_of c138_24).trans rfl)
theorem c138_25 : cd 138 25 = some (25, .bipush 48, 2, []) := by decide +kernel
theorem x138_25 {d : Nat} {a0 a1 a2 : Value} {s0 : Int32} {h : AHp} : Rf d 138 25 [a0, a1, a2] [.int s0] h = Rf d 138 27 [a0, a1, a2] [.int 48, .int s0] h := Rf_go ((stp_of c138_25).trans rfl)
theorem c138_27 : cd 138 27 = some (27, .if_icmp .eq 13, 3, [(40, 0)]) := by decide +kernel
theorem x138_27 {d : Nat} {a0 a1 a2 : Value} {s0 : Int32} {s1 : Int32} {h : AHp} : Rf d 138 27 [a0, a1, a2] [.int s0, .int s1] h = if s1 = s0 then Rf d 138 40 [a0, a1, a2] [] h else Rf d 138 30 [a0, a1, a2] [] h := Rf_brd ((stp_of c138_27).trans rfl)
theorem c138_40 : cd 138 40 = some (40, .iload_n 1, 1, []) := by decide +kernel
theorem x138_40 {d : Nat} {a0 a2 : Value} {x : Int32} {h : AHp} : Rf d 138 40 [a0, .int x, a2] [] h = Rf d 138 41 [a0, .int x, a2] [.int x] h := Rf_go ((stp_of c138_40).trans rfl)
theorem c138_41 : cd 138 41 = some (41, .bipush 48, 2, []) := by decide +kernel
theorem x138_41 {d : Nat} {a0 a1 a2 : Value} {s0 : Int32} {h : AHp} : Rf d 138 41 [a0, a1, a2] [.int s0] h = Rf d 138 43 [a0, a1, a2] [.int 48, .int s0] h := Rf_go ((stp_of c138_41).trans rfl)
theorem c138_43 : cd 138 43 = some (43, .isub, 1, []) := by decide +kernel
theorem x138_43 {d : Nat} {a0 a1 a2 : Value} {s0 : Int32} {s1 : Int32} {h : AHp} : Rf d 138 43 [a0, a1, a2] [.int s0, .int s1] h = Rf d 138 44 [a0, a1, a2] [.int (s1 - s0)] h := Rf_go ((stp_of c138_43).trans rfl)
theorem c138_44 : cd 138 44 = some (44, .ireturn, 1, []) := by decide +kernel
theorem x138_44 {d : Nat} {a0 a1 a2 : Value} {s0 : Int32} {h : AHp} : Rf d 138 44 [a0, a1, a2] [.int s0] h = some (some (.int s0), h) := Rf_end (by rw [stp_of c138_44]; simp only [stpI]; rw [if_pos (show retI (mH 138).2.2.1 s0 = true from retI_int)])
theorem c138_30 : cd 138 30 = some (30, .aload_n 0, 1, []) := by decide +kernel
theorem x138_30 {d : Nat} {a1 a2 : Value} {x : Nat} {h : AHp} : Rf d 138 30 [.ref x, a1, a2] [] h = Rf d 138 31 [.ref x, a1, a2] [.ref x] h := Rf_go ((stp_of c138_30).trans rfl)
theorem c138_31 : cd 138 31 = some (31, .invokevirtual 39, 3, [(12, 134)]) := by decide +kernel
theorem xc138_31 {d : Nat} {a0 a1 a2 : Value} {s0 : Nat} {h : AHp} {h1 : AHp} {v : Int32} (hr : cls (h.1 s0) = 12) (hq : Rf d 134 0 [.ref s0] [] h = some (some (.int v), h1)) : Rf (d + 1) 138 31 [a0, a1, a2] [.ref s0] h = Rf (d + 1) 138 34 [a0, a1, a2] [.int v] h1 := clV (c := 134) (as := []) c138_31 rfl (by simp [isV]) (by rw [hr]; rfl) hq
theorem c138_34 : cd 138 34 = some (34, .invokestatic 56, 3, [(0, 137)]) := by decide +kernel
theorem xc138_34 {d : Nat} {a0 a1 a2 : Value} {s0 : Int32} {h : AHp} {h1 : AHp} {v : Int32} (hq : Rf d 137 0 [.int s0] [] h = some (some (.int v), h1)) : Rf (d + 1) 138 34 [a0, a1, a2] [.int s0] h = Rf (d + 1) 138 37 [a0, a1, a2] [.int v] h1 := clS (as := [.int s0]) c138_34 rfl rfl (by simp [isV]) hq
theorem c138_37 : cd 138 37 = some (37, .ifCond .ne 8, 3, [(45, 0)]) := by decide +kernel
theorem x138_37 {d : Nat} {a0 a1 a2 : Value} {s0 : Int32} {h : AHp} : Rf d 138 37 [a0, a1, a2] [.int s0] h = if s0 = 0 then Rf d 138 40 [a0, a1, a2] [] h else Rf d 138 45 [a0, a1, a2] [] h := Rf_brn ((stp_of c138_37).trans rfl)
theorem c138_45 : cd 138 45 = some (45, .aload_n 0, 1, []) := by decide +kernel
theorem x138_45 {d : Nat} {a1 a2 : Value} {x : Nat} {h : AHp} : Rf d 138 45 [.ref x, a1, a2] [] h = Rf d 138 46 [.ref x, a1, a2] [.ref x] h := Rf_go ((stp_of c138_45).trans rfl)
theorem c138_46 : cd 138 46 = some (46, .invokevirtual 39, 3, [(12, 134)]) := by decide +kernel
theorem xc138_46 {d : Nat} {a0 a1 a2 : Value} {s0 : Nat} {h : AHp} {h1 : AHp} {v : Int32} (hr : cls (h.1 s0) = 12) (hq : Rf d 134 0 [.ref s0] [] h = some (some (.int v), h1)) : Rf (d + 1) 138 46 [a0, a1, a2] [.ref s0] h = Rf (d + 1) 138 49 [a0, a1, a2] [.int v] h1 := clV (c := 134) (as := []) c138_46 rfl (by simp [isV]) (by rw [hr]; rfl) hq
theorem c138_49 : cd 138 49 = some (49, .istore_n 2, 1, []) := by decide +kernel
theorem x138_49 {d : Nat} {a0 a1 a2 : Value} {s0 : Int32} {h : AHp} : Rf d 138 49 [a0, a1, a2] [.int s0] h = Rf d 138 50 [a0, a1, .int s0] [] h := Rf_go ((stp_of c138_49).trans rfl)
theorem c138_50 : cd 138 50 = some (50, .aload_n 0, 1, []) := by decide +kernel
theorem x138_50 {d : Nat} {a1 a2 : Value} {x : Nat} {h : AHp} : Rf d 138 50 [.ref x, a1, a2] [] h = Rf d 138 51 [.ref x, a1, a2] [.ref x] h := Rf_go ((stp_of c138_50).trans rfl)
theorem c138_51 : cd 138 51 = some (51, .dup, 1, []) := by decide +kernel
theorem x138_51 {d : Nat} {a0 a1 a2 : Value} {s0 : Nat} {h : AHp} : Rf d 138 51 [a0, a1, a2] [.ref s0] h = Rf d 138 52 [a0, a1, a2] [.ref s0, .ref s0] h := Rf_go ((stp_of c138_51).trans rfl)
theorem c138_52 : cd 138 52 = some (52, .getfield 35, 3, [(12, 3)]) := by decide +kernel
theorem x138_52 {d : Nat} {a0 a1 a2 : Value} {s0 : Nat} {s1 : Nat} {h : AHp} : Rf d 138 52 [a0, a1, a2] [.ref s0, .ref s1] h = if cls (h.1 s0) = 12 ∧ oKi (h.1 s0) 3 = true then Rf d 138 55 [a0, a1, a2] [.int (oN (h.1 s0) 3), .ref s1] h else Rx d 138 52 [a0, a1, a2] [.ref s0, .ref s1] h := getI c138_52
theorem c138_55 : cd 138 55 = some (55, .iconst 1, 1, []) := by decide +kernel
theorem x138_55 {d : Nat} {a0 a1 a2 : Value} {s0 : Int32} {s1 : Nat} {h : AHp} : Rf d 138 55 [a0, a1, a2] [.int s0, .ref s1] h = Rf d 138 56 [a0, a1, a2] [.int 1, .int s0, .ref s1] h := Rf_go ((stp_of c138_55).trans rfl)
theorem c138_56 : cd 138 56 = some (56, .iadd, 1, []) := by decide +kernel
theorem x138_56 {d : Nat} {a0 a1 a2 : Value} {s0 : Int32} {s1 : Int32} {s2 : Nat} {h : AHp} : Rf d 138 56 [a0, a1, a2] [.int s0, .int s1, .ref s2] h = Rf d 138 57 [a0, a1, a2] [.int (s1 + s0), .ref s2] h := Rf_go ((stp_of c138_56).trans rfl)
theorem c138_57 : cd 138 57 = some (57, .putfield 35, 3, [(12, 3)]) := by decide +kernel
theorem x138_57 {d : Nat} {a0 a1 a2 : Value} {s0 : Int32} {s1 : Nat} {h : AHp} : Rf d 138 57 [a0, a1, a2] [.int s0, .ref s1] h = if cls (h.1 s1) = 12 ∧ oL (h.1 s1) = 12 then Rf d 138 60 [a0, a1, a2] [] (hset h s1 (oSet (h.1 s1) 3 (.int s0))) else Rx d 138 57 [a0, a1, a2] [.int s0, .ref s1] h := putV c138_57 rfl (fMay_i (by decide +kernel))
theorem c138_60 : cd 138 60 = some (60, .bipush 10, 2, []) := by decide +kernel
theorem x138_60 {d : Nat} {a0 a1 a2 : Value} {h : AHp} : Rf d 138 60 [a0, a1, a2] [] h = Rf d 138 62 [a0, a1, a2] [.int 10] h := Rf_go ((stp_of c138_60).trans rfl)
theorem c138_62 : cd 138 62 = some (62, .iload_n 1, 1, []) := by decide +kernel
theorem x138_62 {d : Nat} {a0 a2 : Value} {s0 : Int32} {x : Int32} {h : AHp} : Rf d 138 62 [a0, .int x, a2] [.int s0] h = Rf d 138 63 [a0, .int x, a2] [.int x, .int s0] h := Rf_go ((stp_of c138_62).trans rfl)
theorem c138_63 : cd 138 63 = some (63, .bipush 48, 2, []) := by decide +kernel
theorem x138_63 {d : Nat} {a0 a1 a2 : Value} {s0 : Int32} {s1 : Int32} {h : AHp} : Rf d 138 63 [a0, a1, a2] [.int s0, .int s1] h = Rf d 138 65 [a0, a1, a2] [.int 48, .int s0, .int s1] h := Rf_go ((stp_of c138_63).trans rfl)
theorem c138_65 : cd 138 65 = some (65, .isub, 1, []) := by decide +kernel
theorem x138_65 {d : Nat} {a0 a1 a2 : Value} {s0 : Int32} {s1 : Int32} {s2 : Int32} {h : AHp} : Rf d 138 65 [a0, a1, a2] [.int s0, .int s1, .int s2] h = Rf d 138 66 [a0, a1, a2] [.int (s1 - s0), .int s2] h := Rf_go ((stp_of c138_65).trans rfl)
theorem c138_66 : cd 138 66 = some (66, .imul, 1, []) := by decide +kernel
theorem x138_66 {d : Nat} {a0 a1 a2 : Value} {s0 : Int32} {s1 : Int32} {h : AHp} : Rf d 138 66 [a0, a1, a2] [.int s0, .int s1] h = Rf d 138 67 [a0, a1, a2] [.int (s1 * s0)] h := Rf_go ((stp_of c138_66).trans rfl)
theorem c138_67 : cd 138 67 = some (67, .iload_n 2, 1, []) := by decide +kernel
theorem x138_67 {d : Nat} {a0 a1 : Value} {s0 : Int32} {x : Int32} {h : AHp} : Rf d 138 67 [a0, a1, .int x] [.int s0] h = Rf d 138 68 [a0, a1, .int x] [.int x, .int s0] h := Rf_go ((stp_of c138_67).trans rfl)
theorem c138_68 : cd 138 68 = some (68, .iadd, 1, []) := by decide +kernel
theorem x138_68 {d : Nat} {a0 a1 a2 : Value} {s0 : Int32} {s1 : Int32} {h : AHp} : Rf d 138 68 [a0, a1, a2] [.int s0, .int s1] h = Rf d 138 69 [a0, a1, a2] [.int (s1 + s0)] h := Rf_go ((stp_of c138_68).trans rfl)
theorem c138_69 : cd 138 69 = some (69, .bipush 48, 2, []) := by decide +kernel
theorem x138_69 {d : Nat} {a0 a1 a2 : Value} {s0 : Int32} {h : AHp} : Rf d 138 69 [a0, a1, a2] [.int s0] h = Rf d 138 71 [a0, a1, a2] [.int 48, .int s0] h := Rf_go ((stp_of c138_69).trans rfl)
theorem c138_71 : cd 138 71 = some (71, .isub, 1, []) := by decide +kernel
theorem x138_71 {d : Nat} {a0 a1 a2 : Value} {s0 : Int32} {s1 : Int32} {h : AHp} : Rf d 138 71 [a0, a1, a2] [.int s0, .int s1] h = Rf d 138 72 [a0, a1, a2] [.int (s1 - s0)] h := Rf_go ((stp_of c138_71).trans rfl)
theorem c138_72 : cd 138 72 = some (72, .ireturn, 1, []) := by decide +kernel
theorem x138_72 {d : Nat} {a0 a1 a2 : Value} {s0 : Int32} {h : AHp} : Rf d 138 72 [a0, a1, a2] [.int s0] h = some (some (.int s0), h) := Rf_end (by rw [stp_of c138_72]; simp only [stpI]; rw [if_pos (show retI (mH 138).2.2.1 s0 = true from retI_int)])
theorem c138_12 : cd 138 12 = some (12, .iconst (-1), 1, []) := by decide +kernel
theorem x138_12 {d : Nat} {a0 a1 a2 : Value} {h : AHp} : Rf d 138 12 [a0, a1, a2] [] h = Rf d 138 13 [a0, a1, a2] [.int (-1)] h := Rf_go ((stp_of c138_12).trans rfl)
theorem c138_13 : cd 138 13 = some (13, .ireturn, 1, []) := by decide +kernel
theorem x138_13 {d : Nat} {a0 a1 a2 : Value} {s0 : Int32} {h : AHp} : Rf d 138 13 [a0, a1, a2] [.int s0] h = some (some (.int s0), h) := Rf_end (by rw [stp_of c138_13]; simp only [stpI]; rw [if_pos (show retI (mH 138).2.2.1 s0 = true from retI_int)])
-- 139: X12_put
theorem c139_0 : cd 139 0 = some (0, .aload_n 0, 1, []) := by decide +kernel
theorem x139_0 {d : Nat} {a1 : Value} {x : Nat} {h : AHp} : Rf d 139 0 [.ref x, a1] [] h = Rf d 139 1 [.ref x, a1] [.ref x] h := Rf_go ((stp_of c139_0).trans rfl)
theorem c139_1 : cd 139 1 = some (1, .getfield 9, 3, [(12, 0)]) := by decide +kernel
theorem x139_1 {d : Nat} {a0 a1 : Value} {s0 : Nat} {h : AHp} : Rf d 139 1 [a0, a1] [.ref s0] h = if cls (h.1 s0) = 12 ∧ oKr (h.1 s0) 0 = true then Rf d 139 4 [a0, a1] [.ref (oR (h.1 s0) 0)] h else Rx d 139 1 [a0, a1] [.ref s0] h := getR c139_1
theorem c139_4 : cd 139 4 = some (4, .sipush 431, 3, []) := by decide +kernel
theorem x139_4 {d : Nat} {a0 a1 : Value} {s0 : Nat} {h : AHp} : Rf d 139 4 [a0, a1] [.ref s0] h = Rf d 139 7 [a0, a1] [.int 431, .ref s0] h := Rf_go ((stp_of c139_4).trans rfl)
theorem c139_7 : cd 139 7 = some (7, .bipush 100, 2, []) := by decide +kernel
theorem x139_7 {d : Nat} {a0 a1 : Value} {s0 : Int32} {s1 : Nat} {h : AHp} : Rf d 139 7 [a0, a1] [.int s0, .ref s1] h = Rf d 139 9 [a0, a1] [.int 100, .int s0, .ref s1] h := Rf_go ((stp_of c139_7).trans rfl)
theorem c139_9 : cd 139 9 = some (9, .aload_n 0, 1, []) := by decide +kernel
theorem x139_9 {d : Nat} {a1 : Value} {s0 : Int32} {s1 : Int32} {s2 : Nat} {x : Nat} {h : AHp} : Rf d 139 9 [.ref x, a1] [.int s0, .int s1, .ref s2] h = Rf d 139 10 [.ref x, a1] [.ref x, .int s0, .int s1, .ref s2] h := Rf_go ((stp_of c139_9).trans rfl)
theorem c139_10 : cd 139 10 = some (10, .getfield 9, 3, [(12, 0)]) := by decide +kernel
theorem x139_10 {d : Nat} {a0 a1 : Value} {s0 : Nat} {s1 : Int32} {s2 : Int32} {s3 : Nat} {h : AHp} : Rf d 139 10 [a0, a1] [.ref s0, .int s1, .int s2, .ref s3] h = if cls (h.1 s0) = 12 ∧ oKr (h.1 s0) 0 = true then Rf d 139 13 [a0, a1] [.ref (oR (h.1 s0) 0), .int s1, .int s2, .ref s3] h else Rx d 139 10 [a0, a1] [.ref s0, .int s1, .int s2, .ref s3] h := getR c139_10
theorem c139_13 : cd 139 13 = some (13, .iconst 1, 1, []) := by decide +kernel
theorem x139_13 {d : Nat} {a0 a1 : Value} {s0 : Nat} {s1 : Int32} {s2 : Int32} {s3 : Nat} {h : AHp} : Rf d 139 13 [a0, a1] [.ref s0, .int s1, .int s2, .ref s3] h = Rf d 139 14 [a0, a1] [.int 1, .ref s0, .int s1, .int s2, .ref s3] h := Rf_go ((stp_of c139_13).trans rfl)
theorem c139_14 : cd 139 14 = some (14, .iaload, 1, []) := by decide +kernel
theorem x139_14 {d : Nat} {a0 a1 : Value} {s0 : Int32} {s1 : Nat} {s2 : Int32} {s3 : Int32} {s4 : Nat} {h : AHp} : Rf d 139 14 [a0, a1] [.int s0, .ref s1, .int s2, .int s3, .ref s4] h = if (aT (h.1 s1) = 0 ∨ aT (h.1 s1) = 10) ∧ inB s0 (aN (h.1 s1)) = true then Rf d 139 15 [a0, a1] [.int (aF (h.1 s1) s0.toNatClampNeg), .int s2, .int s3, .ref s4] h else Rx d 139 14 [a0, a1] [.int s0, .ref s1, .int s2, .int s3, .ref s4] h := ldI c139_14
theorem c139_15 : cd 139 15 = some (15, .imul, 1, []) := by decide +kernel
theorem x139_15 {d : Nat} {a0 a1 : Value} {s0 : Int32} {s1 : Int32} {s2 : Int32} {s3 : Nat} {h : AHp} : Rf d 139 15 [a0, a1] [.int s0, .int s1, .int s2, .ref s3] h = Rf d 139 16 [a0, a1] [.int (s1 * s0), .int s2, .ref s3] h := Rf_go ((stp_of c139_15).trans rfl)
theorem c139_16 : cd 139 16 = some (16, .iadd, 1, []) := by decide +kernel
theorem x139_16 {d : Nat} {a0 a1 : Value} {s0 : Int32} {s1 : Int32} {s2 : Nat} {h : AHp} : Rf d 139 16 [a0, a1] [.int s0, .int s1, .ref s2] h = Rf d 139 17 [a0, a1] [.int (s1 + s0), .ref s2] h := Rf_go ((stp_of c139_16).trans rfl)
theorem c139_17 : cd 139 17 = some (17, .aload_n 0, 1, []) := by decide +kernel
theorem x139_17 {d : Nat} {a1 : Value} {s0 : Int32} {s1 : Nat} {x : Nat} {h : AHp} : Rf d 139 17 [.ref x, a1] [.int s0, .ref s1] h = Rf d 139 18 [.ref x, a1] [.ref x, .int s0, .ref s1] h := Rf_go ((stp_of c139_17).trans rfl)
theorem c139_18 : cd 139 18 = some (18, .dup, 1, []) := by decide +kernel
theorem x139_18 {d : Nat} {a0 a1 : Value} {s0 : Nat} {s1 : Int32} {s2 : Nat} {h : AHp} : Rf d 139 18 [a0, a1] [.ref s0, .int s1, .ref s2] h = Rf d 139 19 [a0, a1] [.ref s0, .ref s0, .int s1, .ref s2] h := Rf_go ((stp_of c139_18).trans rfl)
theorem c139_19 : cd 139 19 = some (19, .getfield 60, 3, [(12, 5)]) := by decide +kernel
theorem x139_19 {d : Nat} {a0 a1 : Value} {s0 : Nat} {s1 : Nat} {s2 : Int32} {s3 : Nat} {h : AHp} : Rf d 139 19 [a0, a1] [.ref s0, .ref s1, .int s2, .ref s3] h = if cls (h.1 s0) = 12 ∧ oKi (h.1 s0) 5 = true then Rf d 139 22 [a0, a1] [.int (oN (h.1 s0) 5), .ref s1, .int s2, .ref s3] h else Rx d 139 19 [a0, a1] [.ref s0, .ref s1, .int s2, .ref s3] h := getI c139_19
theorem c139_22 : cd 139 22 = some (22, .dup_x1, 1, []) := by decide +kernel
theorem x139_22 {d : Nat} {a0 a1 : Value} {s0 : Int32} {s1 : Nat} {s2 : Int32} {s3 : Nat} {h : AHp} : Rf d 139 22 [a0, a1] [.int s0, .ref s1, .int s2, .ref s3] h = Rf d 139 23 [a0, a1] [.int s0, .ref s1, .int s0, .int s2, .ref s3] h := Rf_go ((stp_of c139_22).trans rfl)
theorem c139_23 : cd 139 23 = some (23, .iconst 1, 1, []) := by decide +kernel
theorem x139_23 {d : Nat} {a0 a1 : Value} {s0 : Int32} {s1 : Nat} {s2 : Int32} {s3 : Int32} {s4 : Nat} {h : AHp} : Rf d 139 23 [a0, a1] [.int s0, .ref s1, .int s2, .int s3, .ref s4] h = Rf d 139 24 [a0, a1] [.int 1, .int s0, .ref s1, .int s2, .int s3, .ref s4] h := Rf_go ((stp_of c139_23).trans rfl)
theorem c139_24 : cd 139 24 = some (24, .iadd, 1, []) := by decide +kernel
theorem x139_24 {d : Nat} {a0 a1 : Value} {s0 : Int32} {s1 : Int32} {s2 : Nat} {s3 : Int32} {s4 : Int32} {s5 : Nat} {h : AHp} : Rf d 139 24 [a0, a1] [.int s0, .int s1, .ref s2, .int s3, .int s4, .ref s5] h = Rf d 139 25 [a0, a1] [.int (s1 + s0), .ref s2, .int s3, .int s4, .ref s5] h := Rf_go ((stp_of c139_24).trans rfl)
theorem c139_25 : cd 139 25 = some (25, .putfield 60, 3, [(12, 5)]) := by decide +kernel
theorem x139_25 {d : Nat} {a0 a1 : Value} {s0 : Int32} {s1 : Nat} {s2 : Int32} {s3 : Int32} {s4 : Nat} {h : AHp} : Rf d 139 25 [a0, a1] [.int s0, .ref s1, .int s2, .int s3, .ref s4] h = if cls (h.1 s1) = 12 ∧ oL (h.1 s1) = 12 then Rf d 139 28 [a0, a1] [.int s2, .int s3, .ref s4] (hset h s1 (oSet (h.1 s1) 5 (.int s0))) else Rx d 139 25 [a0, a1] [.int s0, .ref s1, .int s2, .int s3, .ref s4] h := putV c139_25 rfl (fMay_i (by decide +kernel))
theorem c139_28 : cd 139 28 = some (28, .iadd, 1, []) := by decide +kernel
theorem x139_28 {d : Nat} {a0 a1 : Value} {s0 : Int32} {s1 : Int32} {s2 : Nat} {h : AHp} : Rf d 139 28 [a0, a1] [.int s0, .int s1, .ref s2] h = Rf d 139 29 [a0, a1] [.int (s1 + s0), .ref s2] h := Rf_go ((stp_of c139_28).trans rfl)
theorem c139_29 : cd 139 29 = some (29, .iload_n 1, 1, []) := by decide +kernel
theorem x139_29 {d : Nat} {a0 : Value} {s0 : Int32} {s1 : Nat} {x : Int32} {h : AHp} : Rf d 139 29 [a0, .int x] [.int s0, .ref s1] h = Rf d 139 30 [a0, .int x] [.int x, .int s0, .ref s1] h := Rf_go ((stp_of c139_29).trans rfl)
theorem c139_30 : cd 139 30 = some (30, .iastore, 1, []) := by decide +kernel
theorem x139_30 {d : Nat} {a0 a1 : Value} {s0 : Int32} {s1 : Int32} {s2 : Nat} {h : AHp} : Rf d 139 30 [a0, a1] [.int s0, .int s1, .ref s2] h = if aT (h.1 s2) = 0 ∧ inB s1 (aN (h.1 s2)) = true then Rf d 139 31 [a0, a1] [] (hset h s2 (.inl (0, aN (h.1 s2), .inl (upd (aF (h.1 s2)) s1.toNatClampNeg s0)))) else Rx d 139 30 [a0, a1] [.int s0, .int s1, .ref s2] h := stI c139_30
theorem c139_31 : cd 139 31 = some (31, .return_, 1, []) := by decide +kernel
theorem x139_31 {d : Nat} {a0 a1 : Value} {h : AHp} : Rf d 139 31 [a0, a1] [] h = some (none, h) := Rf_end (endV c139_31 (by decide +kernel))
-- 140: X12_any
theorem c140_0 : cd 140 0 = some (0, .aload_n 0, 1, []) := by decide +kernel
theorem x140_0 {d : Nat} {x : Nat} {h : AHp} : Rf d 140 0 [.ref x] [] h = Rf d 140 1 [.ref x] [.ref x] h := Rf_go ((stp_of c140_0).trans rfl)
theorem c140_1 : cd 140 1 = some (1, .invokevirtual 63, 3, [(12, 141)]) := by decide +kernel
theorem xc140_1 {d : Nat} {a0 : Value} {s0 : Nat} {h : AHp} {h1 : AHp} {v : Int32} (hr : cls (h.1 s0) = 12) (hq : Rf d 141 0 [.ref s0] [] h = some (some (.int v), h1)) : Rf (d + 1) 140 1 [a0] [.ref s0] h = Rf (d + 1) 140 4 [a0] [.int v] h1 := clV (c := 141) (as := []) c140_1 rfl (by simp [isV]) (by rw [hr]; rfl) hq
theorem c140_4 : cd 140 4 = some (4, .ifCond .ne 5, 3, [(9, 0)]) := by decide +kernel
theorem x140_4 {d : Nat} {a0 : Value} {s0 : Int32} {h : AHp} : Rf d 140 4 [a0] [.int s0] h = if s0 = 0 then Rf d 140 7 [a0] [] h else Rf d 140 9 [a0] [] h := Rf_brn ((stp_of c140_4).trans rfl)
theorem c140_9 : cd 140 9 = some (9, .aload_n 0, 1, []) := by decide +kernel
theorem x140_9 {d : Nat} {x : Nat} {h : AHp} : Rf d 140 9 [.ref x] [] h = Rf d 140 10 [.ref x] [.ref x] h := Rf_go ((stp_of c140_9).trans rfl)
theorem c140_10 : cd 140 10 = some (10, .bipush 124, 2, []) := by decide +kernel
theorem x140_10 {d : Nat} {a0 : Value} {s0 : Nat} {h : AHp} : Rf d 140 10 [a0] [.ref s0] h = Rf d 140 12 [a0] [.int 124, .ref s0] h := Rf_go ((stp_of c140_10).trans rfl)
theorem c140_12 : cd 140 12 = some (12, .invokevirtual 52, 3, [(12, 135)]) := by decide +kernel
theorem xc140_12 {d : Nat} {a0 : Value} {s0 : Int32} {s1 : Nat} {h : AHp} {h1 : AHp} {v : Int32} (hr : cls (h.1 s1) = 12) (hq : Rf d 135 0 [.ref s1, .int s0] [] h = some (some (.int v), h1)) : Rf (d + 1) 140 12 [a0] [.int s0, .ref s1] h = Rf (d + 1) 140 15 [a0] [.int v] h1 := clV (c := 135) (as := [.int s0]) c140_12 rfl (by simp [isV]) (by rw [hr]; rfl) hq
theorem c140_15 : cd 140 15 = some (15, .ifCond .eq 20, 3, [(35, 0)]) := by decide +kernel
theorem x140_15 {d : Nat} {a0 : Value} {s0 : Int32} {h : AHp} : Rf d 140 15 [a0] [.int s0] h = if s0 = 0 then Rf d 140 35 [a0] [] h else Rf d 140 18 [a0] [] h := Rf_brd ((stp_of c140_15).trans rfl)
theorem c140_35 : cd 140 35 = some (35, .iconst 1, 1, []) := by decide +kernel
theorem x140_35 {d : Nat} {a0 : Value} {h : AHp} : Rf d 140 35 [a0] [] h = Rf d 140 36 [a0] [.int 1] h := Rf_go ((stp_of c140_35).trans rfl)
theorem c140_36 : cd 140 36 = some (36, .ireturn, 1, []) := by decide +kernel
theorem x140_36 {d : Nat} {a0 : Value} {s0 : Int32} {h : AHp} : Rf d 140 36 [a0] [.int s0] h = if retI (some .boolean) s0 = true then some (some (.int s0), h) else Rx d 140 36 [a0] [.int s0] h := Rf_ife (fun hk => by rw [stp_of c140_36]; exact if_pos hk)
theorem c140_18 : cd 140 18 = some (18, .aload_n 0, 1, []) := by decide +kernel
theorem x140_18 {d : Nat} {x : Nat} {h : AHp} : Rf d 140 18 [.ref x] [] h = Rf d 140 19 [.ref x] [.ref x] h := Rf_go ((stp_of c140_18).trans rfl)
theorem c140_19 : cd 140 19 = some (19, .invokevirtual 63, 3, [(12, 141)]) := by decide +kernel
theorem xc140_19 {d : Nat} {a0 : Value} {s0 : Nat} {h : AHp} {h1 : AHp} {v : Int32} (hr : cls (h.1 s0) = 12) (hq : Rf d 141 0 [.ref s0] [] h = some (some (.int v), h1)) : Rf (d + 1) 140 19 [a0] [.ref s0] h = Rf (d + 1) 140 22 [a0] [.int v] h1 := clV (c := 141) (as := []) c140_19 rfl (by simp [isV]) (by rw [hr]; rfl) hq
theorem c140_22 : cd 140 22 = some (22, .ifCond .ne 5, 3, [(27, 0)]) := by decide +kernel
theorem x140_22 {d : Nat} {a0 : Value} {s0 : Int32} {h : AHp} : Rf d 140 22 [a0] [.int s0] h = if s0 = 0 then Rf d 140 25 [a0] [] h else Rf d 140 27 [a0] [] h := Rf_brn ((stp_of c140_22).trans rfl)
theorem c140_27 : cd 140 27 = some (27, .aload_n 0, 1, []) := by decide +kernel
theorem x140_27 {d : Nat} {x : Nat} {h : AHp} : Rf d 140 27 [.ref x] [] h = Rf d 140 28 [.ref x] [.ref x] h := Rf_go ((stp_of c140_27).trans rfl)
theorem c140_28 : cd 140 28 = some (28, .iconst (-1), 1, []) := by decide +kernel
theorem x140_28 {d : Nat} {a0 : Value} {s0 : Nat} {h : AHp} : Rf d 140 28 [a0] [.ref s0] h = Rf d 140 29 [a0] [.int (-1), .ref s0] h := Rf_go ((stp_of c140_28).trans rfl)
theorem c140_29 : cd 140 29 = some (29, .invokevirtual 67, 3, [(12, 139)]) := by decide +kernel
theorem xc140_29 {d : Nat} {a0 : Value} {s0 : Int32} {s1 : Nat} {h : AHp} {h1 : AHp} (hr : cls (h.1 s1) = 12) (hq : Rf d 139 0 [.ref s1, .int s0] [] h = some (none, h1)) : Rf (d + 1) 140 29 [a0] [.int s0, .ref s1] h = Rf (d + 1) 140 32 [a0] [] h1 := clV (c := 139) (as := [.int s0]) c140_29 rfl (by simp [isV]) (by rw [hr]; rfl) hq
theorem c140_32 : cd 140 32 = some (32, .goto (-23), 3, [(9, 0)]) := by decide +kernel
theorem x140_32 {d : Nat} {a0 : Value} {h : AHp} : Rf d 140 32 [a0] [] h = Rf d 140 9 [a0] [] h := Rf_go ((stp_of c140_32).trans rfl)
theorem c140_25 : cd 140 25 = some (25, .iconst 0, 1, []) := by decide +kernel
theorem x140_25 {d : Nat} {a0 : Value} {h : AHp} : Rf d 140 25 [a0] [] h = Rf d 140 26 [a0] [.int 0] h := Rf_go ((stp_of c140_25).trans rfl)
theorem c140_26 : cd 140 26 = some (26, .ireturn, 1, []) := by decide +kernel
theorem x140_26 {d : Nat} {a0 : Value} {s0 : Int32} {h : AHp} : Rf d 140 26 [a0] [.int s0] h = if retI (some .boolean) s0 = true then some (some (.int s0), h) else Rx d 140 26 [a0] [.int s0] h := Rf_ife (fun hk => by rw [stp_of c140_26]; exact if_pos hk)
theorem c140_7 : cd 140 7 = some (7, .iconst 0, 1, []) := by decide +kernel
theorem x140_7 {d : Nat} {a0 : Value} {h : AHp} : Rf d 140 7 [a0] [] h = Rf d 140 8 [a0] [.int 0] h := Rf_go ((stp_of c140_7).trans rfl)
theorem c140_8 : cd 140 8 = some (8, .ireturn, 1, []) := by decide +kernel
theorem x140_8 {d : Nat} {a0 : Value} {s0 : Int32} {h : AHp} : Rf d 140 8 [a0] [.int s0] h = if retI (some .boolean) s0 = true then some (some (.int s0), h) else Rx d 140 8 [a0] [.int s0] h := Rf_ife (fun hk => by rw [stp_of c140_8]; exact if_pos hk)
-- 141: X12_both
theorem c141_0 : cd 141 0 = some (0, .aload_n 0, 1, []) := by decide +kernel
theorem x141_0 {d : Nat} {x : Nat} {h : AHp} : Rf d 141 0 [.ref x] [] h = Rf d 141 1 [.ref x] [.ref x] h := Rf_go ((stp_of c141_0).trans rfl)
theorem c141_1 : cd 141 1 = some (1, .invokevirtual 71, 3, [(12, 142)]) := by decide +kernel
theorem xc141_1 {d : Nat} {a0 : Value} {s0 : Nat} {h : AHp} {h1 : AHp} {v : Int32} (hr : cls (h.1 s0) = 12) (hq : Rf d 142 0 [.ref s0, noV, noV, noV, noV] [] h = some (some (.int v), h1)) : Rf (d + 1) 141 1 [a0] [.ref s0] h = Rf (d + 1) 141 4 [a0] [.int v] h1 := clV (c := 142) (as := []) c141_1 rfl (by simp [isV]) (by rw [hr]; rfl) hq
theorem c141_4 : cd 141 4 = some (4, .ifCond .ne 5, 3, [(9, 0)]) := by decide +kernel
theorem x141_4 {d : Nat} {a0 : Value} {s0 : Int32} {h : AHp} : Rf d 141 4 [a0] [.int s0] h = if s0 = 0 then Rf d 141 7 [a0] [] h else Rf d 141 9 [a0] [] h := Rf_brn ((stp_of c141_4).trans rfl)
theorem c141_9 : cd 141 9 = some (9, .aload_n 0, 1, []) := by decide +kernel
theorem x141_9 {d : Nat} {x : Nat} {h : AHp} : Rf d 141 9 [.ref x] [] h = Rf d 141 10 [.ref x] [.ref x] h := Rf_go ((stp_of c141_9).trans rfl)
theorem c141_10 : cd 141 10 = some (10, .bipush 38, 2, []) := by decide +kernel
theorem x141_10 {d : Nat} {a0 : Value} {s0 : Nat} {h : AHp} : Rf d 141 10 [a0] [.ref s0] h = Rf d 141 12 [a0] [.int 38, .ref s0] h := Rf_go ((stp_of c141_10).trans rfl)
theorem c141_12 : cd 141 12 = some (12, .invokevirtual 52, 3, [(12, 135)]) := by decide +kernel
theorem xc141_12 {d : Nat} {a0 : Value} {s0 : Int32} {s1 : Nat} {h : AHp} {h1 : AHp} {v : Int32} (hr : cls (h.1 s1) = 12) (hq : Rf d 135 0 [.ref s1, .int s0] [] h = some (some (.int v), h1)) : Rf (d + 1) 141 12 [a0] [.int s0, .ref s1] h = Rf (d + 1) 141 15 [a0] [.int v] h1 := clV (c := 135) (as := [.int s0]) c141_12 rfl (by simp [isV]) (by rw [hr]; rfl) hq
theorem c141_15 : cd 141 15 = some (15, .ifCond .eq 21, 3, [(36, 0)]) := by decide +kernel
theorem x141_15 {d : Nat} {a0 : Value} {s0 : Int32} {h : AHp} : Rf d 141 15 [a0] [.int s0] h = if s0 = 0 then Rf d 141 36 [a0] [] h else Rf d 141 18 [a0] [] h := Rf_brd ((stp_of c141_15).trans rfl)
theorem c141_36 : cd 141 36 = some (36, .iconst 1, 1, []) := by decide +kernel
theorem x141_36 {d : Nat} {a0 : Value} {h : AHp} : Rf d 141 36 [a0] [] h = Rf d 141 37 [a0] [.int 1] h := Rf_go ((stp_of c141_36).trans rfl)
theorem c141_37 : cd 141 37 = some (37, .ireturn, 1, []) := by decide +kernel
theorem x141_37 {d : Nat} {a0 : Value} {s0 : Int32} {h : AHp} : Rf d 141 37 [a0] [.int s0] h = if retI (some .boolean) s0 = true then some (some (.int s0), h) else Rx d 141 37 [a0] [.int s0] h := Rf_ife (fun hk => by rw [stp_of c141_37]; exact if_pos hk)
theorem c141_18 : cd 141 18 = some (18, .aload_n 0, 1, []) := by decide +kernel
theorem x141_18 {d : Nat} {x : Nat} {h : AHp} : Rf d 141 18 [.ref x] [] h = Rf d 141 19 [.ref x] [.ref x] h := Rf_go ((stp_of c141_18).trans rfl)
theorem c141_19 : cd 141 19 = some (19, .invokevirtual 71, 3, [(12, 142)]) := by decide +kernel
theorem xc141_19 {d : Nat} {a0 : Value} {s0 : Nat} {h : AHp} {h1 : AHp} {v : Int32} (hr : cls (h.1 s0) = 12) (hq : Rf d 142 0 [.ref s0, noV, noV, noV, noV] [] h = some (some (.int v), h1)) : Rf (d + 1) 141 19 [a0] [.ref s0] h = Rf (d + 1) 141 22 [a0] [.int v] h1 := clV (c := 142) (as := []) c141_19 rfl (by simp [isV]) (by rw [hr]; rfl) hq
theorem c141_22 : cd 141 22 = some (22, .ifCond .ne 5, 3, [(27, 0)]) := by decide +kernel
theorem x141_22 {d : Nat} {a0 : Value} {s0 : Int32} {h : AHp} : Rf d 141 22 [a0] [.int s0] h = if s0 = 0 then Rf d 141 25 [a0] [] h else Rf d 141 27 [a0] [] h := Rf_brn ((stp_of c141_22).trans rfl)
theorem c141_27 : cd 141 27 = some (27, .aload_n 0, 1, []) := by decide +kernel
theorem x141_27 {d : Nat} {x : Nat} {h : AHp} : Rf d 141 27 [.ref x] [] h = Rf d 141 28 [.ref x] [.ref x] h := Rf_go ((stp_of c141_27).trans rfl)
theorem c141_28 : cd 141 28 = some (28, .bipush (-2), 2, []) := by decide +kernel
theorem x141_28 {d : Nat} {a0 : Value} {s0 : Nat} {h : AHp} : Rf d 141 28 [a0] [.ref s0] h = Rf d 141 30 [a0] [.int (-2), .ref s0] h := Rf_go ((stp_of c141_28).trans rfl)
theorem c141_30 : cd 141 30 = some (30, .invokevirtual 67, 3, [(12, 139)]) := by decide +kernel
theorem xc141_30 {d : Nat} {a0 : Value} {s0 : Int32} {s1 : Nat} {h : AHp} {h1 : AHp} (hr : cls (h.1 s1) = 12) (hq : Rf d 139 0 [.ref s1, .int s0] [] h = some (none, h1)) : Rf (d + 1) 141 30 [a0] [.int s0, .ref s1] h = Rf (d + 1) 141 33 [a0] [] h1 := clV (c := 139) (as := [.int s0]) c141_30 rfl (by simp [isV]) (by rw [hr]; rfl) hq
theorem c141_33 : cd 141 33 = some (33, .goto (-24), 3, [(9, 0)]) := by decide +kernel
theorem x141_33 {d : Nat} {a0 : Value} {h : AHp} : Rf d 141 33 [a0] [] h = Rf d 141 9 [a0] [] h := Rf_go ((stp_of c141_33).trans rfl)
theorem c141_25 : cd 141 25 = some (25, .iconst 0, 1, []) := by decide +kernel
theorem x141_25 {d : Nat} {a0 : Value} {h : AHp} : Rf d 141 25 [a0] [] h = Rf d 141 26 [a0] [.int 0] h := Rf_go ((stp_of c141_25).trans rfl)
theorem c141_26 : cd 141 26 = some (26, .ireturn, 1, []) := by decide +kernel
theorem x141_26 {d : Nat} {a0 : Value} {s0 : Int32} {h : AHp} : Rf d 141 26 [a0] [.int s0] h = if retI (some .boolean) s0 = true then some (some (.int s0), h) else Rx d 141 26 [a0] [.int s0] h := Rf_ife (fun hk => by rw [stp_of c141_26]; exact if_pos hk)
theorem c141_7 : cd 141 7 = some (7, .iconst 0, 1, []) := by decide +kernel
theorem x141_7 {d : Nat} {a0 : Value} {h : AHp} : Rf d 141 7 [a0] [] h = Rf d 141 8 [a0] [.int 0] h := Rf_go ((stp_of c141_7).trans rfl)
theorem c141_8 : cd 141 8 = some (8, .ireturn, 1, []) := by decide +kernel
theorem x141_8 {d : Nat} {a0 : Value} {s0 : Int32} {h : AHp} : Rf d 141 8 [a0] [.int s0] h = if retI (some .boolean) s0 = true then some (some (.int s0), h) else Rx d 141 8 [a0] [.int s0] h := Rf_ife (fun hk => by rw [stp_of c141_8]; exact if_pos hk)
-- 142: X12_one
theorem c142_0 : cd 142 0 = some (0, .aload_n 0, 1, []) := by decide +kernel
theorem x142_0 {d : Nat} {a1 a2 a3 a4 : Value} {x : Nat} {h : AHp} : Rf d 142 0 [.ref x, a1, a2, a3, a4] [] h = Rf d 142 1 [.ref x, a1, a2, a3, a4] [.ref x] h := Rf_go ((stp_of c142_0).trans rfl)
theorem c142_1 : cd 142 1 = some (1, .invokevirtual 39, 3, [(12, 134)]) := by decide +kernel
theorem xc142_1 {d : Nat} {a0 a1 a2 a3 a4 : Value} {s0 : Nat} {h : AHp} {h1 : AHp} {v : Int32} (hr : cls (h.1 s0) = 12) (hq : Rf d 134 0 [.ref s0] [] h = some (some (.int v), h1)) : Rf (d + 1) 142 1 [a0, a1, a2, a3, a4] [.ref s0] h = Rf (d + 1) 142 4 [a0, a1, a2, a3, a4] [.int v] h1 := clV (c := 134) (as := []) c142_1 rfl (by simp [isV]) (by rw [hr]; rfl) hq
theorem c142_4 : cd 142 4 = some (4, .istore_n 1, 1, []) := by decide +kernel
theorem x142_4 {d : Nat} {a0 a1 a2 a3 a4 : Value} {s0 : Int32} {h : AHp} : Rf d 142 4 [a0, a1, a2, a3, a4] [.int s0] h = Rf d 142 5 [a0, .int s0, a2, a3, a4] [] h := Rf_go ((stp_of c142_4).trans rfl)
theorem c142_5 : cd 142 5 = some (5, .iload_n 1, 1, []) := by decide +kernel
theorem x142_5 {d : Nat} {a0 a2 a3 a4 : Value} {x : Int32} {h : AHp} : Rf d 142 5 [a0, .int x, a2, a3, a4] [] h = Rf d 142 6 [a0, .int x, a2, a3, a4] [.int x] h := Rf_go ((stp_of c142_5).trans rfl)
theorem c142_6 : cd 142 6 = some (6, .bipush 33, 2, []) := by decide +kernel
theorem x142_6 {d : Nat} {a0 a1 a2 a3 a4 : Value} {s0 : Int32} {h : AHp} : Rf d 142 6 [a0, a1, a2, a3, a4] [.int s0] h = Rf d 142 8 [a0, a1, a2, a3, a4] [.int 33, .int s0] h := Rf_go ((stp_of c142_6).trans rfl)
theorem c142_8 : cd 142 8 = some (8, .if_icmp .eq 9, 3, [(17, 0)]) := by decide +kernel
theorem x142_8 {d : Nat} {a0 a1 a2 a3 a4 : Value} {s0 : Int32} {s1 : Int32} {h : AHp} : Rf d 142 8 [a0, a1, a2, a3, a4] [.int s0, .int s1] h = if s1 = s0 then Rf d 142 17 [a0, a1, a2, a3, a4] [] h else Rf d 142 11 [a0, a1, a2, a3, a4] [] h := Rf_brd ((stp_of c142_8).trans rfl)
theorem c142_17 : cd 142 17 = some (17, .aload_n 0, 1, []) := by decide +kernel
theorem x142_17 {d : Nat} {a1 a2 a3 a4 : Value} {x : Nat} {h : AHp} : Rf d 142 17 [.ref x, a1, a2, a3, a4] [] h = Rf d 142 18 [.ref x, a1, a2, a3, a4] [.ref x] h := Rf_go ((stp_of c142_17).trans rfl)
theorem c142_18 : cd 142 18 = some (18, .getfield 74, 3, [(12, 4)]) := by decide +kernel
theorem x142_18 {d : Nat} {a0 a1 a2 a3 a4 : Value} {s0 : Nat} {h : AHp} : Rf d 142 18 [a0, a1, a2, a3, a4] [.ref s0] h = if cls (h.1 s0) = 12 ∧ oKi (h.1 s0) 4 = true then Rf d 142 21 [a0, a1, a2, a3, a4] [.int (oN (h.1 s0) 4)] h else Rx d 142 18 [a0, a1, a2, a3, a4] [.ref s0] h := getI c142_18
theorem c142_21 : cd 142 21 = some (21, .iconst 5, 1, []) := by decide +kernel
theorem x142_21 {d : Nat} {a0 a1 a2 a3 a4 : Value} {s0 : Int32} {h : AHp} : Rf d 142 21 [a0, a1, a2, a3, a4] [.int s0] h = Rf d 142 22 [a0, a1, a2, a3, a4] [.int 5, .int s0] h := Rf_go ((stp_of c142_21).trans rfl)
theorem c142_22 : cd 142 22 = some (22, .if_icmp .ne 5, 3, [(27, 0)]) := by decide +kernel
theorem x142_22 {d : Nat} {a0 a1 a2 a3 a4 : Value} {s0 : Int32} {s1 : Int32} {h : AHp} : Rf d 142 22 [a0, a1, a2, a3, a4] [.int s0, .int s1] h = if s1 = s0 then Rf d 142 25 [a0, a1, a2, a3, a4] [] h else Rf d 142 27 [a0, a1, a2, a3, a4] [] h := Rf_brn ((stp_of c142_22).trans rfl)
theorem c142_27 : cd 142 27 = some (27, .aload_n 0, 1, []) := by decide +kernel
theorem x142_27 {d : Nat} {a1 a2 a3 a4 : Value} {x : Nat} {h : AHp} : Rf d 142 27 [.ref x, a1, a2, a3, a4] [] h = Rf d 142 28 [.ref x, a1, a2, a3, a4] [.ref x] h := Rf_go ((stp_of c142_27).trans rfl)
theorem c142_28 : cd 142 28 = some (28, .dup, 1, []) := by decide +kernel
theorem x142_28 {d : Nat} {a0 a1 a2 a3 a4 : Value} {s0 : Nat} {h : AHp} : Rf d 142 28 [a0, a1, a2, a3, a4] [.ref s0] h = Rf d 142 29 [a0, a1, a2, a3, a4] [.ref s0, .ref s0] h := Rf_go ((stp_of c142_28).trans rfl)
theorem c142_29 : cd 142 29 = some (29, .getfield 35, 3, [(12, 3)]) := by decide +kernel
theorem x142_29 {d : Nat} {a0 a1 a2 a3 a4 : Value} {s0 : Nat} {s1 : Nat} {h : AHp} : Rf d 142 29 [a0, a1, a2, a3, a4] [.ref s0, .ref s1] h = if cls (h.1 s0) = 12 ∧ oKi (h.1 s0) 3 = true then Rf d 142 32 [a0, a1, a2, a3, a4] [.int (oN (h.1 s0) 3), .ref s1] h else Rx d 142 29 [a0, a1, a2, a3, a4] [.ref s0, .ref s1] h := getI c142_29
theorem c142_32 : cd 142 32 = some (32, .iconst 1, 1, []) := by decide +kernel
theorem x142_32 {d : Nat} {a0 a1 a2 a3 a4 : Value} {s0 : Int32} {s1 : Nat} {h : AHp} : Rf d 142 32 [a0, a1, a2, a3, a4] [.int s0, .ref s1] h = Rf d 142 33 [a0, a1, a2, a3, a4] [.int 1, .int s0, .ref s1] h := Rf_go ((stp_of c142_32).trans rfl)
theorem c142_33 : cd 142 33 = some (33, .iadd, 1, []) := by decide +kernel
theorem x142_33 {d : Nat} {a0 a1 a2 a3 a4 : Value} {s0 : Int32} {s1 : Int32} {s2 : Nat} {h : AHp} : Rf d 142 33 [a0, a1, a2, a3, a4] [.int s0, .int s1, .ref s2] h = Rf d 142 34 [a0, a1, a2, a3, a4] [.int (s1 + s0), .ref s2] h := Rf_go ((stp_of c142_33).trans rfl)
theorem c142_34 : cd 142 34 = some (34, .putfield 35, 3, [(12, 3)]) := by decide +kernel
theorem x142_34 {d : Nat} {a0 a1 a2 a3 a4 : Value} {s0 : Int32} {s1 : Nat} {h : AHp} : Rf d 142 34 [a0, a1, a2, a3, a4] [.int s0, .ref s1] h = if cls (h.1 s1) = 12 ∧ oL (h.1 s1) = 12 then Rf d 142 37 [a0, a1, a2, a3, a4] [] (hset h s1 (oSet (h.1 s1) 3 (.int s0))) else Rx d 142 34 [a0, a1, a2, a3, a4] [.int s0, .ref s1] h := putV c142_34 rfl (fMay_i (by decide +kernel))
theorem c142_37 : cd 142 37 = some (37, .aload_n 0, 1, []) := by decide +kernel
theorem x142_37 {d : Nat} {a1 a2 a3 a4 : Value} {x : Nat} {h : AHp} : Rf d 142 37 [.ref x, a1, a2, a3, a4] [] h = Rf d 142 38 [.ref x, a1, a2, a3, a4] [.ref x] h := Rf_go ((stp_of c142_37).trans rfl)
theorem c142_38 : cd 142 38 = some (38, .dup, 1, []) := by decide +kernel
theorem x142_38 {d : Nat} {a0 a1 a2 a3 a4 : Value} {s0 : Nat} {h : AHp} : Rf d 142 38 [a0, a1, a2, a3, a4] [.ref s0] h = Rf d 142 39 [a0, a1, a2, a3, a4] [.ref s0, .ref s0] h := Rf_go ((stp_of c142_38).trans rfl)
theorem c142_39 : cd 142 39 = some (39, .getfield 74, 3, [(12, 4)]) := by decide +kernel
theorem x142_39 {d : Nat} {a0 a1 a2 a3 a4 : Value} {s0 : Nat} {s1 : Nat} {h : AHp} : Rf d 142 39 [a0, a1, a2, a3, a4] [.ref s0, .ref s1] h = if cls (h.1 s0) = 12 ∧ oKi (h.1 s0) 4 = true then Rf d 142 42 [a0, a1, a2, a3, a4] [.int (oN (h.1 s0) 4), .ref s1] h else Rx d 142 39 [a0, a1, a2, a3, a4] [.ref s0, .ref s1] h := getI c142_39
theorem c142_42 : cd 142 42 = some (42, .iconst 1, 1, []) := by decide +kernel
theorem x142_42 {d : Nat} {a0 a1 a2 a3 a4 : Value} {s0 : Int32} {s1 : Nat} {h : AHp} : Rf d 142 42 [a0, a1, a2, a3, a4] [.int s0, .ref s1] h = Rf d 142 43 [a0, a1, a2, a3, a4] [.int 1, .int s0, .ref s1] h := Rf_go ((stp_of c142_42).trans rfl)
theorem c142_43 : cd 142 43 = some (43, .iadd, 1, []) := by decide +kernel
theorem x142_43 {d : Nat} {a0 a1 a2 a3 a4 : Value} {s0 : Int32} {s1 : Int32} {s2 : Nat} {h : AHp} : Rf d 142 43 [a0, a1, a2, a3, a4] [.int s0, .int s1, .ref s2] h = Rf d 142 44 [a0, a1, a2, a3, a4] [.int (s1 + s0), .ref s2] h := Rf_go ((stp_of c142_43).trans rfl)
theorem c142_44 : cd 142 44 = some (44, .putfield 74, 3, [(12, 4)]) := by decide +kernel
theorem x142_44 {d : Nat} {a0 a1 a2 a3 a4 : Value} {s0 : Int32} {s1 : Nat} {h : AHp} : Rf d 142 44 [a0, a1, a2, a3, a4] [.int s0, .ref s1] h = if cls (h.1 s1) = 12 ∧ oL (h.1 s1) = 12 then Rf d 142 47 [a0, a1, a2, a3, a4] [] (hset h s1 (oSet (h.1 s1) 4 (.int s0))) else Rx d 142 44 [a0, a1, a2, a3, a4] [.int s0, .ref s1] h := putV c142_44 rfl (fMay_i (by decide +kernel))
theorem c142_47 : cd 142 47 = some (47, .iload_n 1, 1, []) := by decide +kernel
theorem x142_47 {d : Nat} {a0 a2 a3 a4 : Value} {x : Int32} {h : AHp} : Rf d 142 47 [a0, .int x, a2, a3, a4] [] h = Rf d 142 48 [a0, .int x, a2, a3, a4] [.int x] h := Rf_go ((stp_of c142_47).trans rfl)
theorem c142_48 : cd 142 48 = some (48, .bipush 33, 2, []) := by decide +kernel
theorem x142_48 {d : Nat} {a0 a1 a2 a3 a4 : Value} {s0 : Int32} {h : AHp} : Rf d 142 48 [a0, a1, a2, a3, a4] [.int s0] h = Rf d 142 50 [a0, a1, a2, a3, a4] [.int 33, .int s0] h := Rf_go ((stp_of c142_48).trans rfl)
theorem c142_50 : cd 142 50 = some (50, .if_icmp .ne 21, 3, [(71, 0)]) := by decide +kernel
theorem x142_50 {d : Nat} {a0 a1 a2 a3 a4 : Value} {s0 : Int32} {s1 : Int32} {h : AHp} : Rf d 142 50 [a0, a1, a2, a3, a4] [.int s0, .int s1] h = if s1 = s0 then Rf d 142 53 [a0, a1, a2, a3, a4] [] h else Rf d 142 71 [a0, a1, a2, a3, a4] [] h := Rf_brn ((stp_of c142_50).trans rfl)
theorem c142_71 : cd 142 71 = some (71, .aload_n 0, 1, []) := by decide +kernel
theorem x142_71 {d : Nat} {a1 a2 a3 a4 : Value} {x : Nat} {h : AHp} : Rf d 142 71 [.ref x, a1, a2, a3, a4] [] h = Rf d 142 72 [.ref x, a1, a2, a3, a4] [.ref x] h := Rf_go ((stp_of c142_71).trans rfl)
theorem c142_72 : cd 142 72 = some (72, .invokevirtual 77, 3, [(12, 140)]) := by decide +kernel
theorem xc142_72 {d : Nat} {a0 a1 a2 a3 a4 : Value} {s0 : Nat} {h : AHp} {h1 : AHp} {v : Int32} (hr : cls (h.1 s0) = 12) (hq : Rf d 140 0 [.ref s0] [] h = some (some (.int v), h1)) : Rf (d + 1) 142 72 [a0, a1, a2, a3, a4] [.ref s0] h = Rf (d + 1) 142 75 [a0, a1, a2, a3, a4] [.int v] h1 := clV (c := 140) (as := []) c142_72 rfl (by simp [isV]) (by rw [hr]; rfl) hq
theorem c142_75 : cd 142 75 = some (75, .ifCond .eq 12, 3, [(87, 0)]) := by decide +kernel
theorem x142_75 {d : Nat} {a0 a1 a2 a3 a4 : Value} {s0 : Int32} {h : AHp} : Rf d 142 75 [a0, a1, a2, a3, a4] [.int s0] h = if s0 = 0 then Rf d 142 87 [a0, a1, a2, a3, a4] [] h else Rf d 142 78 [a0, a1, a2, a3, a4] [] h := Rf_brd ((stp_of c142_75).trans rfl)
theorem c142_87 : cd 142 87 = some (87, .iconst 0, 1, []) := by decide +kernel
theorem x142_87 {d : Nat} {a0 a1 a2 a3 a4 : Value} {h : AHp} : Rf d 142 87 [a0, a1, a2, a3, a4] [] h = Rf d 142 88 [a0, a1, a2, a3, a4] [.int 0] h := Rf_go ((stp_of c142_87).trans rfl)
theorem c142_88 : cd 142 88 = some (88, .ireturn, 1, []) := by decide +kernel
theorem x142_88 {d : Nat} {a0 a1 a2 a3 a4 : Value} {s0 : Int32} {h : AHp} : Rf d 142 88 [a0, a1, a2, a3, a4] [.int s0] h = if retI (some .boolean) s0 = true then some (some (.int s0), h) else Rx d 142 88 [a0, a1, a2, a3, a4] [.int s0] h := Rf_ife (fun hk => by rw [stp_of c142_88]; exact if_pos hk)
theorem c142_78 : cd 142 78 = some (78, .aload_n 0, 1, []) := by decide +kernel
theorem x142_78 {d : Nat} {a1 a2 a3 a4 : Value} {x : Nat} {h : AHp} : Rf d 142 78 [.ref x, a1, a2, a3, a4] [] h = Rf d 142 79 [.ref x, a1, a2, a3, a4] [.ref x] h := Rf_go ((stp_of c142_78).trans rfl)
theorem c142_79 : cd 142 79 = some (79, .bipush 41, 2, []) := by decide +kernel
theorem x142_79 {d : Nat} {a0 a1 a2 a3 a4 : Value} {s0 : Nat} {h : AHp} : Rf d 142 79 [a0, a1, a2, a3, a4] [.ref s0] h = Rf d 142 81 [a0, a1, a2, a3, a4] [.int 41, .ref s0] h := Rf_go ((stp_of c142_79).trans rfl)
theorem c142_81 : cd 142 81 = some (81, .invokevirtual 52, 3, [(12, 135)]) := by decide +kernel
theorem xc142_81 {d : Nat} {a0 a1 a2 a3 a4 : Value} {s0 : Int32} {s1 : Nat} {h : AHp} {h1 : AHp} {v : Int32} (hr : cls (h.1 s1) = 12) (hq : Rf d 135 0 [.ref s1, .int s0] [] h = some (some (.int v), h1)) : Rf (d + 1) 142 81 [a0, a1, a2, a3, a4] [.int s0, .ref s1] h = Rf (d + 1) 142 84 [a0, a1, a2, a3, a4] [.int v] h1 := clV (c := 135) (as := [.int s0]) c142_81 rfl (by simp [isV]) (by rw [hr]; rfl) hq
theorem c142_84 : cd 142 84 = some (84, .ifCond .ne 5, 3, [(89, 0)]) := by decide +kernel
theorem x142_84 {d : Nat} {a0 a1 a2 a3 a4 : Value} {s0 : Int32} {h : AHp} : Rf d 142 84 [a0, a1, a2, a3, a4] [.int s0] h = if s0 = 0 then Rf d 142 87 [a0, a1, a2, a3, a4] [] h else Rf d 142 89 [a0, a1, a2, a3, a4] [] h := Rf_brn ((stp_of c142_84).trans rfl)
theorem c142_89 : cd 142 89 = some (89, .aload_n 0, 1, []) := by decide +kernel
theorem x142_89 {d : Nat} {a1 a2 a3 a4 : Value} {x : Nat} {h : AHp} : Rf d 142 89 [.ref x, a1, a2, a3, a4] [] h = Rf d 142 90 [.ref x, a1, a2, a3, a4] [.ref x] h := Rf_go ((stp_of c142_89).trans rfl)
theorem c142_90 : cd 142 90 = some (90, .dup, 1, []) := by decide +kernel
theorem x142_90 {d : Nat} {a0 a1 a2 a3 a4 : Value} {s0 : Nat} {h : AHp} : Rf d 142 90 [a0, a1, a2, a3, a4] [.ref s0] h = Rf d 142 91 [a0, a1, a2, a3, a4] [.ref s0, .ref s0] h := Rf_go ((stp_of c142_90).trans rfl)
theorem c142_91 : cd 142 91 = some (91, .getfield 74, 3, [(12, 4)]) := by decide +kernel
theorem x142_91 {d : Nat} {a0 a1 a2 a3 a4 : Value} {s0 : Nat} {s1 : Nat} {h : AHp} : Rf d 142 91 [a0, a1, a2, a3, a4] [.ref s0, .ref s1] h = if cls (h.1 s0) = 12 ∧ oKi (h.1 s0) 4 = true then Rf d 142 94 [a0, a1, a2, a3, a4] [.int (oN (h.1 s0) 4), .ref s1] h else Rx d 142 91 [a0, a1, a2, a3, a4] [.ref s0, .ref s1] h := getI c142_91
theorem c142_94 : cd 142 94 = some (94, .iconst 1, 1, []) := by decide +kernel
theorem x142_94 {d : Nat} {a0 a1 a2 a3 a4 : Value} {s0 : Int32} {s1 : Nat} {h : AHp} : Rf d 142 94 [a0, a1, a2, a3, a4] [.int s0, .ref s1] h = Rf d 142 95 [a0, a1, a2, a3, a4] [.int 1, .int s0, .ref s1] h := Rf_go ((stp_of c142_94).trans rfl)
theorem c142_95 : cd 142 95 = some (95, .isub, 1, []) := by decide +kernel
theorem x142_95 {d : Nat} {a0 a1 a2 a3 a4 : Value} {s0 : Int32} {s1 : Int32} {s2 : Nat} {h : AHp} : Rf d 142 95 [a0, a1, a2, a3, a4] [.int s0, .int s1, .ref s2] h = Rf d 142 96 [a0, a1, a2, a3, a4] [.int (s1 - s0), .ref s2] h := Rf_go ((stp_of c142_95).trans rfl)
theorem c142_96 : cd 142 96 = some (96, .putfield 74, 3, [(12, 4)]) := by decide +kernel
theorem x142_96 {d : Nat} {a0 a1 a2 a3 a4 : Value} {s0 : Int32} {s1 : Nat} {h : AHp} : Rf d 142 96 [a0, a1, a2, a3, a4] [.int s0, .ref s1] h = if cls (h.1 s1) = 12 ∧ oL (h.1 s1) = 12 then Rf d 142 99 [a0, a1, a2, a3, a4] [] (hset h s1 (oSet (h.1 s1) 4 (.int s0))) else Rx d 142 96 [a0, a1, a2, a3, a4] [.int s0, .ref s1] h := putV c142_96 rfl (fMay_i (by decide +kernel))
theorem c142_99 : cd 142 99 = some (99, .iconst 1, 1, []) := by decide +kernel
theorem x142_99 {d : Nat} {a0 a1 a2 a3 a4 : Value} {h : AHp} : Rf d 142 99 [a0, a1, a2, a3, a4] [] h = Rf d 142 100 [a0, a1, a2, a3, a4] [.int 1] h := Rf_go ((stp_of c142_99).trans rfl)
theorem c142_100 : cd 142 100 = some (100, .ireturn, 1, []) := by decide +kernel
theorem x142_100 {d : Nat} {a0 a1 a2 a3 a4 : Value} {s0 : Int32} {h : AHp} : Rf d 142 100 [a0, a1, a2, a3, a4] [.int s0] h = if retI (some .boolean) s0 = true then some (some (.int s0), h) else Rx d 142 100 [a0, a1, a2, a3, a4] [.int s0] h := Rf_ife (fun hk => by rw [stp_of c142_100]; exact if_pos hk)
theorem c142_53 : cd 142 53 = some (53, .aload_n 0, 1, []) := by decide +kernel
theorem x142_53 {d : Nat} {a1 a2 a3 a4 : Value} {x : Nat} {h : AHp} : Rf d 142 53 [.ref x, a1, a2, a3, a4] [] h = Rf d 142 54 [.ref x, a1, a2, a3, a4] [.ref x] h := Rf_go ((stp_of c142_53).trans rfl)
theorem c142_54 : cd 142 54 = some (54, .invokevirtual 71, 3, [(12, 142)]) := by decide +kernel
theorem xc142_54 {d : Nat} {a0 a1 a2 a3 a4 : Value} {s0 : Nat} {h : AHp} {h1 : AHp} {v : Int32} (hr : cls (h.1 s0) = 12) (hq : Rf d 142 0 [.ref s0, noV, noV, noV, noV] [] h = some (some (.int v), h1)) : Rf (d + 1) 142 54 [a0, a1, a2, a3, a4] [.ref s0] h = Rf (d + 1) 142 57 [a0, a1, a2, a3, a4] [.int v] h1 := clV (c := 142) (as := []) c142_54 rfl (by simp [isV]) (by rw [hr]; rfl) hq
theorem c142_57 : cd 142 57 = some (57, .ifCond .ne 5, 3, [(62, 0)]) := by decide +kernel
theorem x142_57 {d : Nat} {a0 a1 a2 a3 a4 : Value} {s0 : Int32} {h : AHp} : Rf d 142 57 [a0, a1, a2, a3, a4] [.int s0] h = if s0 = 0 then Rf d 142 60 [a0, a1, a2, a3, a4] [] h else Rf d 142 62 [a0, a1, a2, a3, a4] [] h := Rf_brn ((stp_of c142_57).trans rfl)
theorem c142_62 : cd 142 62 = some (62, .aload_n 0, 1, []) := by decide +kernel
theorem x142_62 {d : Nat} {a1 a2 a3 a4 : Value} {x : Nat} {h : AHp} : Rf d 142 62 [.ref x, a1, a2, a3, a4] [] h = Rf d 142 63 [.ref x, a1, a2, a3, a4] [.ref x] h := Rf_go ((stp_of c142_62).trans rfl)
theorem c142_63 : cd 142 63 = some (63, .bipush (-3), 2, []) := by decide +kernel
theorem x142_63 {d : Nat} {a0 a1 a2 a3 a4 : Value} {s0 : Nat} {h : AHp} : Rf d 142 63 [a0, a1, a2, a3, a4] [.ref s0] h = Rf d 142 65 [a0, a1, a2, a3, a4] [.int (-3), .ref s0] h := Rf_go ((stp_of c142_63).trans rfl)
theorem c142_65 : cd 142 65 = some (65, .invokevirtual 67, 3, [(12, 139)]) := by decide +kernel
theorem xc142_65 {d : Nat} {a0 a1 a2 a3 a4 : Value} {s0 : Int32} {s1 : Nat} {h : AHp} {h1 : AHp} (hr : cls (h.1 s1) = 12) (hq : Rf d 139 0 [.ref s1, .int s0] [] h = some (none, h1)) : Rf (d + 1) 142 65 [a0, a1, a2, a3, a4] [.int s0, .ref s1] h = Rf (d + 1) 142 68 [a0, a1, a2, a3, a4] [] h1 := clV (c := 139) (as := [.int s0]) c142_65 rfl (by simp [isV]) (by rw [hr]; rfl) hq
theorem c142_68 : cd 142 68 = some (68, .goto 21, 3, [(89, 0)]) := by decide +kernel
theorem x142_68 {d : Nat} {a0 a1 a2 a3 a4 : Value} {h : AHp} : Rf d 142 68 [a0, a1, a2, a3, a4] [] h = Rf d 142 89 [a0, a1, a2, a3, a4] [] h := Rf_go ((stp_of c142_68).trans rfl)
theorem c142_60 : cd 142 60 = some (60, .iconst 0, 1, []) := by decide +kernel
theorem x142_60 {d : Nat} {a0 a1 a2 a3 a4 : Value} {h : AHp} : Rf d 142 60 [a0, a1, a2, a3, a4] [] h = Rf d 142 61 [a0, a1, a2, a3, a4] [.int 0] h := Rf_go ((stp_of c142_60).trans rfl)
theorem c142_61 : cd 142 61 = some (61, .ireturn, 1, []) := by decide +kernel
theorem x142_61 {d : Nat} {a0 a1 a2 a3 a4 : Value} {s0 : Int32} {h : AHp} : Rf d 142 61 [a0, a1, a2, a3, a4] [.int s0] h = if retI (some .boolean) s0 = true then some (some (.int s0), h) else Rx d 142 61 [a0, a1, a2, a3, a4] [.int s0] h := Rf_ife (fun hk => by rw [stp_of c142_61]; exact if_pos hk)
theorem c142_25 : cd 142 25 = some (25, .iconst 0, 1, []) := by decide +kernel
theorem x142_25 {d : Nat} {a0 a1 a2 a3 a4 : Value} {h : AHp} : Rf d 142 25 [a0, a1, a2, a3, a4] [] h = Rf d 142 26 [a0, a1, a2, a3, a4] [.int 0] h := Rf_go ((stp_of c142_25).trans rfl)
theorem c142_26 : cd 142 26 = some (26, .ireturn, 1, []) := by decide +kernel
theorem x142_26 {d : Nat} {a0 a1 a2 a3 a4 : Value} {s0 : Int32} {h : AHp} : Rf d 142 26 [a0, a1, a2, a3, a4] [.int s0] h = if retI (some .boolean) s0 = true then some (some (.int s0), h) else Rx d 142 26 [a0, a1, a2, a3, a4] [.int s0] h := Rf_ife (fun hk => by rw [stp_of c142_26]; exact if_pos hk)
theorem c142_11 : cd 142 11 = some (11, .iload_n 1, 1, []) := by decide +kernel
theorem x142_11 {d : Nat} {a0 a2 a3 a4 : Value} {x : Int32} {h : AHp} : Rf d 142 11 [a0, .int x, a2, a3, a4] [] h = Rf d 142 12 [a0, .int x, a2, a3, a4] [.int x] h := Rf_go ((stp_of c142_11).trans rfl)
theorem c142_12 : cd 142 12 = some (12, .bipush 40, 2, []) := by decide +kernel
theorem x142_12 {d : Nat} {a0 a1 a2 a3 a4 : Value} {s0 : Int32} {h : AHp} : Rf d 142 12 [a0, a1, a2, a3, a4] [.int s0] h = Rf d 142 14 [a0, a1, a2, a3, a4] [.int 40, .int s0] h := Rf_go ((stp_of c142_12).trans rfl)
theorem c142_14 : cd 142 14 = some (14, .if_icmp .ne 87, 3, [(101, 0)]) := by decide +kernel
theorem x142_14 {d : Nat} {a0 a1 a2 a3 a4 : Value} {s0 : Int32} {s1 : Int32} {h : AHp} : Rf d 142 14 [a0, a1, a2, a3, a4] [.int s0, .int s1] h = if s1 = s0 then Rf d 142 17 [a0, a1, a2, a3, a4] [] h else Rf d 142 101 [a0, a1, a2, a3, a4] [] h := Rf_brn ((stp_of c142_14).trans rfl)
theorem c142_101 : cd 142 101 = some (101, .iload_n 1, 1, []) := by decide +kernel
theorem x142_101 {d : Nat} {a0 a2 a3 a4 : Value} {x : Int32} {h : AHp} : Rf d 142 101 [a0, .int x, a2, a3, a4] [] h = Rf d 142 102 [a0, .int x, a2, a3, a4] [.int x] h := Rf_go ((stp_of c142_101).trans rfl)
theorem c142_102 : cd 142 102 = some (102, .bipush 119, 2, []) := by decide +kernel
theorem x142_102 {d : Nat} {a0 a1 a2 a3 a4 : Value} {s0 : Int32} {h : AHp} : Rf d 142 102 [a0, a1, a2, a3, a4] [.int s0] h = Rf d 142 104 [a0, a1, a2, a3, a4] [.int 119, .int s0] h := Rf_go ((stp_of c142_102).trans rfl)
theorem c142_104 : cd 142 104 = some (104, .if_icmp .ne 7, 3, [(111, 0)]) := by decide +kernel
theorem x142_104 {d : Nat} {a0 a1 a2 a3 a4 : Value} {s0 : Int32} {s1 : Int32} {h : AHp} : Rf d 142 104 [a0, a1, a2, a3, a4] [.int s0, .int s1] h = if s1 = s0 then Rf d 142 107 [a0, a1, a2, a3, a4] [] h else Rf d 142 111 [a0, a1, a2, a3, a4] [] h := Rf_brn ((stp_of c142_104).trans rfl)
theorem c142_111 : cd 142 111 = some (111, .iload_n 1, 1, []) := by decide +kernel
theorem x142_111 {d : Nat} {a0 a2 a3 a4 : Value} {x : Int32} {h : AHp} : Rf d 142 111 [a0, .int x, a2, a3, a4] [] h = Rf d 142 112 [a0, .int x, a2, a3, a4] [.int x] h := Rf_go ((stp_of c142_111).trans rfl)
theorem c142_112 : cd 142 112 = some (112, .bipush 107, 2, []) := by decide +kernel
theorem x142_112 {d : Nat} {a0 a1 a2 a3 a4 : Value} {s0 : Int32} {h : AHp} : Rf d 142 112 [a0, a1, a2, a3, a4] [.int s0] h = Rf d 142 114 [a0, a1, a2, a3, a4] [.int 107, .int s0] h := Rf_go ((stp_of c142_112).trans rfl)
theorem c142_114 : cd 142 114 = some (114, .if_icmp .ne 7, 3, [(121, 0)]) := by decide +kernel
theorem x142_114 {d : Nat} {a0 a1 a2 a3 a4 : Value} {s0 : Int32} {s1 : Int32} {h : AHp} : Rf d 142 114 [a0, a1, a2, a3, a4] [.int s0, .int s1] h = if s1 = s0 then Rf d 142 117 [a0, a1, a2, a3, a4] [] h else Rf d 142 121 [a0, a1, a2, a3, a4] [] h := Rf_brn ((stp_of c142_114).trans rfl)
theorem c142_121 : cd 142 121 = some (121, .iload_n 1, 1, []) := by decide +kernel
theorem x142_121 {d : Nat} {a0 a2 a3 a4 : Value} {x : Int32} {h : AHp} : Rf d 142 121 [a0, .int x, a2, a3, a4] [] h = Rf d 142 122 [a0, .int x, a2, a3, a4] [.int x] h := Rf_go ((stp_of c142_121).trans rfl)
theorem c142_122 : cd 142 122 = some (122, .bipush 108, 2, []) := by decide +kernel
theorem x142_122 {d : Nat} {a0 a1 a2 a3 a4 : Value} {s0 : Int32} {h : AHp} : Rf d 142 122 [a0, a1, a2, a3, a4] [.int s0] h = Rf d 142 124 [a0, a1, a2, a3, a4] [.int 108, .int s0] h := Rf_go ((stp_of c142_122).trans rfl)
theorem c142_124 : cd 142 124 = some (124, .if_icmp .ne 7, 3, [(131, 0)]) := by decide +kernel
theorem x142_124 {d : Nat} {a0 a1 a2 a3 a4 : Value} {s0 : Int32} {s1 : Int32} {h : AHp} : Rf d 142 124 [a0, a1, a2, a3, a4] [.int s0, .int s1] h = if s1 = s0 then Rf d 142 127 [a0, a1, a2, a3, a4] [] h else Rf d 142 131 [a0, a1, a2, a3, a4] [] h := Rf_brn ((stp_of c142_124).trans rfl)
theorem c142_131 : cd 142 131 = some (131, .iload_n 1, 1, []) := by decide +kernel
theorem x142_131 {d : Nat} {a0 a2 a3 a4 : Value} {x : Int32} {h : AHp} : Rf d 142 131 [a0, .int x, a2, a3, a4] [] h = Rf d 142 132 [a0, .int x, a2, a3, a4] [.int x] h := Rf_go ((stp_of c142_131).trans rfl)
theorem c142_132 : cd 142 132 = some (132, .bipush 112, 2, []) := by decide +kernel
theorem x142_132 {d : Nat} {a0 a1 a2 a3 a4 : Value} {s0 : Int32} {h : AHp} : Rf d 142 132 [a0, a1, a2, a3, a4] [.int s0] h = Rf d 142 134 [a0, a1, a2, a3, a4] [.int 112, .int s0] h := Rf_go ((stp_of c142_132).trans rfl)
theorem c142_134 : cd 142 134 = some (134, .if_icmp .ne 7, 3, [(141, 0)]) := by decide +kernel
theorem x142_134 {d : Nat} {a0 a1 a2 a3 a4 : Value} {s0 : Int32} {s1 : Int32} {h : AHp} : Rf d 142 134 [a0, a1, a2, a3, a4] [.int s0, .int s1] h = if s1 = s0 then Rf d 142 137 [a0, a1, a2, a3, a4] [] h else Rf d 142 141 [a0, a1, a2, a3, a4] [] h := Rf_brn ((stp_of c142_134).trans rfl)
theorem c142_141 : cd 142 141 = some (141, .iload_n 1, 1, []) := by decide +kernel
theorem x142_141 {d : Nat} {a0 a2 a3 a4 : Value} {x : Int32} {h : AHp} : Rf d 142 141 [a0, .int x, a2, a3, a4] [] h = Rf d 142 142 [a0, .int x, a2, a3, a4] [.int x] h := Rf_go ((stp_of c142_141).trans rfl)
theorem c142_142 : cd 142 142 = some (142, .bipush 117, 2, []) := by decide +kernel
theorem x142_142 {d : Nat} {a0 a1 a2 a3 a4 : Value} {s0 : Int32} {h : AHp} : Rf d 142 142 [a0, a1, a2, a3, a4] [.int s0] h = Rf d 142 144 [a0, a1, a2, a3, a4] [.int 117, .int s0] h := Rf_go ((stp_of c142_142).trans rfl)
theorem c142_144 : cd 142 144 = some (144, .if_icmp .ne 7, 3, [(151, 0)]) := by decide +kernel
theorem x142_144 {d : Nat} {a0 a1 a2 a3 a4 : Value} {s0 : Int32} {s1 : Int32} {h : AHp} : Rf d 142 144 [a0, a1, a2, a3, a4] [.int s0, .int s1] h = if s1 = s0 then Rf d 142 147 [a0, a1, a2, a3, a4] [] h else Rf d 142 151 [a0, a1, a2, a3, a4] [] h := Rf_brn ((stp_of c142_144).trans rfl)
theorem c142_151 : cd 142 151 = some (151, .iload_n 1, 1, []) := by decide +kernel
theorem x142_151 {d : Nat} {a0 a2 a3 a4 : Value} {x : Int32} {h : AHp} : Rf d 142 151 [a0, .int x, a2, a3, a4] [] h = Rf d 142 152 [a0, .int x, a2, a3, a4] [.int x] h := Rf_go ((stp_of c142_151).trans rfl)
theorem c142_152 : cd 142 152 = some (152, .bipush 121, 2, []) := by decide +kernel
theorem x142_152 {d : Nat} {a0 a1 a2 a3 a4 : Value} {s0 : Int32} {h : AHp} : Rf d 142 152 [a0, a1, a2, a3, a4] [.int s0] h = Rf d 142 154 [a0, a1, a2, a3, a4] [.int 121, .int s0] h := Rf_go ((stp_of c142_152).trans rfl)
theorem c142_154 : cd 142 154 = some (154, .if_icmp .ne 7, 3, [(161, 0)]) := by decide +kernel
theorem x142_154 {d : Nat} {a0 a1 a2 a3 a4 : Value} {s0 : Int32} {s1 : Int32} {h : AHp} : Rf d 142 154 [a0, a1, a2, a3, a4] [.int s0, .int s1] h = if s1 = s0 then Rf d 142 157 [a0, a1, a2, a3, a4] [] h else Rf d 142 161 [a0, a1, a2, a3, a4] [] h := Rf_brn ((stp_of c142_154).trans rfl)
theorem c142_161 : cd 142 161 = some (161, .iconst (-1), 1, []) := by decide +kernel
theorem x142_161 {d : Nat} {a0 a1 a2 a3 a4 : Value} {h : AHp} : Rf d 142 161 [a0, a1, a2, a3, a4] [] h = Rf d 142 162 [a0, a1, a2, a3, a4] [.int (-1)] h := Rf_go ((stp_of c142_161).trans rfl)
theorem c142_162 : cd 142 162 = some (162, .istore_n 2, 1, []) := by decide +kernel
theorem x142_162 {d : Nat} {a0 a1 a2 a3 a4 : Value} {s0 : Int32} {h : AHp} : Rf d 142 162 [a0, a1, a2, a3, a4] [.int s0] h = Rf d 142 163 [a0, a1, .int s0, a3, a4] [] h := Rf_go ((stp_of c142_162).trans rfl)
theorem c142_163 : cd 142 163 = some (163, .iload_n 2, 1, []) := by decide +kernel
theorem x142_163 {d : Nat} {a0 a1 a3 a4 : Value} {x : Int32} {h : AHp} : Rf d 142 163 [a0, a1, .int x, a3, a4] [] h = Rf d 142 164 [a0, a1, .int x, a3, a4] [.int x] h := Rf_go ((stp_of c142_163).trans rfl)
theorem c142_164 : cd 142 164 = some (164, .ifCond .ge 5, 3, [(169, 0)]) := by decide +kernel
theorem x142_164 {d : Nat} {a0 a1 a2 a3 a4 : Value} {s0 : Int32} {h : AHp} : Rf d 142 164 [a0, a1, a2, a3, a4] [.int s0] h = if s0 < 0 then Rf d 142 167 [a0, a1, a2, a3, a4] [] h else Rf d 142 169 [a0, a1, a2, a3, a4] [] h := Rf_brn ((stp_of c142_164).trans rfl)
theorem c142_169 : cd 142 169 = some (169, .aload_n 0, 1, []) := by decide +kernel
theorem x142_169 {d : Nat} {a1 a2 a3 a4 : Value} {x : Nat} {h : AHp} : Rf d 142 169 [.ref x, a1, a2, a3, a4] [] h = Rf d 142 170 [.ref x, a1, a2, a3, a4] [.ref x] h := Rf_go ((stp_of c142_169).trans rfl)
theorem c142_170 : cd 142 170 = some (170, .dup, 1, []) := by decide +kernel
theorem x142_170 {d : Nat} {a0 a1 a2 a3 a4 : Value} {s0 : Nat} {h : AHp} : Rf d 142 170 [a0, a1, a2, a3, a4] [.ref s0] h = Rf d 142 171 [a0, a1, a2, a3, a4] [.ref s0, .ref s0] h := Rf_go ((stp_of c142_170).trans rfl)
theorem c142_171 : cd 142 171 = some (171, .getfield 35, 3, [(12, 3)]) := by decide +kernel
theorem x142_171 {d : Nat} {a0 a1 a2 a3 a4 : Value} {s0 : Nat} {s1 : Nat} {h : AHp} : Rf d 142 171 [a0, a1, a2, a3, a4] [.ref s0, .ref s1] h = if cls (h.1 s0) = 12 ∧ oKi (h.1 s0) 3 = true then Rf d 142 174 [a0, a1, a2, a3, a4] [.int (oN (h.1 s0) 3), .ref s1] h else Rx d 142 171 [a0, a1, a2, a3, a4] [.ref s0, .ref s1] h := getI c142_171
theorem c142_174 : cd 142 174 = some (174, .iconst 1, 1, []) := by decide +kernel
theorem x142_174 {d : Nat} {a0 a1 a2 a3 a4 : Value} {s0 : Int32} {s1 : Nat} {h : AHp} : Rf d 142 174 [a0, a1, a2, a3, a4] [.int s0, .ref s1] h = Rf d 142 175 [a0, a1, a2, a3, a4] [.int 1, .int s0, .ref s1] h := Rf_go ((stp_of c142_174).trans rfl)
theorem c142_175 : cd 142 175 = some (175, .iadd, 1, []) := by decide +kernel
theorem x142_175 {d : Nat} {a0 a1 a2 a3 a4 : Value} {s0 : Int32} {s1 : Int32} {s2 : Nat} {h : AHp} : Rf d 142 175 [a0, a1, a2, a3, a4] [.int s0, .int s1, .ref s2] h = Rf d 142 176 [a0, a1, a2, a3, a4] [.int (s1 + s0), .ref s2] h := Rf_go ((stp_of c142_175).trans rfl)
theorem c142_176 : cd 142 176 = some (176, .putfield 35, 3, [(12, 3)]) := by decide +kernel
theorem x142_176 {d : Nat} {a0 a1 a2 a3 a4 : Value} {s0 : Int32} {s1 : Nat} {h : AHp} : Rf d 142 176 [a0, a1, a2, a3, a4] [.int s0, .ref s1] h = if cls (h.1 s1) = 12 ∧ oL (h.1 s1) = 12 then Rf d 142 179 [a0, a1, a2, a3, a4] [] (hset h s1 (oSet (h.1 s1) 3 (.int s0))) else Rx d 142 176 [a0, a1, a2, a3, a4] [.int s0, .ref s1] h := putV c142_176 rfl (fMay_i (by decide +kernel))
theorem c142_179 : cd 142 179 = some (179, .aload_n 0, 1, []) := by decide +kernel
theorem x142_179 {d : Nat} {a1 a2 a3 a4 : Value} {x : Nat} {h : AHp} : Rf d 142 179 [.ref x, a1, a2, a3, a4] [] h = Rf d 142 180 [.ref x, a1, a2, a3, a4] [.ref x] h := Rf_go ((stp_of c142_179).trans rfl)
theorem c142_180 : cd 142 180 = some (180, .invokevirtual 39, 3, [(12, 134)]) := by decide +kernel
theorem xc142_180 {d : Nat} {a0 a1 a2 a3 a4 : Value} {s0 : Nat} {h : AHp} {h1 : AHp} {v : Int32} (hr : cls (h.1 s0) = 12) (hq : Rf d 134 0 [.ref s0] [] h = some (some (.int v), h1)) : Rf (d + 1) 142 180 [a0, a1, a2, a3, a4] [.ref s0] h = Rf (d + 1) 142 183 [a0, a1, a2, a3, a4] [.int v] h1 := clV (c := 134) (as := []) c142_180 rfl (by simp [isV]) (by rw [hr]; rfl) hq
theorem c142_183 : cd 142 183 = some (183, .istore_n 1, 1, []) := by decide +kernel
theorem x142_183 {d : Nat} {a0 a1 a2 a3 a4 : Value} {s0 : Int32} {h : AHp} : Rf d 142 183 [a0, a1, a2, a3, a4] [.int s0] h = Rf d 142 184 [a0, .int s0, a2, a3, a4] [] h := Rf_go ((stp_of c142_183).trans rfl)
theorem c142_184 : cd 142 184 = some (184, .iload_n 1, 1, []) := by decide +kernel
theorem x142_184 {d : Nat} {a0 a2 a3 a4 : Value} {x : Int32} {h : AHp} : Rf d 142 184 [a0, .int x, a2, a3, a4] [] h = Rf d 142 185 [a0, .int x, a2, a3, a4] [.int x] h := Rf_go ((stp_of c142_184).trans rfl)
theorem c142_185 : cd 142 185 = some (185, .bipush 60, 2, []) := by decide +kernel
theorem x142_185 {d : Nat} {a0 a1 a2 a3 a4 : Value} {s0 : Int32} {h : AHp} : Rf d 142 185 [a0, a1, a2, a3, a4] [.int s0] h = Rf d 142 187 [a0, a1, a2, a3, a4] [.int 60, .int s0] h := Rf_go ((stp_of c142_185).trans rfl)
theorem c142_187 : cd 142 187 = some (187, .if_icmp .ne 7, 3, [(194, 0)]) := by decide +kernel
theorem x142_187 {d : Nat} {a0 a1 a2 a3 a4 : Value} {s0 : Int32} {s1 : Int32} {h : AHp} : Rf d 142 187 [a0, a1, a2, a3, a4] [.int s0, .int s1] h = if s1 = s0 then Rf d 142 190 [a0, a1, a2, a3, a4] [] h else Rf d 142 194 [a0, a1, a2, a3, a4] [] h := Rf_brn ((stp_of c142_187).trans rfl)
theorem c142_194 : cd 142 194 = some (194, .iload_n 1, 1, []) := by decide +kernel
theorem x142_194 {d : Nat} {a0 a2 a3 a4 : Value} {x : Int32} {h : AHp} : Rf d 142 194 [a0, .int x, a2, a3, a4] [] h = Rf d 142 195 [a0, .int x, a2, a3, a4] [.int x] h := Rf_go ((stp_of c142_194).trans rfl)
theorem c142_195 : cd 142 195 = some (195, .bipush 61, 2, []) := by decide +kernel
theorem x142_195 {d : Nat} {a0 a1 a2 a3 a4 : Value} {s0 : Int32} {h : AHp} : Rf d 142 195 [a0, a1, a2, a3, a4] [.int s0] h = Rf d 142 197 [a0, a1, a2, a3, a4] [.int 61, .int s0] h := Rf_go ((stp_of c142_195).trans rfl)
theorem c142_197 : cd 142 197 = some (197, .if_icmp .ne 7, 3, [(204, 0)]) := by decide +kernel
theorem x142_197 {d : Nat} {a0 a1 a2 a3 a4 : Value} {s0 : Int32} {s1 : Int32} {h : AHp} : Rf d 142 197 [a0, a1, a2, a3, a4] [.int s0, .int s1] h = if s1 = s0 then Rf d 142 200 [a0, a1, a2, a3, a4] [] h else Rf d 142 204 [a0, a1, a2, a3, a4] [] h := Rf_brn ((stp_of c142_197).trans rfl)
theorem c142_204 : cd 142 204 = some (204, .iload_n 1, 1, []) := by decide +kernel
theorem x142_204 {d : Nat} {a0 a2 a3 a4 : Value} {x : Int32} {h : AHp} : Rf d 142 204 [a0, .int x, a2, a3, a4] [] h = Rf d 142 205 [a0, .int x, a2, a3, a4] [.int x] h := Rf_go ((stp_of c142_204).trans rfl)
theorem c142_205 : cd 142 205 = some (205, .bipush 62, 2, []) := by decide +kernel
theorem x142_205 {d : Nat} {a0 a1 a2 a3 a4 : Value} {s0 : Int32} {h : AHp} : Rf d 142 205 [a0, a1, a2, a3, a4] [.int s0] h = Rf d 142 207 [a0, a1, a2, a3, a4] [.int 62, .int s0] h := Rf_go ((stp_of c142_205).trans rfl)
theorem c142_207 : cd 142 207 = some (207, .if_icmp .ne 7, 3, [(214, 0)]) := by decide +kernel
theorem x142_207 {d : Nat} {a0 a1 a2 a3 a4 : Value} {s0 : Int32} {s1 : Int32} {h : AHp} : Rf d 142 207 [a0, a1, a2, a3, a4] [.int s0, .int s1] h = if s1 = s0 then Rf d 142 210 [a0, a1, a2, a3, a4] [] h else Rf d 142 214 [a0, a1, a2, a3, a4] [] h := Rf_brn ((stp_of c142_207).trans rfl)
theorem c142_214 : cd 142 214 = some (214, .iconst (-1), 1, []) := by decide +kernel
theorem x142_214 {d : Nat} {a0 a1 a2 a3 a4 : Value} {h : AHp} : Rf d 142 214 [a0, a1, a2, a3, a4] [] h = Rf d 142 215 [a0, a1, a2, a3, a4] [.int (-1)] h := Rf_go ((stp_of c142_214).trans rfl)
theorem c142_215 : cd 142 215 = some (215, .istore_n 3, 1, []) := by decide +kernel
theorem x142_215 {d : Nat} {a0 a1 a2 a3 a4 : Value} {s0 : Int32} {h : AHp} : Rf d 142 215 [a0, a1, a2, a3, a4] [.int s0] h = Rf d 142 216 [a0, a1, a2, .int s0, a4] [] h := Rf_go ((stp_of c142_215).trans rfl)
theorem c142_216 : cd 142 216 = some (216, .iload_n 3, 1, []) := by decide +kernel
theorem x142_216 {d : Nat} {a0 a1 a2 a4 : Value} {x : Int32} {h : AHp} : Rf d 142 216 [a0, a1, a2, .int x, a4] [] h = Rf d 142 217 [a0, a1, a2, .int x, a4] [.int x] h := Rf_go ((stp_of c142_216).trans rfl)
theorem c142_217 : cd 142 217 = some (217, .ifCond .ge 5, 3, [(222, 0)]) := by decide +kernel
theorem x142_217 {d : Nat} {a0 a1 a2 a3 a4 : Value} {s0 : Int32} {h : AHp} : Rf d 142 217 [a0, a1, a2, a3, a4] [.int s0] h = if s0 < 0 then Rf d 142 220 [a0, a1, a2, a3, a4] [] h else Rf d 142 222 [a0, a1, a2, a3, a4] [] h := Rf_brn ((stp_of c142_217).trans rfl)
theorem c142_222 : cd 142 222 = some (222, .aload_n 0, 1, []) := by decide +kernel
theorem x142_222 {d : Nat} {a1 a2 a3 a4 : Value} {x : Nat} {h : AHp} : Rf d 142 222 [.ref x, a1, a2, a3, a4] [] h = Rf d 142 223 [.ref x, a1, a2, a3, a4] [.ref x] h := Rf_go ((stp_of c142_222).trans rfl)
theorem c142_223 : cd 142 223 = some (223, .dup, 1, []) := by decide +kernel
theorem x142_223 {d : Nat} {a0 a1 a2 a3 a4 : Value} {s0 : Nat} {h : AHp} : Rf d 142 223 [a0, a1, a2, a3, a4] [.ref s0] h = Rf d 142 224 [a0, a1, a2, a3, a4] [.ref s0, .ref s0] h := Rf_go ((stp_of c142_223).trans rfl)
theorem c142_224 : cd 142 224 = some (224, .getfield 35, 3, [(12, 3)]) := by decide +kernel
theorem x142_224 {d : Nat} {a0 a1 a2 a3 a4 : Value} {s0 : Nat} {s1 : Nat} {h : AHp} : Rf d 142 224 [a0, a1, a2, a3, a4] [.ref s0, .ref s1] h = if cls (h.1 s0) = 12 ∧ oKi (h.1 s0) 3 = true then Rf d 142 227 [a0, a1, a2, a3, a4] [.int (oN (h.1 s0) 3), .ref s1] h else Rx d 142 224 [a0, a1, a2, a3, a4] [.ref s0, .ref s1] h := getI c142_224
theorem c142_227 : cd 142 227 = some (227, .iconst 1, 1, []) := by decide +kernel
theorem x142_227 {d : Nat} {a0 a1 a2 a3 a4 : Value} {s0 : Int32} {s1 : Nat} {h : AHp} : Rf d 142 227 [a0, a1, a2, a3, a4] [.int s0, .ref s1] h = Rf d 142 228 [a0, a1, a2, a3, a4] [.int 1, .int s0, .ref s1] h := Rf_go ((stp_of c142_227).trans rfl)
theorem c142_228 : cd 142 228 = some (228, .iadd, 1, []) := by decide +kernel
theorem x142_228 {d : Nat} {a0 a1 a2 a3 a4 : Value} {s0 : Int32} {s1 : Int32} {s2 : Nat} {h : AHp} : Rf d 142 228 [a0, a1, a2, a3, a4] [.int s0, .int s1, .ref s2] h = Rf d 142 229 [a0, a1, a2, a3, a4] [.int (s1 + s0), .ref s2] h := Rf_go ((stp_of c142_228).trans rfl)
theorem c142_229 : cd 142 229 = some (229, .putfield 35, 3, [(12, 3)]) := by decide +kernel
theorem x142_229 {d : Nat} {a0 a1 a2 a3 a4 : Value} {s0 : Int32} {s1 : Nat} {h : AHp} : Rf d 142 229 [a0, a1, a2, a3, a4] [.int s0, .ref s1] h = if cls (h.1 s1) = 12 ∧ oL (h.1 s1) = 12 then Rf d 142 232 [a0, a1, a2, a3, a4] [] (hset h s1 (oSet (h.1 s1) 3 (.int s0))) else Rx d 142 229 [a0, a1, a2, a3, a4] [.int s0, .ref s1] h := putV c142_229 rfl (fMay_i (by decide +kernel))
theorem c142_232 : cd 142 232 = some (232, .aload_n 0, 1, []) := by decide +kernel
theorem x142_232 {d : Nat} {a1 a2 a3 a4 : Value} {x : Nat} {h : AHp} : Rf d 142 232 [.ref x, a1, a2, a3, a4] [] h = Rf d 142 233 [.ref x, a1, a2, a3, a4] [.ref x] h := Rf_go ((stp_of c142_232).trans rfl)
theorem c142_233 : cd 142 233 = some (233, .invokevirtual 80, 3, [(12, 138)]) := by decide +kernel
theorem xc142_233 {d : Nat} {a0 a1 a2 a3 a4 : Value} {s0 : Nat} {h : AHp} {h1 : AHp} {v : Int32} (hr : cls (h.1 s0) = 12) (hq : Rf d 138 0 [.ref s0, noV, noV] [] h = some (some (.int v), h1)) : Rf (d + 1) 142 233 [a0, a1, a2, a3, a4] [.ref s0] h = Rf (d + 1) 142 236 [a0, a1, a2, a3, a4] [.int v] h1 := clV (c := 138) (as := []) c142_233 rfl (by simp [isV]) (by rw [hr]; rfl) hq
theorem c142_236 : cd 142 236 = some (236, .istore 4, 2, []) := by decide +kernel
theorem x142_236 {d : Nat} {a0 a1 a2 a3 a4 : Value} {s0 : Int32} {h : AHp} : Rf d 142 236 [a0, a1, a2, a3, a4] [.int s0] h = Rf d 142 238 [a0, a1, a2, a3, .int s0] [] h := Rf_go ((stp_of c142_236).trans rfl)
theorem c142_238 : cd 142 238 = some (238, .iload 4, 2, []) := by decide +kernel
theorem x142_238 {d : Nat} {a0 a1 a2 a3 : Value} {x : Int32} {h : AHp} : Rf d 142 238 [a0, a1, a2, a3, .int x] [] h = Rf d 142 240 [a0, a1, a2, a3, .int x] [.int x] h := Rf_go ((stp_of c142_238).trans rfl)
theorem c142_240 : cd 142 240 = some (240, .ifCond .ge 5, 3, [(245, 0)]) := by decide +kernel
theorem x142_240 {d : Nat} {a0 a1 a2 a3 a4 : Value} {s0 : Int32} {h : AHp} : Rf d 142 240 [a0, a1, a2, a3, a4] [.int s0] h = if s0 < 0 then Rf d 142 243 [a0, a1, a2, a3, a4] [] h else Rf d 142 245 [a0, a1, a2, a3, a4] [] h := Rf_brn ((stp_of c142_240).trans rfl)
theorem c142_245 : cd 142 245 = some (245, .aload_n 0, 1, []) := by decide +kernel
theorem x142_245 {d : Nat} {a1 a2 a3 a4 : Value} {x : Nat} {h : AHp} : Rf d 142 245 [.ref x, a1, a2, a3, a4] [] h = Rf d 142 246 [.ref x, a1, a2, a3, a4] [.ref x] h := Rf_go ((stp_of c142_245).trans rfl)
theorem c142_246 : cd 142 246 = some (246, .bipush 100, 2, []) := by decide +kernel
theorem x142_246 {d : Nat} {a0 a1 a2 a3 a4 : Value} {s0 : Nat} {h : AHp} : Rf d 142 246 [a0, a1, a2, a3, a4] [.ref s0] h = Rf d 142 248 [a0, a1, a2, a3, a4] [.int 100, .ref s0] h := Rf_go ((stp_of c142_246).trans rfl)
theorem c142_248 : cd 142 248 = some (248, .iconst 3, 1, []) := by decide +kernel
theorem x142_248 {d : Nat} {a0 a1 a2 a3 a4 : Value} {s0 : Int32} {s1 : Nat} {h : AHp} : Rf d 142 248 [a0, a1, a2, a3, a4] [.int s0, .ref s1] h = Rf d 142 249 [a0, a1, a2, a3, a4] [.int 3, .int s0, .ref s1] h := Rf_go ((stp_of c142_248).trans rfl)
theorem c142_249 : cd 142 249 = some (249, .iload_n 2, 1, []) := by decide +kernel
theorem x142_249 {d : Nat} {a0 a1 a3 a4 : Value} {s0 : Int32} {s1 : Int32} {s2 : Nat} {x : Int32} {h : AHp} : Rf d 142 249 [a0, a1, .int x, a3, a4] [.int s0, .int s1, .ref s2] h = Rf d 142 250 [a0, a1, .int x, a3, a4] [.int x, .int s0, .int s1, .ref s2] h := Rf_go ((stp_of c142_249).trans rfl)
theorem c142_250 : cd 142 250 = some (250, .imul, 1, []) := by decide +kernel
theorem x142_250 {d : Nat} {a0 a1 a2 a3 a4 : Value} {s0 : Int32} {s1 : Int32} {s2 : Int32} {s3 : Nat} {h : AHp} : Rf d 142 250 [a0, a1, a2, a3, a4] [.int s0, .int s1, .int s2, .ref s3] h = Rf d 142 251 [a0, a1, a2, a3, a4] [.int (s1 * s0), .int s2, .ref s3] h := Rf_go ((stp_of c142_250).trans rfl)
theorem c142_251 : cd 142 251 = some (251, .iload_n 3, 1, []) := by decide +kernel
theorem x142_251 {d : Nat} {a0 a1 a2 a4 : Value} {s0 : Int32} {s1 : Int32} {s2 : Nat} {x : Int32} {h : AHp} : Rf d 142 251 [a0, a1, a2, .int x, a4] [.int s0, .int s1, .ref s2] h = Rf d 142 252 [a0, a1, a2, .int x, a4] [.int x, .int s0, .int s1, .ref s2] h := Rf_go ((stp_of c142_251).trans rfl)
theorem c142_252 : cd 142 252 = some (252, .iadd, 1, []) := by decide +kernel
theorem x142_252 {d : Nat} {a0 a1 a2 a3 a4 : Value} {s0 : Int32} {s1 : Int32} {s2 : Int32} {s3 : Nat} {h : AHp} : Rf d 142 252 [a0, a1, a2, a3, a4] [.int s0, .int s1, .int s2, .ref s3] h = Rf d 142 253 [a0, a1, a2, a3, a4] [.int (s1 + s0), .int s2, .ref s3] h := Rf_go ((stp_of c142_252).trans rfl)
theorem c142_253 : cd 142 253 = some (253, .imul, 1, []) := by decide +kernel
theorem x142_253 {d : Nat} {a0 a1 a2 a3 a4 : Value} {s0 : Int32} {s1 : Int32} {s2 : Nat} {h : AHp} : Rf d 142 253 [a0, a1, a2, a3, a4] [.int s0, .int s1, .ref s2] h = Rf d 142 254 [a0, a1, a2, a3, a4] [.int (s1 * s0), .ref s2] h := Rf_go ((stp_of c142_253).trans rfl)
theorem c142_254 : cd 142 254 = some (254, .iload 4, 2, []) := by decide +kernel
theorem x142_254 {d : Nat} {a0 a1 a2 a3 : Value} {s0 : Int32} {s1 : Nat} {x : Int32} {h : AHp} : Rf d 142 254 [a0, a1, a2, a3, .int x] [.int s0, .ref s1] h = Rf d 142 256 [a0, a1, a2, a3, .int x] [.int x, .int s0, .ref s1] h := Rf_go ((stp_of c142_254).trans rfl)
theorem c142_256 : cd 142 256 = some (256, .iadd, 1, []) := by decide +kernel
theorem x142_256 {d : Nat} {a0 a1 a2 a3 a4 : Value} {s0 : Int32} {s1 : Int32} {s2 : Nat} {h : AHp} : Rf d 142 256 [a0, a1, a2, a3, a4] [.int s0, .int s1, .ref s2] h = Rf d 142 257 [a0, a1, a2, a3, a4] [.int (s1 + s0), .ref s2] h := Rf_go ((stp_of c142_256).trans rfl)
theorem c142_257 : cd 142 257 = some (257, .invokevirtual 67, 3, [(12, 139)]) := by decide +kernel
theorem xc142_257 {d : Nat} {a0 a1 a2 a3 a4 : Value} {s0 : Int32} {s1 : Nat} {h : AHp} {h1 : AHp} (hr : cls (h.1 s1) = 12) (hq : Rf d 139 0 [.ref s1, .int s0] [] h = some (none, h1)) : Rf (d + 1) 142 257 [a0, a1, a2, a3, a4] [.int s0, .ref s1] h = Rf (d + 1) 142 260 [a0, a1, a2, a3, a4] [] h1 := clV (c := 139) (as := [.int s0]) c142_257 rfl (by simp [isV]) (by rw [hr]; rfl) hq
theorem c142_260 : cd 142 260 = some (260, .iconst 1, 1, []) := by decide +kernel
theorem x142_260 {d : Nat} {a0 a1 a2 a3 a4 : Value} {h : AHp} : Rf d 142 260 [a0, a1, a2, a3, a4] [] h = Rf d 142 261 [a0, a1, a2, a3, a4] [.int 1] h := Rf_go ((stp_of c142_260).trans rfl)
theorem c142_261 : cd 142 261 = some (261, .ireturn, 1, []) := by decide +kernel
theorem x142_261 {d : Nat} {a0 a1 a2 a3 a4 : Value} {s0 : Int32} {h : AHp} : Rf d 142 261 [a0, a1, a2, a3, a4] [.int s0] h = if retI (some .boolean) s0 = true then some (some (.int s0), h) else Rx d 142 261 [a0, a1, a2, a3, a4] [.int s0] h := Rf_ife (fun hk => by rw [stp_of c142_261]; exact if_pos hk)
theorem c142_243 : cd 142 243 = some (243, .iconst 0, 1, []) := by decide +kernel
theorem x142_243 {d : Nat} {a0 a1 a2 a3 a4 : Value} {h : AHp} : Rf d 142 243 [a0, a1, a2, a3, a4] [] h = Rf d 142 244 [a0, a1, a2, a3, a4] [.int 0] h := Rf_go ((stp_of c142_243).trans rfl)
theorem c142_244 : cd 142 244 = some (244, .ireturn, 1, []) := by decide +kernel
theorem x142_244 {d : Nat} {a0 a1 a2 a3 a4 : Value} {s0 : Int32} {h : AHp} : Rf d 142 244 [a0, a1, a2, a3, a4] [.int s0] h = if retI (some .boolean) s0 = true then some (some (.int s0), h) else Rx d 142 244 [a0, a1, a2, a3, a4] [.int s0] h := Rf_ife (fun hk => by rw [stp_of c142_244]; exact if_pos hk)
theorem c142_220 : cd 142 220 = some (220, .iconst 0, 1, []) := by decide +kernel
theorem x142_220 {d : Nat} {a0 a1 a2 a3 a4 : Value} {h : AHp} : Rf d 142 220 [a0, a1, a2, a3, a4] [] h = Rf d 142 221 [a0, a1, a2, a3, a4] [.int 0] h := Rf_go ((stp_of c142_220).trans rfl)
theorem c142_221 : cd 142 221 = some (221, .ireturn, 1, []) := by decide +kernel
theorem x142_221 {d : Nat} {a0 a1 a2 a3 a4 : Value} {s0 : Int32} {h : AHp} : Rf d 142 221 [a0, a1, a2, a3, a4] [.int s0] h = if retI (some .boolean) s0 = true then some (some (.int s0), h) else Rx d 142 221 [a0, a1, a2, a3, a4] [.int s0] h := Rf_ife (fun hk => by rw [stp_of c142_221]; exact if_pos hk)
theorem c142_210 : cd 142 210 = some (210, .iconst 2, 1, []) := by decide +kernel
theorem x142_210 {d : Nat} {a0 a1 a2 a3 a4 : Value} {h : AHp} : Rf d 142 210 [a0, a1, a2, a3, a4] [] h = Rf d 142 211 [a0, a1, a2, a3, a4] [.int 2] h := Rf_go ((stp_of c142_210).trans rfl)
theorem c142_211 : cd 142 211 = some (211, .goto 4, 3, [(215, 0)]) := by decide +kernel
theorem x142_211 {d : Nat} {a0 a1 a2 a3 a4 : Value} {s0 : Int32} {h : AHp} : Rf d 142 211 [a0, a1, a2, a3, a4] [.int s0] h = Rf d 142 215 [a0, a1, a2, a3, a4] [.int s0] h := Rf_go ((stp_of c142_211).trans rfl)
theorem c142_200 : cd 142 200 = some (200, .iconst 1, 1, []) := by decide +kernel
theorem x142_200 {d : Nat} {a0 a1 a2 a3 a4 : Value} {h : AHp} : Rf d 142 200 [a0, a1, a2, a3, a4] [] h = Rf d 142 201 [a0, a1, a2, a3, a4] [.int 1] h := Rf_go ((stp_of c142_200).trans rfl)
theorem c142_201 : cd 142 201 = some (201, .goto 14, 3, [(215, 0)]) := by decide +kernel
theorem x142_201 {d : Nat} {a0 a1 a2 a3 a4 : Value} {s0 : Int32} {h : AHp} : Rf d 142 201 [a0, a1, a2, a3, a4] [.int s0] h = Rf d 142 215 [a0, a1, a2, a3, a4] [.int s0] h := Rf_go ((stp_of c142_201).trans rfl)
theorem c142_190 : cd 142 190 = some (190, .iconst 0, 1, []) := by decide +kernel
theorem x142_190 {d : Nat} {a0 a1 a2 a3 a4 : Value} {h : AHp} : Rf d 142 190 [a0, a1, a2, a3, a4] [] h = Rf d 142 191 [a0, a1, a2, a3, a4] [.int 0] h := Rf_go ((stp_of c142_190).trans rfl)
theorem c142_191 : cd 142 191 = some (191, .goto 24, 3, [(215, 0)]) := by decide +kernel
theorem x142_191 {d : Nat} {a0 a1 a2 a3 a4 : Value} {s0 : Int32} {h : AHp} : Rf d 142 191 [a0, a1, a2, a3, a4] [.int s0] h = Rf d 142 215 [a0, a1, a2, a3, a4] [.int s0] h := Rf_go ((stp_of c142_191).trans rfl)
theorem c142_167 : cd 142 167 = some (167, .iconst 0, 1, []) := by decide +kernel
theorem x142_167 {d : Nat} {a0 a1 a2 a3 a4 : Value} {h : AHp} : Rf d 142 167 [a0, a1, a2, a3, a4] [] h = Rf d 142 168 [a0, a1, a2, a3, a4] [.int 0] h := Rf_go ((stp_of c142_167).trans rfl)
theorem c142_168 : cd 142 168 = some (168, .ireturn, 1, []) := by decide +kernel
theorem x142_168 {d : Nat} {a0 a1 a2 a3 a4 : Value} {s0 : Int32} {h : AHp} : Rf d 142 168 [a0, a1, a2, a3, a4] [.int s0] h = if retI (some .boolean) s0 = true then some (some (.int s0), h) else Rx d 142 168 [a0, a1, a2, a3, a4] [.int s0] h := Rf_ife (fun hk => by rw [stp_of c142_168]; exact if_pos hk)
theorem c142_157 : cd 142 157 = some (157, .iconst 5, 1, []) := by decide +kernel
theorem x142_157 {d : Nat} {a0 a1 a2 a3 a4 : Value} {h : AHp} : Rf d 142 157 [a0, a1, a2, a3, a4] [] h = Rf d 142 158 [a0, a1, a2, a3, a4] [.int 5] h := Rf_go ((stp_of c142_157).trans rfl)
theorem c142_158 : cd 142 158 = some (158, .goto 4, 3, [(162, 0)]) := by decide +kernel
theorem x142_158 {d : Nat} {a0 a1 a2 a3 a4 : Value} {s0 : Int32} {h : AHp} : Rf d 142 158 [a0, a1, a2, a3, a4] [.int s0] h = Rf d 142 162 [a0, a1, a2, a3, a4] [.int s0] h := Rf_go ((stp_of c142_158).trans rfl)
theorem c142_147 : cd 142 147 = some (147, .iconst 4, 1, []) := by decide +kernel
theorem x142_147 {d : Nat} {a0 a1 a2 a3 a4 : Value} {h : AHp} : Rf d 142 147 [a0, a1, a2, a3, a4] [] h = Rf d 142 148 [a0, a1, a2, a3, a4] [.int 4] h := Rf_go ((stp_of c142_147).trans rfl)
theorem c142_148 : cd 142 148 = some (148, .goto 14, 3, [(162, 0)]) := by decide +kernel
theorem x142_148 {d : Nat} {a0 a1 a2 a3 a4 : Value} {s0 : Int32} {h : AHp} : Rf d 142 148 [a0, a1, a2, a3, a4] [.int s0] h = Rf d 142 162 [a0, a1, a2, a3, a4] [.int s0] h := Rf_go ((stp_of c142_148).trans rfl)
theorem c142_137 : cd 142 137 = some (137, .iconst 3, 1, []) := by decide +kernel
theorem x142_137 {d : Nat} {a0 a1 a2 a3 a4 : Value} {h : AHp} : Rf d 142 137 [a0, a1, a2, a3, a4] [] h = Rf d 142 138 [a0, a1, a2, a3, a4] [.int 3] h := Rf_go ((stp_of c142_137).trans rfl)
theorem c142_138 : cd 142 138 = some (138, .goto 24, 3, [(162, 0)]) := by decide +kernel
theorem x142_138 {d : Nat} {a0 a1 a2 a3 a4 : Value} {s0 : Int32} {h : AHp} : Rf d 142 138 [a0, a1, a2, a3, a4] [.int s0] h = Rf d 142 162 [a0, a1, a2, a3, a4] [.int s0] h := Rf_go ((stp_of c142_138).trans rfl)
theorem c142_127 : cd 142 127 = some (127, .iconst 2, 1, []) := by decide +kernel
theorem x142_127 {d : Nat} {a0 a1 a2 a3 a4 : Value} {h : AHp} : Rf d 142 127 [a0, a1, a2, a3, a4] [] h = Rf d 142 128 [a0, a1, a2, a3, a4] [.int 2] h := Rf_go ((stp_of c142_127).trans rfl)
theorem c142_128 : cd 142 128 = some (128, .goto 34, 3, [(162, 0)]) := by decide +kernel
theorem x142_128 {d : Nat} {a0 a1 a2 a3 a4 : Value} {s0 : Int32} {h : AHp} : Rf d 142 128 [a0, a1, a2, a3, a4] [.int s0] h = Rf d 142 162 [a0, a1, a2, a3, a4] [.int s0] h := Rf_go ((stp_of c142_128).trans rfl)
theorem c142_117 : cd 142 117 = some (117, .iconst 1, 1, []) := by decide +kernel
theorem x142_117 {d : Nat} {a0 a1 a2 a3 a4 : Value} {h : AHp} : Rf d 142 117 [a0, a1, a2, a3, a4] [] h = Rf d 142 118 [a0, a1, a2, a3, a4] [.int 1] h := Rf_go ((stp_of c142_117).trans rfl)
theorem c142_118 : cd 142 118 = some (118, .goto 44, 3, [(162, 0)]) := by decide +kernel
theorem x142_118 {d : Nat} {a0 a1 a2 a3 a4 : Value} {s0 : Int32} {h : AHp} : Rf d 142 118 [a0, a1, a2, a3, a4] [.int s0] h = Rf d 142 162 [a0, a1, a2, a3, a4] [.int s0] h := Rf_go ((stp_of c142_118).trans rfl)
theorem c142_107 : cd 142 107 = some (107, .iconst 0, 1, []) := by decide +kernel
theorem x142_107 {d : Nat} {a0 a1 a2 a3 a4 : Value} {h : AHp} : Rf d 142 107 [a0, a1, a2, a3, a4] [] h = Rf d 142 108 [a0, a1, a2, a3, a4] [.int 0] h := Rf_go ((stp_of c142_107).trans rfl)
theorem c142_108 : cd 142 108 = some (108, .goto 54, 3, [(162, 0)]) := by decide +kernel
theorem x142_108 {d : Nat} {a0 a1 a2 a3 a4 : Value} {s0 : Int32} {h : AHp} : Rf d 142 108 [a0, a1, a2, a3, a4] [.int s0] h = Rf d 142 162 [a0, a1, a2, a3, a4] [.int s0] h := Rf_go ((stp_of c142_108).trans rfl)
-- 143: X12_clause
theorem c143_0 : cd 143 0 = some (0, .aload_n 0, 1, []) := by decide +kernel
theorem x143_0 {d : Nat} {a1 a2 a3 a4 a5 : Value} {x : Nat} {h : AHp} : Rf d 143 0 [.ref x, a1, a2, a3, a4, a5] [] h = Rf d 143 1 [.ref x, a1, a2, a3, a4, a5] [.ref x] h := Rf_go ((stp_of c143_0).trans rfl)
theorem c143_1 : cd 143 1 = some (1, .invokevirtual 39, 3, [(12, 134)]) := by decide +kernel
theorem xc143_1 {d : Nat} {a0 a1 a2 a3 a4 a5 : Value} {s0 : Nat} {h : AHp} {h1 : AHp} {v : Int32} (hr : cls (h.1 s0) = 12) (hq : Rf d 134 0 [.ref s0] [] h = some (some (.int v), h1)) : Rf (d + 1) 143 1 [a0, a1, a2, a3, a4, a5] [.ref s0] h = Rf (d + 1) 143 4 [a0, a1, a2, a3, a4, a5] [.int v] h1 := clV (c := 134) (as := []) c143_1 rfl (by simp [isV]) (by rw [hr]; rfl) hq
theorem c143_4 : cd 143 4 = some (4, .istore_n 2, 1, []) := by decide +kernel
theorem x143_4 {d : Nat} {a0 a1 a2 a3 a4 a5 : Value} {s0 : Int32} {h : AHp} : Rf d 143 4 [a0, a1, a2, a3, a4, a5] [.int s0] h = Rf d 143 5 [a0, a1, .int s0, a3, a4, a5] [] h := Rf_go ((stp_of c143_4).trans rfl)
theorem c143_5 : cd 143 5 = some (5, .iload_n 2, 1, []) := by decide +kernel
theorem x143_5 {d : Nat} {a0 a1 a3 a4 a5 : Value} {x : Int32} {h : AHp} : Rf d 143 5 [a0, a1, .int x, a3, a4, a5] [] h = Rf d 143 6 [a0, a1, .int x, a3, a4, a5] [.int x] h := Rf_go ((stp_of c143_5).trans rfl)
theorem c143_6 : cd 143 6 = some (6, .bipush 111, 2, []) := by decide +kernel
theorem x143_6 {d : Nat} {a0 a1 a2 a3 a4 a5 : Value} {s0 : Int32} {h : AHp} : Rf d 143 6 [a0, a1, a2, a3, a4, a5] [.int s0] h = Rf d 143 8 [a0, a1, a2, a3, a4, a5] [.int 111, .int s0] h := Rf_go ((stp_of c143_6).trans rfl)
theorem c143_8 : cd 143 8 = some (8, .if_icmp .ne 7, 3, [(15, 0)]) := by decide +kernel
theorem x143_8 {d : Nat} {a0 a1 a2 a3 a4 a5 : Value} {s0 : Int32} {s1 : Int32} {h : AHp} : Rf d 143 8 [a0, a1, a2, a3, a4, a5] [.int s0, .int s1] h = if s1 = s0 then Rf d 143 11 [a0, a1, a2, a3, a4, a5] [] h else Rf d 143 15 [a0, a1, a2, a3, a4, a5] [] h := Rf_brn ((stp_of c143_8).trans rfl)
theorem c143_15 : cd 143 15 = some (15, .iload_n 2, 1, []) := by decide +kernel
theorem x143_15 {d : Nat} {a0 a1 a3 a4 a5 : Value} {x : Int32} {h : AHp} : Rf d 143 15 [a0, a1, .int x, a3, a4, a5] [] h = Rf d 143 16 [a0, a1, .int x, a3, a4, a5] [.int x] h := Rf_go ((stp_of c143_15).trans rfl)
theorem c143_16 : cd 143 16 = some (16, .bipush 99, 2, []) := by decide +kernel
theorem x143_16 {d : Nat} {a0 a1 a2 a3 a4 a5 : Value} {s0 : Int32} {h : AHp} : Rf d 143 16 [a0, a1, a2, a3, a4, a5] [.int s0] h = Rf d 143 18 [a0, a1, a2, a3, a4, a5] [.int 99, .int s0] h := Rf_go ((stp_of c143_16).trans rfl)
theorem c143_18 : cd 143 18 = some (18, .if_icmp .ne 7, 3, [(25, 0)]) := by decide +kernel
theorem x143_18 {d : Nat} {a0 a1 a2 a3 a4 a5 : Value} {s0 : Int32} {s1 : Int32} {h : AHp} : Rf d 143 18 [a0, a1, a2, a3, a4, a5] [.int s0, .int s1] h = if s1 = s0 then Rf d 143 21 [a0, a1, a2, a3, a4, a5] [] h else Rf d 143 25 [a0, a1, a2, a3, a4, a5] [] h := Rf_brn ((stp_of c143_18).trans rfl)
theorem c143_25 : cd 143 25 = some (25, .iload_n 2, 1, []) := by decide +kernel
theorem x143_25 {d : Nat} {a0 a1 a3 a4 a5 : Value} {x : Int32} {h : AHp} : Rf d 143 25 [a0, a1, .int x, a3, a4, a5] [] h = Rf d 143 26 [a0, a1, .int x, a3, a4, a5] [.int x] h := Rf_go ((stp_of c143_25).trans rfl)
theorem c143_26 : cd 143 26 = some (26, .bipush 97, 2, []) := by decide +kernel
theorem x143_26 {d : Nat} {a0 a1 a2 a3 a4 a5 : Value} {s0 : Int32} {h : AHp} : Rf d 143 26 [a0, a1, a2, a3, a4, a5] [.int s0] h = Rf d 143 28 [a0, a1, a2, a3, a4, a5] [.int 97, .int s0] h := Rf_go ((stp_of c143_26).trans rfl)
theorem c143_28 : cd 143 28 = some (28, .if_icmp .ne 7, 3, [(35, 0)]) := by decide +kernel
theorem x143_28 {d : Nat} {a0 a1 a2 a3 a4 a5 : Value} {s0 : Int32} {s1 : Int32} {h : AHp} : Rf d 143 28 [a0, a1, a2, a3, a4, a5] [.int s0, .int s1] h = if s1 = s0 then Rf d 143 31 [a0, a1, a2, a3, a4, a5] [] h else Rf d 143 35 [a0, a1, a2, a3, a4, a5] [] h := Rf_brn ((stp_of c143_28).trans rfl)
theorem c143_35 : cd 143 35 = some (35, .iload_n 2, 1, []) := by decide +kernel
theorem x143_35 {d : Nat} {a0 a1 a3 a4 a5 : Value} {x : Int32} {h : AHp} : Rf d 143 35 [a0, a1, .int x, a3, a4, a5] [] h = Rf d 143 36 [a0, a1, .int x, a3, a4, a5] [.int x] h := Rf_go ((stp_of c143_35).trans rfl)
theorem c143_36 : cd 143 36 = some (36, .bipush 108, 2, []) := by decide +kernel
theorem x143_36 {d : Nat} {a0 a1 a2 a3 a4 a5 : Value} {s0 : Int32} {h : AHp} : Rf d 143 36 [a0, a1, a2, a3, a4, a5] [.int s0] h = Rf d 143 38 [a0, a1, a2, a3, a4, a5] [.int 108, .int s0] h := Rf_go ((stp_of c143_36).trans rfl)
theorem c143_38 : cd 143 38 = some (38, .if_icmp .ne 7, 3, [(45, 0)]) := by decide +kernel
theorem x143_38 {d : Nat} {a0 a1 a2 a3 a4 a5 : Value} {s0 : Int32} {s1 : Int32} {h : AHp} : Rf d 143 38 [a0, a1, a2, a3, a4, a5] [.int s0, .int s1] h = if s1 = s0 then Rf d 143 41 [a0, a1, a2, a3, a4, a5] [] h else Rf d 143 45 [a0, a1, a2, a3, a4, a5] [] h := Rf_brn ((stp_of c143_38).trans rfl)
theorem c143_45 : cd 143 45 = some (45, .iload_n 2, 1, []) := by decide +kernel
theorem x143_45 {d : Nat} {a0 a1 a3 a4 a5 : Value} {x : Int32} {h : AHp} : Rf d 143 45 [a0, a1, .int x, a3, a4, a5] [] h = Rf d 143 46 [a0, a1, .int x, a3, a4, a5] [.int x] h := Rf_go ((stp_of c143_45).trans rfl)
theorem c143_46 : cd 143 46 = some (46, .bipush 114, 2, []) := by decide +kernel
theorem x143_46 {d : Nat} {a0 a1 a2 a3 a4 a5 : Value} {s0 : Int32} {h : AHp} : Rf d 143 46 [a0, a1, a2, a3, a4, a5] [.int s0] h = Rf d 143 48 [a0, a1, a2, a3, a4, a5] [.int 114, .int s0] h := Rf_go ((stp_of c143_46).trans rfl)
theorem c143_48 : cd 143 48 = some (48, .if_icmp .ne 7, 3, [(55, 0)]) := by decide +kernel
theorem x143_48 {d : Nat} {a0 a1 a2 a3 a4 a5 : Value} {s0 : Int32} {s1 : Int32} {h : AHp} : Rf d 143 48 [a0, a1, a2, a3, a4, a5] [.int s0, .int s1] h = if s1 = s0 then Rf d 143 51 [a0, a1, a2, a3, a4, a5] [] h else Rf d 143 55 [a0, a1, a2, a3, a4, a5] [] h := Rf_brn ((stp_of c143_48).trans rfl)
theorem c143_55 : cd 143 55 = some (55, .iconst (-1), 1, []) := by decide +kernel
theorem x143_55 {d : Nat} {a0 a1 a2 a3 a4 a5 : Value} {h : AHp} : Rf d 143 55 [a0, a1, a2, a3, a4, a5] [] h = Rf d 143 56 [a0, a1, a2, a3, a4, a5] [.int (-1)] h := Rf_go ((stp_of c143_55).trans rfl)
theorem c143_56 : cd 143 56 = some (56, .istore_n 3, 1, []) := by decide +kernel
theorem x143_56 {d : Nat} {a0 a1 a2 a3 a4 a5 : Value} {s0 : Int32} {h : AHp} : Rf d 143 56 [a0, a1, a2, a3, a4, a5] [.int s0] h = Rf d 143 57 [a0, a1, a2, .int s0, a4, a5] [] h := Rf_go ((stp_of c143_56).trans rfl)
theorem c143_57 : cd 143 57 = some (57, .iload_n 3, 1, []) := by decide +kernel
theorem x143_57 {d : Nat} {a0 a1 a2 a4 a5 : Value} {x : Int32} {h : AHp} : Rf d 143 57 [a0, a1, a2, .int x, a4, a5] [] h = Rf d 143 58 [a0, a1, a2, .int x, a4, a5] [.int x] h := Rf_go ((stp_of c143_57).trans rfl)
theorem c143_58 : cd 143 58 = some (58, .ifCond .lt 51, 3, [(109, 0)]) := by decide +kernel
theorem x143_58 {d : Nat} {a0 a1 a2 a3 a4 a5 : Value} {s0 : Int32} {h : AHp} : Rf d 143 58 [a0, a1, a2, a3, a4, a5] [.int s0] h = if s0 < 0 then Rf d 143 109 [a0, a1, a2, a3, a4, a5] [] h else Rf d 143 61 [a0, a1, a2, a3, a4, a5] [] h := Rf_brd ((stp_of c143_58).trans rfl)
theorem c143_109 : cd 143 109 = some (109, .iconst 0, 1, []) := by decide +kernel
theorem x143_109 {d : Nat} {a0 a1 a2 a3 a4 a5 : Value} {h : AHp} : Rf d 143 109 [a0, a1, a2, a3, a4, a5] [] h = Rf d 143 110 [a0, a1, a2, a3, a4, a5] [.int 0] h := Rf_go ((stp_of c143_109).trans rfl)
theorem c143_110 : cd 143 110 = some (110, .ireturn, 1, []) := by decide +kernel
theorem x143_110 {d : Nat} {a0 a1 a2 a3 a4 a5 : Value} {s0 : Int32} {h : AHp} : Rf d 143 110 [a0, a1, a2, a3, a4, a5] [.int s0] h = if retI (some .boolean) s0 = true then some (some (.int s0), h) else Rx d 143 110 [a0, a1, a2, a3, a4, a5] [.int s0] h := Rf_ife (fun hk => by rw [stp_of c143_110]; exact if_pos hk)
theorem c143_61 : cd 143 61 = some (61, .aload_n 0, 1, []) := by decide +kernel
theorem x143_61 {d : Nat} {a1 a2 a3 a4 a5 : Value} {x : Nat} {h : AHp} : Rf d 143 61 [.ref x, a1, a2, a3, a4, a5] [] h = Rf d 143 62 [.ref x, a1, a2, a3, a4, a5] [.ref x] h := Rf_go ((stp_of c143_61).trans rfl)
theorem c143_62 : cd 143 62 = some (62, .iload_n 3, 1, []) := by decide +kernel
theorem x143_62 {d : Nat} {a0 a1 a2 a4 a5 : Value} {s0 : Nat} {x : Int32} {h : AHp} : Rf d 143 62 [a0, a1, a2, .int x, a4, a5] [.ref s0] h = Rf d 143 63 [a0, a1, a2, .int x, a4, a5] [.int x, .ref s0] h := Rf_go ((stp_of c143_62).trans rfl)
theorem c143_63 : cd 143 63 = some (63, .ifCond .ne 8, 3, [(71, 0)]) := by decide +kernel
theorem x143_63 {d : Nat} {a0 a1 a2 a3 a4 a5 : Value} {s0 : Int32} {s1 : Nat} {h : AHp} : Rf d 143 63 [a0, a1, a2, a3, a4, a5] [.int s0, .ref s1] h = if s0 = 0 then Rf d 143 66 [a0, a1, a2, a3, a4, a5] [.ref s1] h else Rf d 143 71 [a0, a1, a2, a3, a4, a5] [.ref s1] h := Rf_brn ((stp_of c143_63).trans rfl)
theorem c143_71 : cd 143 71 = some (71, .iload_n 3, 1, []) := by decide +kernel
theorem x143_71 {d : Nat} {a0 a1 a2 a4 a5 : Value} {s0 : Nat} {x : Int32} {h : AHp} : Rf d 143 71 [a0, a1, a2, .int x, a4, a5] [.ref s0] h = Rf d 143 72 [a0, a1, a2, .int x, a4, a5] [.int x, .ref s0] h := Rf_go ((stp_of c143_71).trans rfl)
theorem c143_72 : cd 143 72 = some (72, .iconst 1, 1, []) := by decide +kernel
theorem x143_72 {d : Nat} {a0 a1 a2 a3 a4 a5 : Value} {s0 : Int32} {s1 : Nat} {h : AHp} : Rf d 143 72 [a0, a1, a2, a3, a4, a5] [.int s0, .ref s1] h = Rf d 143 73 [a0, a1, a2, a3, a4, a5] [.int 1, .int s0, .ref s1] h := Rf_go ((stp_of c143_72).trans rfl)
theorem c143_73 : cd 143 73 = some (73, .if_icmp .ne 8, 3, [(81, 0)]) := by decide +kernel
theorem x143_73 {d : Nat} {a0 a1 a2 a3 a4 a5 : Value} {s0 : Int32} {s1 : Int32} {s2 : Nat} {h : AHp} : Rf d 143 73 [a0, a1, a2, a3, a4, a5] [.int s0, .int s1, .ref s2] h = if s1 = s0 then Rf d 143 76 [a0, a1, a2, a3, a4, a5] [.ref s2] h else Rf d 143 81 [a0, a1, a2, a3, a4, a5] [.ref s2] h := Rf_brn ((stp_of c143_73).trans rfl)
theorem c143_81 : cd 143 81 = some (81, .iload_n 3, 1, []) := by decide +kernel
theorem x143_81 {d : Nat} {a0 a1 a2 a4 a5 : Value} {s0 : Nat} {x : Int32} {h : AHp} : Rf d 143 81 [a0, a1, a2, .int x, a4, a5] [.ref s0] h = Rf d 143 82 [a0, a1, a2, .int x, a4, a5] [.int x, .ref s0] h := Rf_go ((stp_of c143_81).trans rfl)
theorem c143_82 : cd 143 82 = some (82, .iconst 2, 1, []) := by decide +kernel
theorem x143_82 {d : Nat} {a0 a1 a2 a3 a4 a5 : Value} {s0 : Int32} {s1 : Nat} {h : AHp} : Rf d 143 82 [a0, a1, a2, a3, a4, a5] [.int s0, .ref s1] h = Rf d 143 83 [a0, a1, a2, a3, a4, a5] [.int 2, .int s0, .ref s1] h := Rf_go ((stp_of c143_82).trans rfl)
theorem c143_83 : cd 143 83 = some (83, .if_icmp .ne 8, 3, [(91, 0)]) := by decide +kernel
theorem x143_83 {d : Nat} {a0 a1 a2 a3 a4 a5 : Value} {s0 : Int32} {s1 : Int32} {s2 : Nat} {h : AHp} : Rf d 143 83 [a0, a1, a2, a3, a4, a5] [.int s0, .int s1, .ref s2] h = if s1 = s0 then Rf d 143 86 [a0, a1, a2, a3, a4, a5] [.ref s2] h else Rf d 143 91 [a0, a1, a2, a3, a4, a5] [.ref s2] h := Rf_brn ((stp_of c143_83).trans rfl)
theorem c143_91 : cd 143 91 = some (91, .iload_n 3, 1, []) := by decide +kernel
theorem x143_91 {d : Nat} {a0 a1 a2 a4 a5 : Value} {s0 : Nat} {x : Int32} {h : AHp} : Rf d 143 91 [a0, a1, a2, .int x, a4, a5] [.ref s0] h = Rf d 143 92 [a0, a1, a2, .int x, a4, a5] [.int x, .ref s0] h := Rf_go ((stp_of c143_91).trans rfl)
theorem c143_92 : cd 143 92 = some (92, .iconst 3, 1, []) := by decide +kernel
theorem x143_92 {d : Nat} {a0 a1 a2 a3 a4 a5 : Value} {s0 : Int32} {s1 : Nat} {h : AHp} : Rf d 143 92 [a0, a1, a2, a3, a4, a5] [.int s0, .ref s1] h = Rf d 143 93 [a0, a1, a2, a3, a4, a5] [.int 3, .int s0, .ref s1] h := Rf_go ((stp_of c143_92).trans rfl)
theorem c143_93 : cd 143 93 = some (93, .if_icmp .ne 8, 3, [(101, 0)]) := by decide +kernel
theorem x143_93 {d : Nat} {a0 a1 a2 a3 a4 a5 : Value} {s0 : Int32} {s1 : Int32} {s2 : Nat} {h : AHp} : Rf d 143 93 [a0, a1, a2, a3, a4, a5] [.int s0, .int s1, .ref s2] h = if s1 = s0 then Rf d 143 96 [a0, a1, a2, a3, a4, a5] [.ref s2] h else Rf d 143 101 [a0, a1, a2, a3, a4, a5] [.ref s2] h := Rf_brn ((stp_of c143_93).trans rfl)
theorem c143_101 : cd 143 101 = some (101, .ldc 91, 2, [(1, 14)]) := by decide +kernel
theorem x143_101 {d : Nat} {a0 a1 a2 a3 a4 a5 : Value} {s0 : Nat} {h : AHp} : Rf d 143 101 [a0, a1, a2, a3, a4, a5] [.ref s0] h = Rf d 143 103 [a0, a1, a2, a3, a4, a5] [.ref 14, .ref s0] h := Rf_go ((stp_of c143_101).trans rfl)
theorem c143_103 : cd 143 103 = some (103, .invokevirtual 93, 3, [(12, 136)]) := by decide +kernel
theorem xc143_103 {d : Nat} {a0 a1 a2 a3 a4 a5 : Value} {s0 : Nat} {s1 : Nat} {h : AHp} {h1 : AHp} {v : Int32} (hr : cls (h.1 s1) = 12) (hq : Rf d 136 0 [.ref s1, .ref s0, noV] [] h = some (some (.int v), h1)) : Rf (d + 1) 143 103 [a0, a1, a2, a3, a4, a5] [.ref s0, .ref s1] h = Rf (d + 1) 143 106 [a0, a1, a2, a3, a4, a5] [.int v] h1 := clV (c := 136) (as := [.ref s0]) c143_103 rfl (by simp [isV]) (by rw [hr]; rfl) hq
theorem c143_106 : cd 143 106 = some (106, .ifCond .ne 5, 3, [(111, 0)]) := by decide +kernel
theorem x143_106 {d : Nat} {a0 a1 a2 a3 a4 a5 : Value} {s0 : Int32} {h : AHp} : Rf d 143 106 [a0, a1, a2, a3, a4, a5] [.int s0] h = if s0 = 0 then Rf d 143 109 [a0, a1, a2, a3, a4, a5] [] h else Rf d 143 111 [a0, a1, a2, a3, a4, a5] [] h := Rf_brn ((stp_of c143_106).trans rfl)
theorem c143_111 : cd 143 111 = some (111, .aload_n 0, 1, []) := by decide +kernel
theorem x143_111 {d : Nat} {a1 a2 a3 a4 a5 : Value} {x : Nat} {h : AHp} : Rf d 143 111 [.ref x, a1, a2, a3, a4, a5] [] h = Rf d 143 112 [.ref x, a1, a2, a3, a4, a5] [.ref x] h := Rf_go ((stp_of c143_111).trans rfl)
theorem c143_112 : cd 143 112 = some (112, .invokevirtual 80, 3, [(12, 138)]) := by decide +kernel
theorem xc143_112 {d : Nat} {a0 a1 a2 a3 a4 a5 : Value} {s0 : Nat} {h : AHp} {h1 : AHp} {v : Int32} (hr : cls (h.1 s0) = 12) (hq : Rf d 138 0 [.ref s0, noV, noV] [] h = some (some (.int v), h1)) : Rf (d + 1) 143 112 [a0, a1, a2, a3, a4, a5] [.ref s0] h = Rf (d + 1) 143 115 [a0, a1, a2, a3, a4, a5] [.int v] h1 := clV (c := 138) (as := []) c143_112 rfl (by simp [isV]) (by rw [hr]; rfl) hq
theorem c143_115 : cd 143 115 = some (115, .istore 4, 2, []) := by decide +kernel
theorem x143_115 {d : Nat} {a0 a1 a2 a3 a4 a5 : Value} {s0 : Int32} {h : AHp} : Rf d 143 115 [a0, a1, a2, a3, a4, a5] [.int s0] h = Rf d 143 117 [a0, a1, a2, a3, .int s0, a5] [] h := Rf_go ((stp_of c143_115).trans rfl)
theorem c143_117 : cd 143 117 = some (117, .iload 4, 2, []) := by decide +kernel
theorem x143_117 {d : Nat} {a0 a1 a2 a3 a5 : Value} {x : Int32} {h : AHp} : Rf d 143 117 [a0, a1, a2, a3, .int x, a5] [] h = Rf d 143 119 [a0, a1, a2, a3, .int x, a5] [.int x] h := Rf_go ((stp_of c143_117).trans rfl)
theorem c143_119 : cd 143 119 = some (119, .ifCond .ge 5, 3, [(124, 0)]) := by decide +kernel
theorem x143_119 {d : Nat} {a0 a1 a2 a3 a4 a5 : Value} {s0 : Int32} {h : AHp} : Rf d 143 119 [a0, a1, a2, a3, a4, a5] [.int s0] h = if s0 < 0 then Rf d 143 122 [a0, a1, a2, a3, a4, a5] [] h else Rf d 143 124 [a0, a1, a2, a3, a4, a5] [] h := Rf_brn ((stp_of c143_119).trans rfl)
theorem c143_124 : cd 143 124 = some (124, .bipush 10, 2, []) := by decide +kernel
theorem x143_124 {d : Nat} {a0 a1 a2 a3 a4 a5 : Value} {h : AHp} : Rf d 143 124 [a0, a1, a2, a3, a4, a5] [] h = Rf d 143 126 [a0, a1, a2, a3, a4, a5] [.int 10] h := Rf_go ((stp_of c143_124).trans rfl)
theorem c143_126 : cd 143 126 = some (126, .aload_n 0, 1, []) := by decide +kernel
theorem x143_126 {d : Nat} {a1 a2 a3 a4 a5 : Value} {s0 : Int32} {x : Nat} {h : AHp} : Rf d 143 126 [.ref x, a1, a2, a3, a4, a5] [.int s0] h = Rf d 143 127 [.ref x, a1, a2, a3, a4, a5] [.ref x, .int s0] h := Rf_go ((stp_of c143_126).trans rfl)
theorem c143_127 : cd 143 127 = some (127, .getfield 9, 3, [(12, 0)]) := by decide +kernel
theorem x143_127 {d : Nat} {a0 a1 a2 a3 a4 a5 : Value} {s0 : Nat} {s1 : Int32} {h : AHp} : Rf d 143 127 [a0, a1, a2, a3, a4, a5] [.ref s0, .int s1] h = if cls (h.1 s0) = 12 ∧ oKr (h.1 s0) 0 = true then Rf d 143 130 [a0, a1, a2, a3, a4, a5] [.ref (oR (h.1 s0) 0), .int s1] h else Rx d 143 127 [a0, a1, a2, a3, a4, a5] [.ref s0, .int s1] h := getR c143_127
theorem c143_130 : cd 143 130 = some (130, .iconst 1, 1, []) := by decide +kernel
theorem x143_130 {d : Nat} {a0 a1 a2 a3 a4 a5 : Value} {s0 : Nat} {s1 : Int32} {h : AHp} : Rf d 143 130 [a0, a1, a2, a3, a4, a5] [.ref s0, .int s1] h = Rf d 143 131 [a0, a1, a2, a3, a4, a5] [.int 1, .ref s0, .int s1] h := Rf_go ((stp_of c143_130).trans rfl)
theorem c143_131 : cd 143 131 = some (131, .iaload, 1, []) := by decide +kernel
theorem x143_131 {d : Nat} {a0 a1 a2 a3 a4 a5 : Value} {s0 : Int32} {s1 : Nat} {s2 : Int32} {h : AHp} : Rf d 143 131 [a0, a1, a2, a3, a4, a5] [.int s0, .ref s1, .int s2] h = if (aT (h.1 s1) = 0 ∨ aT (h.1 s1) = 10) ∧ inB s0 (aN (h.1 s1)) = true then Rf d 143 132 [a0, a1, a2, a3, a4, a5] [.int (aF (h.1 s1) s0.toNatClampNeg), .int s2] h else Rx d 143 131 [a0, a1, a2, a3, a4, a5] [.int s0, .ref s1, .int s2] h := ldI c143_131
theorem c143_132 : cd 143 132 = some (132, .imul, 1, []) := by decide +kernel
theorem x143_132 {d : Nat} {a0 a1 a2 a3 a4 a5 : Value} {s0 : Int32} {s1 : Int32} {h : AHp} : Rf d 143 132 [a0, a1, a2, a3, a4, a5] [.int s0, .int s1] h = Rf d 143 133 [a0, a1, a2, a3, a4, a5] [.int (s1 * s0)] h := Rf_go ((stp_of c143_132).trans rfl)
theorem c143_133 : cd 143 133 = some (133, .iload_n 1, 1, []) := by decide +kernel
theorem x143_133 {d : Nat} {a0 a2 a3 a4 a5 : Value} {s0 : Int32} {x : Int32} {h : AHp} : Rf d 143 133 [a0, .int x, a2, a3, a4, a5] [.int s0] h = Rf d 143 134 [a0, .int x, a2, a3, a4, a5] [.int x, .int s0] h := Rf_go ((stp_of c143_133).trans rfl)
theorem c143_134 : cd 143 134 = some (134, .iadd, 1, []) := by decide +kernel
theorem x143_134 {d : Nat} {a0 a1 a2 a3 a4 a5 : Value} {s0 : Int32} {s1 : Int32} {h : AHp} : Rf d 143 134 [a0, a1, a2, a3, a4, a5] [.int s0, .int s1] h = Rf d 143 135 [a0, a1, a2, a3, a4, a5] [.int (s1 + s0)] h := Rf_go ((stp_of c143_134).trans rfl)
theorem c143_135 : cd 143 135 = some (135, .istore 5, 2, []) := by decide +kernel
theorem x143_135 {d : Nat} {a0 a1 a2 a3 a4 a5 : Value} {s0 : Int32} {h : AHp} : Rf d 143 135 [a0, a1, a2, a3, a4, a5] [.int s0] h = Rf d 143 137 [a0, a1, a2, a3, a4, .int s0] [] h := Rf_go ((stp_of c143_135).trans rfl)
theorem c143_137 : cd 143 137 = some (137, .aload_n 0, 1, []) := by decide +kernel
theorem x143_137 {d : Nat} {a1 a2 a3 a4 a5 : Value} {x : Nat} {h : AHp} : Rf d 143 137 [.ref x, a1, a2, a3, a4, a5] [] h = Rf d 143 138 [.ref x, a1, a2, a3, a4, a5] [.ref x] h := Rf_go ((stp_of c143_137).trans rfl)
theorem c143_138 : cd 143 138 = some (138, .getfield 9, 3, [(12, 0)]) := by decide +kernel
theorem x143_138 {d : Nat} {a0 a1 a2 a3 a4 a5 : Value} {s0 : Nat} {h : AHp} : Rf d 143 138 [a0, a1, a2, a3, a4, a5] [.ref s0] h = if cls (h.1 s0) = 12 ∧ oKr (h.1 s0) 0 = true then Rf d 143 141 [a0, a1, a2, a3, a4, a5] [.ref (oR (h.1 s0) 0)] h else Rx d 143 138 [a0, a1, a2, a3, a4, a5] [.ref s0] h := getR c143_138
theorem c143_141 : cd 143 141 = some (141, .sipush 231, 3, []) := by decide +kernel
theorem x143_141 {d : Nat} {a0 a1 a2 a3 a4 a5 : Value} {s0 : Nat} {h : AHp} : Rf d 143 141 [a0, a1, a2, a3, a4, a5] [.ref s0] h = Rf d 143 144 [a0, a1, a2, a3, a4, a5] [.int 231, .ref s0] h := Rf_go ((stp_of c143_141).trans rfl)
theorem c143_144 : cd 143 144 = some (144, .iload 5, 2, []) := by decide +kernel
theorem x143_144 {d : Nat} {a0 a1 a2 a3 a4 : Value} {s0 : Int32} {s1 : Nat} {x : Int32} {h : AHp} : Rf d 143 144 [a0, a1, a2, a3, a4, .int x] [.int s0, .ref s1] h = Rf d 143 146 [a0, a1, a2, a3, a4, .int x] [.int x, .int s0, .ref s1] h := Rf_go ((stp_of c143_144).trans rfl)
theorem c143_146 : cd 143 146 = some (146, .iadd, 1, []) := by decide +kernel
theorem x143_146 {d : Nat} {a0 a1 a2 a3 a4 a5 : Value} {s0 : Int32} {s1 : Int32} {s2 : Nat} {h : AHp} : Rf d 143 146 [a0, a1, a2, a3, a4, a5] [.int s0, .int s1, .ref s2] h = Rf d 143 147 [a0, a1, a2, a3, a4, a5] [.int (s1 + s0), .ref s2] h := Rf_go ((stp_of c143_146).trans rfl)
theorem c143_147 : cd 143 147 = some (147, .iload_n 3, 1, []) := by decide +kernel
theorem x143_147 {d : Nat} {a0 a1 a2 a4 a5 : Value} {s0 : Int32} {s1 : Nat} {x : Int32} {h : AHp} : Rf d 143 147 [a0, a1, a2, .int x, a4, a5] [.int s0, .ref s1] h = Rf d 143 148 [a0, a1, a2, .int x, a4, a5] [.int x, .int s0, .ref s1] h := Rf_go ((stp_of c143_147).trans rfl)
theorem c143_148 : cd 143 148 = some (148, .iastore, 1, []) := by decide +kernel
theorem x143_148 {d : Nat} {a0 a1 a2 a3 a4 a5 : Value} {s0 : Int32} {s1 : Int32} {s2 : Nat} {h : AHp} : Rf d 143 148 [a0, a1, a2, a3, a4, a5] [.int s0, .int s1, .ref s2] h = if aT (h.1 s2) = 0 ∧ inB s1 (aN (h.1 s2)) = true then Rf d 143 149 [a0, a1, a2, a3, a4, a5] [] (hset h s2 (.inl (0, aN (h.1 s2), .inl (upd (aF (h.1 s2)) s1.toNatClampNeg s0)))) else Rx d 143 148 [a0, a1, a2, a3, a4, a5] [.int s0, .int s1, .ref s2] h := stI c143_148
theorem c143_149 : cd 143 149 = some (149, .aload_n 0, 1, []) := by decide +kernel
theorem x143_149 {d : Nat} {a1 a2 a3 a4 a5 : Value} {x : Nat} {h : AHp} : Rf d 143 149 [.ref x, a1, a2, a3, a4, a5] [] h = Rf d 143 150 [.ref x, a1, a2, a3, a4, a5] [.ref x] h := Rf_go ((stp_of c143_149).trans rfl)
theorem c143_150 : cd 143 150 = some (150, .getfield 9, 3, [(12, 0)]) := by decide +kernel
theorem x143_150 {d : Nat} {a0 a1 a2 a3 a4 a5 : Value} {s0 : Nat} {h : AHp} : Rf d 143 150 [a0, a1, a2, a3, a4, a5] [.ref s0] h = if cls (h.1 s0) = 12 ∧ oKr (h.1 s0) 0 = true then Rf d 143 153 [a0, a1, a2, a3, a4, a5] [.ref (oR (h.1 s0) 0)] h else Rx d 143 150 [a0, a1, a2, a3, a4, a5] [.ref s0] h := getR c143_150
theorem c143_153 : cd 143 153 = some (153, .sipush 281, 3, []) := by decide +kernel
theorem x143_153 {d : Nat} {a0 a1 a2 a3 a4 a5 : Value} {s0 : Nat} {h : AHp} : Rf d 143 153 [a0, a1, a2, a3, a4, a5] [.ref s0] h = Rf d 143 156 [a0, a1, a2, a3, a4, a5] [.int 281, .ref s0] h := Rf_go ((stp_of c143_153).trans rfl)
theorem c143_156 : cd 143 156 = some (156, .iload 5, 2, []) := by decide +kernel
theorem x143_156 {d : Nat} {a0 a1 a2 a3 a4 : Value} {s0 : Int32} {s1 : Nat} {x : Int32} {h : AHp} : Rf d 143 156 [a0, a1, a2, a3, a4, .int x] [.int s0, .ref s1] h = Rf d 143 158 [a0, a1, a2, a3, a4, .int x] [.int x, .int s0, .ref s1] h := Rf_go ((stp_of c143_156).trans rfl)
theorem c143_158 : cd 143 158 = some (158, .iadd, 1, []) := by decide +kernel
theorem x143_158 {d : Nat} {a0 a1 a2 a3 a4 a5 : Value} {s0 : Int32} {s1 : Int32} {s2 : Nat} {h : AHp} : Rf d 143 158 [a0, a1, a2, a3, a4, a5] [.int s0, .int s1, .ref s2] h = Rf d 143 159 [a0, a1, a2, a3, a4, a5] [.int (s1 + s0), .ref s2] h := Rf_go ((stp_of c143_158).trans rfl)
theorem c143_159 : cd 143 159 = some (159, .iload 4, 2, []) := by decide +kernel
theorem x143_159 {d : Nat} {a0 a1 a2 a3 a5 : Value} {s0 : Int32} {s1 : Nat} {x : Int32} {h : AHp} : Rf d 143 159 [a0, a1, a2, a3, .int x, a5] [.int s0, .ref s1] h = Rf d 143 161 [a0, a1, a2, a3, .int x, a5] [.int x, .int s0, .ref s1] h := Rf_go ((stp_of c143_159).trans rfl)
theorem c143_161 : cd 143 161 = some (161, .iastore, 1, []) := by decide +kernel
theorem x143_161 {d : Nat} {a0 a1 a2 a3 a4 a5 : Value} {s0 : Int32} {s1 : Int32} {s2 : Nat} {h : AHp} : Rf d 143 161 [a0, a1, a2, a3, a4, a5] [.int s0, .int s1, .ref s2] h = if aT (h.1 s2) = 0 ∧ inB s1 (aN (h.1 s2)) = true then Rf d 143 162 [a0, a1, a2, a3, a4, a5] [] (hset h s2 (.inl (0, aN (h.1 s2), .inl (upd (aF (h.1 s2)) s1.toNatClampNeg s0)))) else Rx d 143 161 [a0, a1, a2, a3, a4, a5] [.int s0, .int s1, .ref s2] h := stI c143_161
theorem c143_162 : cd 143 162 = some (162, .aload_n 0, 1, []) := by decide +kernel
theorem x143_162 {d : Nat} {a1 a2 a3 a4 a5 : Value} {x : Nat} {h : AHp} : Rf d 143 162 [.ref x, a1, a2, a3, a4, a5] [] h = Rf d 143 163 [.ref x, a1, a2, a3, a4, a5] [.ref x] h := Rf_go ((stp_of c143_162).trans rfl)
theorem c143_163 : cd 143 163 = some (163, .getfield 9, 3, [(12, 0)]) := by decide +kernel
theorem x143_163 {d : Nat} {a0 a1 a2 a3 a4 a5 : Value} {s0 : Nat} {h : AHp} : Rf d 143 163 [a0, a1, a2, a3, a4, a5] [.ref s0] h = if cls (h.1 s0) = 12 ∧ oKr (h.1 s0) 0 = true then Rf d 143 166 [a0, a1, a2, a3, a4, a5] [.ref (oR (h.1 s0) 0)] h else Rx d 143 163 [a0, a1, a2, a3, a4, a5] [.ref s0] h := getR c143_163
theorem c143_166 : cd 143 166 = some (166, .sipush 331, 3, []) := by decide +kernel
theorem x143_166 {d : Nat} {a0 a1 a2 a3 a4 a5 : Value} {s0 : Nat} {h : AHp} : Rf d 143 166 [a0, a1, a2, a3, a4, a5] [.ref s0] h = Rf d 143 169 [a0, a1, a2, a3, a4, a5] [.int 331, .ref s0] h := Rf_go ((stp_of c143_166).trans rfl)
theorem c143_169 : cd 143 169 = some (169, .iload 5, 2, []) := by decide +kernel
theorem x143_169 {d : Nat} {a0 a1 a2 a3 a4 : Value} {s0 : Int32} {s1 : Nat} {x : Int32} {h : AHp} : Rf d 143 169 [a0, a1, a2, a3, a4, .int x] [.int s0, .ref s1] h = Rf d 143 171 [a0, a1, a2, a3, a4, .int x] [.int x, .int s0, .ref s1] h := Rf_go ((stp_of c143_169).trans rfl)
theorem c143_171 : cd 143 171 = some (171, .iadd, 1, []) := by decide +kernel
theorem x143_171 {d : Nat} {a0 a1 a2 a3 a4 a5 : Value} {s0 : Int32} {s1 : Int32} {s2 : Nat} {h : AHp} : Rf d 143 171 [a0, a1, a2, a3, a4, a5] [.int s0, .int s1, .ref s2] h = Rf d 143 172 [a0, a1, a2, a3, a4, a5] [.int (s1 + s0), .ref s2] h := Rf_go ((stp_of c143_171).trans rfl)
theorem c143_172 : cd 143 172 = some (172, .aload_n 0, 1, []) := by decide +kernel
theorem x143_172 {d : Nat} {a1 a2 a3 a4 a5 : Value} {s0 : Int32} {s1 : Nat} {x : Nat} {h : AHp} : Rf d 143 172 [.ref x, a1, a2, a3, a4, a5] [.int s0, .ref s1] h = Rf d 143 173 [.ref x, a1, a2, a3, a4, a5] [.ref x, .int s0, .ref s1] h := Rf_go ((stp_of c143_172).trans rfl)
theorem c143_173 : cd 143 173 = some (173, .getfield 60, 3, [(12, 5)]) := by decide +kernel
theorem x143_173 {d : Nat} {a0 a1 a2 a3 a4 a5 : Value} {s0 : Nat} {s1 : Int32} {s2 : Nat} {h : AHp} : Rf d 143 173 [a0, a1, a2, a3, a4, a5] [.ref s0, .int s1, .ref s2] h = if cls (h.1 s0) = 12 ∧ oKi (h.1 s0) 5 = true then Rf d 143 176 [a0, a1, a2, a3, a4, a5] [.int (oN (h.1 s0) 5), .int s1, .ref s2] h else Rx d 143 173 [a0, a1, a2, a3, a4, a5] [.ref s0, .int s1, .ref s2] h := getI c143_173
theorem c143_176 : cd 143 176 = some (176, .iastore, 1, []) := by decide +kernel
theorem x143_176 {d : Nat} {a0 a1 a2 a3 a4 a5 : Value} {s0 : Int32} {s1 : Int32} {s2 : Nat} {h : AHp} : Rf d 143 176 [a0, a1, a2, a3, a4, a5] [.int s0, .int s1, .ref s2] h = if aT (h.1 s2) = 0 ∧ inB s1 (aN (h.1 s2)) = true then Rf d 143 177 [a0, a1, a2, a3, a4, a5] [] (hset h s2 (.inl (0, aN (h.1 s2), .inl (upd (aF (h.1 s2)) s1.toNatClampNeg s0)))) else Rx d 143 176 [a0, a1, a2, a3, a4, a5] [.int s0, .int s1, .ref s2] h := stI c143_176
theorem c143_177 : cd 143 177 = some (177, .iload_n 3, 1, []) := by decide +kernel
theorem x143_177 {d : Nat} {a0 a1 a2 a4 a5 : Value} {x : Int32} {h : AHp} : Rf d 143 177 [a0, a1, a2, .int x, a4, a5] [] h = Rf d 143 178 [a0, a1, a2, .int x, a4, a5] [.int x] h := Rf_go ((stp_of c143_177).trans rfl)
theorem c143_178 : cd 143 178 = some (178, .iconst 3, 1, []) := by decide +kernel
theorem x143_178 {d : Nat} {a0 a1 a2 a3 a4 a5 : Value} {s0 : Int32} {h : AHp} : Rf d 143 178 [a0, a1, a2, a3, a4, a5] [.int s0] h = Rf d 143 179 [a0, a1, a2, a3, a4, a5] [.int 3, .int s0] h := Rf_go ((stp_of c143_178).trans rfl)
theorem c143_179 : cd 143 179 = some (179, .if_icmp .ge 21, 3, [(200, 0)]) := by decide +kernel
theorem x143_179 {d : Nat} {a0 a1 a2 a3 a4 a5 : Value} {s0 : Int32} {s1 : Int32} {h : AHp} : Rf d 143 179 [a0, a1, a2, a3, a4, a5] [.int s0, .int s1] h = if s1 < s0 then Rf d 143 182 [a0, a1, a2, a3, a4, a5] [] h else Rf d 143 200 [a0, a1, a2, a3, a4, a5] [] h := Rf_brn ((stp_of c143_179).trans rfl)
theorem c143_200 : cd 143 200 = some (200, .aload_n 0, 1, []) := by decide +kernel
theorem x143_200 {d : Nat} {a1 a2 a3 a4 a5 : Value} {x : Nat} {h : AHp} : Rf d 143 200 [.ref x, a1, a2, a3, a4, a5] [] h = Rf d 143 201 [.ref x, a1, a2, a3, a4, a5] [.ref x] h := Rf_go ((stp_of c143_200).trans rfl)
theorem c143_201 : cd 143 201 = some (201, .getfield 9, 3, [(12, 0)]) := by decide +kernel
theorem x143_201 {d : Nat} {a0 a1 a2 a3 a4 a5 : Value} {s0 : Nat} {h : AHp} : Rf d 143 201 [a0, a1, a2, a3, a4, a5] [.ref s0] h = if cls (h.1 s0) = 12 ∧ oKr (h.1 s0) 0 = true then Rf d 143 204 [a0, a1, a2, a3, a4, a5] [.ref (oR (h.1 s0) 0)] h else Rx d 143 201 [a0, a1, a2, a3, a4, a5] [.ref s0] h := getR c143_201
theorem c143_204 : cd 143 204 = some (204, .sipush 381, 3, []) := by decide +kernel
theorem x143_204 {d : Nat} {a0 a1 a2 a3 a4 a5 : Value} {s0 : Nat} {h : AHp} : Rf d 143 204 [a0, a1, a2, a3, a4, a5] [.ref s0] h = Rf d 143 207 [a0, a1, a2, a3, a4, a5] [.int 381, .ref s0] h := Rf_go ((stp_of c143_204).trans rfl)
theorem c143_207 : cd 143 207 = some (207, .iload 5, 2, []) := by decide +kernel
theorem x143_207 {d : Nat} {a0 a1 a2 a3 a4 : Value} {s0 : Int32} {s1 : Nat} {x : Int32} {h : AHp} : Rf d 143 207 [a0, a1, a2, a3, a4, .int x] [.int s0, .ref s1] h = Rf d 143 209 [a0, a1, a2, a3, a4, .int x] [.int x, .int s0, .ref s1] h := Rf_go ((stp_of c143_207).trans rfl)
theorem c143_209 : cd 143 209 = some (209, .iadd, 1, []) := by decide +kernel
theorem x143_209 {d : Nat} {a0 a1 a2 a3 a4 a5 : Value} {s0 : Int32} {s1 : Int32} {s2 : Nat} {h : AHp} : Rf d 143 209 [a0, a1, a2, a3, a4, a5] [.int s0, .int s1, .ref s2] h = Rf d 143 210 [a0, a1, a2, a3, a4, a5] [.int (s1 + s0), .ref s2] h := Rf_go ((stp_of c143_209).trans rfl)
theorem c143_210 : cd 143 210 = some (210, .aload_n 0, 1, []) := by decide +kernel
theorem x143_210 {d : Nat} {a1 a2 a3 a4 a5 : Value} {s0 : Int32} {s1 : Nat} {x : Nat} {h : AHp} : Rf d 143 210 [.ref x, a1, a2, a3, a4, a5] [.int s0, .ref s1] h = Rf d 143 211 [.ref x, a1, a2, a3, a4, a5] [.ref x, .int s0, .ref s1] h := Rf_go ((stp_of c143_210).trans rfl)
theorem c143_211 : cd 143 211 = some (211, .getfield 60, 3, [(12, 5)]) := by decide +kernel
theorem x143_211 {d : Nat} {a0 a1 a2 a3 a4 a5 : Value} {s0 : Nat} {s1 : Int32} {s2 : Nat} {h : AHp} : Rf d 143 211 [a0, a1, a2, a3, a4, a5] [.ref s0, .int s1, .ref s2] h = if cls (h.1 s0) = 12 ∧ oKi (h.1 s0) 5 = true then Rf d 143 214 [a0, a1, a2, a3, a4, a5] [.int (oN (h.1 s0) 5), .int s1, .ref s2] h else Rx d 143 211 [a0, a1, a2, a3, a4, a5] [.ref s0, .int s1, .ref s2] h := getI c143_211
theorem c143_214 : cd 143 214 = some (214, .iastore, 1, []) := by decide +kernel
theorem x143_214 {d : Nat} {a0 a1 a2 a3 a4 a5 : Value} {s0 : Int32} {s1 : Int32} {s2 : Nat} {h : AHp} : Rf d 143 214 [a0, a1, a2, a3, a4, a5] [.int s0, .int s1, .ref s2] h = if aT (h.1 s2) = 0 ∧ inB s1 (aN (h.1 s2)) = true then Rf d 143 215 [a0, a1, a2, a3, a4, a5] [] (hset h s2 (.inl (0, aN (h.1 s2), .inl (upd (aF (h.1 s2)) s1.toNatClampNeg s0)))) else Rx d 143 214 [a0, a1, a2, a3, a4, a5] [.int s0, .int s1, .ref s2] h := stI c143_214
theorem c143_215 : cd 143 215 = some (215, .iconst 1, 1, []) := by decide +kernel
theorem x143_215 {d : Nat} {a0 a1 a2 a3 a4 a5 : Value} {h : AHp} : Rf d 143 215 [a0, a1, a2, a3, a4, a5] [] h = Rf d 143 216 [a0, a1, a2, a3, a4, a5] [.int 1] h := Rf_go ((stp_of c143_215).trans rfl)
theorem c143_216 : cd 143 216 = some (216, .ireturn, 1, []) := by decide +kernel
theorem x143_216 {d : Nat} {a0 a1 a2 a3 a4 a5 : Value} {s0 : Int32} {h : AHp} : Rf d 143 216 [a0, a1, a2, a3, a4, a5] [.int s0] h = if retI (some .boolean) s0 = true then some (some (.int s0), h) else Rx d 143 216 [a0, a1, a2, a3, a4, a5] [.int s0] h := Rf_ife (fun hk => by rw [stp_of c143_216]; exact if_pos hk)
theorem c143_182 : cd 143 182 = some (182, .aload_n 0, 1, []) := by decide +kernel
theorem x143_182 {d : Nat} {a1 a2 a3 a4 a5 : Value} {x : Nat} {h : AHp} : Rf d 143 182 [.ref x, a1, a2, a3, a4, a5] [] h = Rf d 143 183 [.ref x, a1, a2, a3, a4, a5] [.ref x] h := Rf_go ((stp_of c143_182).trans rfl)
theorem c143_183 : cd 143 183 = some (183, .bipush 32, 2, []) := by decide +kernel
theorem x143_183 {d : Nat} {a0 a1 a2 a3 a4 a5 : Value} {s0 : Nat} {h : AHp} : Rf d 143 183 [a0, a1, a2, a3, a4, a5] [.ref s0] h = Rf d 143 185 [a0, a1, a2, a3, a4, a5] [.int 32, .ref s0] h := Rf_go ((stp_of c143_183).trans rfl)
theorem c143_185 : cd 143 185 = some (185, .invokevirtual 52, 3, [(12, 135)]) := by decide +kernel
theorem xc143_185 {d : Nat} {a0 a1 a2 a3 a4 a5 : Value} {s0 : Int32} {s1 : Nat} {h : AHp} {h1 : AHp} {v : Int32} (hr : cls (h.1 s1) = 12) (hq : Rf d 135 0 [.ref s1, .int s0] [] h = some (some (.int v), h1)) : Rf (d + 1) 143 185 [a0, a1, a2, a3, a4, a5] [.int s0, .ref s1] h = Rf (d + 1) 143 188 [a0, a1, a2, a3, a4, a5] [.int v] h1 := clV (c := 135) (as := [.int s0]) c143_185 rfl (by simp [isV]) (by rw [hr]; rfl) hq
theorem c143_188 : cd 143 188 = some (188, .ifCond .eq 10, 3, [(198, 0)]) := by decide +kernel
theorem x143_188 {d : Nat} {a0 a1 a2 a3 a4 a5 : Value} {s0 : Int32} {h : AHp} : Rf d 143 188 [a0, a1, a2, a3, a4, a5] [.int s0] h = if s0 = 0 then Rf d 143 198 [a0, a1, a2, a3, a4, a5] [] h else Rf d 143 191 [a0, a1, a2, a3, a4, a5] [] h := Rf_brd ((stp_of c143_188).trans rfl)
theorem c143_198 : cd 143 198 = some (198, .iconst 0, 1, []) := by decide +kernel
theorem x143_198 {d : Nat} {a0 a1 a2 a3 a4 a5 : Value} {h : AHp} : Rf d 143 198 [a0, a1, a2, a3, a4, a5] [] h = Rf d 143 199 [a0, a1, a2, a3, a4, a5] [.int 0] h := Rf_go ((stp_of c143_198).trans rfl)
theorem c143_199 : cd 143 199 = some (199, .ireturn, 1, []) := by decide +kernel
theorem x143_199 {d : Nat} {a0 a1 a2 a3 a4 a5 : Value} {s0 : Int32} {h : AHp} : Rf d 143 199 [a0, a1, a2, a3, a4, a5] [.int s0] h = if retI (some .boolean) s0 = true then some (some (.int s0), h) else Rx d 143 199 [a0, a1, a2, a3, a4, a5] [.int s0] h := Rf_ife (fun hk => by rw [stp_of c143_199]; exact if_pos hk)
theorem c143_191 : cd 143 191 = some (191, .aload_n 0, 1, []) := by decide +kernel
theorem x143_191 {d : Nat} {a1 a2 a3 a4 a5 : Value} {x : Nat} {h : AHp} : Rf d 143 191 [.ref x, a1, a2, a3, a4, a5] [] h = Rf d 143 192 [.ref x, a1, a2, a3, a4, a5] [.ref x] h := Rf_go ((stp_of c143_191).trans rfl)
theorem c143_192 : cd 143 192 = some (192, .invokevirtual 77, 3, [(12, 140)]) := by decide +kernel
theorem xc143_192 {d : Nat} {a0 a1 a2 a3 a4 a5 : Value} {s0 : Nat} {h : AHp} {h1 : AHp} {v : Int32} (hr : cls (h.1 s0) = 12) (hq : Rf d 140 0 [.ref s0] [] h = some (some (.int v), h1)) : Rf (d + 1) 143 192 [a0, a1, a2, a3, a4, a5] [.ref s0] h = Rf (d + 1) 143 195 [a0, a1, a2, a3, a4, a5] [.int v] h1 := clV (c := 140) (as := []) c143_192 rfl (by simp [isV]) (by rw [hr]; rfl) hq
theorem c143_195 : cd 143 195 = some (195, .ifCond .ne 5, 3, [(200, 0)]) := by decide +kernel
theorem x143_195 {d : Nat} {a0 a1 a2 a3 a4 a5 : Value} {s0 : Int32} {h : AHp} : Rf d 143 195 [a0, a1, a2, a3, a4, a5] [.int s0] h = if s0 = 0 then Rf d 143 198 [a0, a1, a2, a3, a4, a5] [] h else Rf d 143 200 [a0, a1, a2, a3, a4, a5] [] h := Rf_brn ((stp_of c143_195).trans rfl)
theorem c143_122 : cd 143 122 = some (122, .iconst 0, 1, []) := by decide +kernel
theorem x143_122 {d : Nat} {a0 a1 a2 a3 a4 a5 : Value} {h : AHp} : Rf d 143 122 [a0, a1, a2, a3, a4, a5] [] h = Rf d 143 123 [a0, a1, a2, a3, a4, a5] [.int 0] h := Rf_go ((stp_of c143_122).trans rfl)
theorem c143_123 : cd 143 123 = some (123, .ireturn, 1, []) := by decide +kernel
theorem x143_123 {d : Nat} {a0 a1 a2 a3 a4 a5 : Value} {s0 : Int32} {h : AHp} : Rf d 143 123 [a0, a1, a2, a3, a4, a5] [.int s0] h = if retI (some .boolean) s0 = true then some (some (.int s0), h) else Rx d 143 123 [a0, a1, a2, a3, a4, a5] [.int s0] h := Rf_ife (fun hk => by rw [stp_of c143_123]; exact if_pos hk)
theorem c143_96 : cd 143 96 = some (96, .ldc 89, 2, [(1, 13)]) := by decide +kernel
theorem x143_96 {d : Nat} {a0 a1 a2 a3 a4 a5 : Value} {s0 : Nat} {h : AHp} : Rf d 143 96 [a0, a1, a2, a3, a4, a5] [.ref s0] h = Rf d 143 98 [a0, a1, a2, a3, a4, a5] [.ref 13, .ref s0] h := Rf_go ((stp_of c143_96).trans rfl)
theorem c143_98 : cd 143 98 = some (98, .goto 5, 3, [(103, 0)]) := by decide +kernel
theorem x143_98 {d : Nat} {a0 a1 a2 a3 a4 a5 : Value} {s0 : Nat} {s1 : Nat} {h : AHp} : Rf d 143 98 [a0, a1, a2, a3, a4, a5] [.ref s0, .ref s1] h = Rf d 143 103 [a0, a1, a2, a3, a4, a5] [.ref s0, .ref s1] h := Rf_go ((stp_of c143_98).trans rfl)
theorem c143_86 : cd 143 86 = some (86, .ldc 87, 2, [(1, 12)]) := by decide +kernel
theorem x143_86 {d : Nat} {a0 a1 a2 a3 a4 a5 : Value} {s0 : Nat} {h : AHp} : Rf d 143 86 [a0, a1, a2, a3, a4, a5] [.ref s0] h = Rf d 143 88 [a0, a1, a2, a3, a4, a5] [.ref 12, .ref s0] h := Rf_go ((stp_of c143_86).trans rfl)
theorem c143_88 : cd 143 88 = some (88, .goto 15, 3, [(103, 0)]) := by decide +kernel
theorem x143_88 {d : Nat} {a0 a1 a2 a3 a4 a5 : Value} {s0 : Nat} {s1 : Nat} {h : AHp} : Rf d 143 88 [a0, a1, a2, a3, a4, a5] [.ref s0, .ref s1] h = Rf d 143 103 [a0, a1, a2, a3, a4, a5] [.ref s0, .ref s1] h := Rf_go ((stp_of c143_88).trans rfl)
theorem c143_76 : cd 143 76 = some (76, .ldc 85, 2, [(1, 11)]) := by decide +kernel
theorem x143_76 {d : Nat} {a0 a1 a2 a3 a4 a5 : Value} {s0 : Nat} {h : AHp} : Rf d 143 76 [a0, a1, a2, a3, a4, a5] [.ref s0] h = Rf d 143 78 [a0, a1, a2, a3, a4, a5] [.ref 11, .ref s0] h := Rf_go ((stp_of c143_76).trans rfl)
theorem c143_78 : cd 143 78 = some (78, .goto 25, 3, [(103, 0)]) := by decide +kernel
theorem x143_78 {d : Nat} {a0 a1 a2 a3 a4 a5 : Value} {s0 : Nat} {s1 : Nat} {h : AHp} : Rf d 143 78 [a0, a1, a2, a3, a4, a5] [.ref s0, .ref s1] h = Rf d 143 103 [a0, a1, a2, a3, a4, a5] [.ref s0, .ref s1] h := Rf_go ((stp_of c143_78).trans rfl)
theorem c143_66 : cd 143 66 = some (66, .ldc 83, 2, [(1, 10)]) := by decide +kernel
theorem x143_66 {d : Nat} {a0 a1 a2 a3 a4 a5 : Value} {s0 : Nat} {h : AHp} : Rf d 143 66 [a0, a1, a2, a3, a4, a5] [.ref s0] h = Rf d 143 68 [a0, a1, a2, a3, a4, a5] [.ref 10, .ref s0] h := Rf_go ((stp_of c143_66).trans rfl)
theorem c143_68 : cd 143 68 = some (68, .goto 35, 3, [(103, 0)]) := by decide +kernel
theorem x143_68 {d : Nat} {a0 a1 a2 a3 a4 a5 : Value} {s0 : Nat} {s1 : Nat} {h : AHp} : Rf d 143 68 [a0, a1, a2, a3, a4, a5] [.ref s0, .ref s1] h = Rf d 143 103 [a0, a1, a2, a3, a4, a5] [.ref s0, .ref s1] h := Rf_go ((stp_of c143_68).trans rfl)
theorem c143_51 : cd 143 51 = some (51, .iconst 4, 1, []) := by decide +kernel
theorem x143_51 {d : Nat} {a0 a1 a2 a3 a4 a5 : Value} {h : AHp} : Rf d 143 51 [a0, a1, a2, a3, a4, a5] [] h = Rf d 143 52 [a0, a1, a2, a3, a4, a5] [.int 4] h := Rf_go ((stp_of c143_51).trans rfl)
theorem c143_52 : cd 143 52 = some (52, .goto 4, 3, [(56, 0)]) := by decide +kernel
theorem x143_52 {d : Nat} {a0 a1 a2 a3 a4 a5 : Value} {s0 : Int32} {h : AHp} : Rf d 143 52 [a0, a1, a2, a3, a4, a5] [.int s0] h = Rf d 143 56 [a0, a1, a2, a3, a4, a5] [.int s0] h := Rf_go ((stp_of c143_52).trans rfl)
theorem c143_41 : cd 143 41 = some (41, .iconst 3, 1, []) := by decide +kernel
theorem x143_41 {d : Nat} {a0 a1 a2 a3 a4 a5 : Value} {h : AHp} : Rf d 143 41 [a0, a1, a2, a3, a4, a5] [] h = Rf d 143 42 [a0, a1, a2, a3, a4, a5] [.int 3] h := Rf_go ((stp_of c143_41).trans rfl)
theorem c143_42 : cd 143 42 = some (42, .goto 14, 3, [(56, 0)]) := by decide +kernel
theorem x143_42 {d : Nat} {a0 a1 a2 a3 a4 a5 : Value} {s0 : Int32} {h : AHp} : Rf d 143 42 [a0, a1, a2, a3, a4, a5] [.int s0] h = Rf d 143 56 [a0, a1, a2, a3, a4, a5] [.int s0] h := Rf_go ((stp_of c143_42).trans rfl)
theorem c143_31 : cd 143 31 = some (31, .iconst 2, 1, []) := by decide +kernel
theorem x143_31 {d : Nat} {a0 a1 a2 a3 a4 a5 : Value} {h : AHp} : Rf d 143 31 [a0, a1, a2, a3, a4, a5] [] h = Rf d 143 32 [a0, a1, a2, a3, a4, a5] [.int 2] h := Rf_go ((stp_of c143_31).trans rfl)
theorem c143_32 : cd 143 32 = some (32, .goto 24, 3, [(56, 0)]) := by decide +kernel
theorem x143_32 {d : Nat} {a0 a1 a2 a3 a4 a5 : Value} {s0 : Int32} {h : AHp} : Rf d 143 32 [a0, a1, a2, a3, a4, a5] [.int s0] h = Rf d 143 56 [a0, a1, a2, a3, a4, a5] [.int s0] h := Rf_go ((stp_of c143_32).trans rfl)
theorem c143_21 : cd 143 21 = some (21, .iconst 1, 1, []) := by decide +kernel
theorem x143_21 {d : Nat} {a0 a1 a2 a3 a4 a5 : Value} {h : AHp} : Rf d 143 21 [a0, a1, a2, a3, a4, a5] [] h = Rf d 143 22 [a0, a1, a2, a3, a4, a5] [.int 1] h := Rf_go ((stp_of c143_21).trans rfl)
theorem c143_22 : cd 143 22 = some (22, .goto 34, 3, [(56, 0)]) := by decide +kernel
theorem x143_22 {d : Nat} {a0 a1 a2 a3 a4 a5 : Value} {s0 : Int32} {h : AHp} : Rf d 143 22 [a0, a1, a2, a3, a4, a5] [.int s0] h = Rf d 143 56 [a0, a1, a2, a3, a4, a5] [.int s0] h := Rf_go ((stp_of c143_22).trans rfl)
theorem c143_11 : cd 143 11 = some (11, .iconst 0, 1, []) := by decide +kernel
theorem x143_11 {d : Nat} {a0 a1 a2 a3 a4 a5 : Value} {h : AHp} : Rf d 143 11 [a0, a1, a2, a3, a4, a5] [] h = Rf d 143 12 [a0, a1, a2, a3, a4, a5] [.int 0] h := Rf_go ((stp_of c143_11).trans rfl)
theorem c143_12 : cd 143 12 = some (12, .goto 44, 3, [(56, 0)]) := by decide +kernel
theorem x143_12 {d : Nat} {a0 a1 a2 a3 a4 a5 : Value} {s0 : Int32} {h : AHp} : Rf d 143 12 [a0, a1, a2, a3, a4, a5] [.int s0] h = Rf d 143 56 [a0, a1, a2, a3, a4, a5] [.int s0] h := Rf_go ((stp_of c143_12).trans rfl)
-- 144: X12_whole
theorem c144_0 : cd 144 0 = some (0, .iconst 0, 1, []) := by decide +kernel
theorem x144_0 {d : Nat} {a0 a1 : Value} {h : AHp} : Rf d 144 0 [a0, a1] [] h = Rf d 144 1 [a0, a1] [.int 0] h := Rf_go ((stp_of c144_0).trans rfl)
theorem c144_1 : cd 144 1 = some (1, .istore_n 1, 1, []) := by decide +kernel
theorem x144_1 {d : Nat} {a0 a1 : Value} {s0 : Int32} {h : AHp} : Rf d 144 1 [a0, a1] [.int s0] h = Rf d 144 2 [a0, .int s0] [] h := Rf_go ((stp_of c144_1).trans rfl)
theorem c144_2 : cd 144 2 = some (2, .aload_n 0, 1, []) := by decide +kernel
theorem x144_2 {d : Nat} {a1 : Value} {x : Nat} {h : AHp} : Rf d 144 2 [.ref x, a1] [] h = Rf d 144 3 [.ref x, a1] [.ref x] h := Rf_go ((stp_of c144_2).trans rfl)
theorem c144_3 : cd 144 3 = some (3, .iload_n 1, 1, []) := by decide +kernel
theorem x144_3 {d : Nat} {a0 : Value} {s0 : Nat} {x : Int32} {h : AHp} : Rf d 144 3 [a0, .int x] [.ref s0] h = Rf d 144 4 [a0, .int x] [.int x, .ref s0] h := Rf_go ((stp_of c144_3).trans rfl)
theorem c144_4 : cd 144 4 = some (4, .invokevirtual 96, 3, [(12, 143)]) := by decide +kernel
theorem xc144_4 {d : Nat} {a0 a1 : Value} {s0 : Int32} {s1 : Nat} {h : AHp} {h1 : AHp} {v : Int32} (hr : cls (h.1 s1) = 12) (hq : Rf d 143 0 [.ref s1, .int s0, noV, noV, noV, noV] [] h = some (some (.int v), h1)) : Rf (d + 1) 144 4 [a0, a1] [.int s0, .ref s1] h = Rf (d + 1) 144 7 [a0, a1] [.int v] h1 := clV (c := 143) (as := [.int s0]) c144_4 rfl (by simp [isV]) (by rw [hr]; rfl) hq
theorem c144_7 : cd 144 7 = some (7, .ifCond .ne 5, 3, [(12, 0)]) := by decide +kernel
theorem x144_7 {d : Nat} {a0 a1 : Value} {s0 : Int32} {h : AHp} : Rf d 144 7 [a0, a1] [.int s0] h = if s0 = 0 then Rf d 144 10 [a0, a1] [] h else Rf d 144 12 [a0, a1] [] h := Rf_brn ((stp_of c144_7).trans rfl)
theorem c144_12 : cd 144 12 = some (12, .iinc 1 1, 3, []) := by decide +kernel
theorem x144_12 {d : Nat} {a0 : Value} {x : Int32} {h : AHp} : Rf d 144 12 [a0, .int x] [] h = Rf d 144 15 [a0, .int (x + 1)] [] h := Rf_go ((stp_of c144_12).trans rfl)
theorem c144_15 : cd 144 15 = some (15, .aload_n 0, 1, []) := by decide +kernel
theorem x144_15 {d : Nat} {a1 : Value} {x : Nat} {h : AHp} : Rf d 144 15 [.ref x, a1] [] h = Rf d 144 16 [.ref x, a1] [.ref x] h := Rf_go ((stp_of c144_15).trans rfl)
theorem c144_16 : cd 144 16 = some (16, .getfield 9, 3, [(12, 0)]) := by decide +kernel
theorem x144_16 {d : Nat} {a0 a1 : Value} {s0 : Nat} {h : AHp} : Rf d 144 16 [a0, a1] [.ref s0] h = if cls (h.1 s0) = 12 ∧ oKr (h.1 s0) 0 = true then Rf d 144 19 [a0, a1] [.ref (oR (h.1 s0) 0)] h else Rx d 144 16 [a0, a1] [.ref s0] h := getR c144_16
theorem c144_19 : cd 144 19 = some (19, .sipush 226, 3, []) := by decide +kernel
theorem x144_19 {d : Nat} {a0 a1 : Value} {s0 : Nat} {h : AHp} : Rf d 144 19 [a0, a1] [.ref s0] h = Rf d 144 22 [a0, a1] [.int 226, .ref s0] h := Rf_go ((stp_of c144_19).trans rfl)
theorem c144_22 : cd 144 22 = some (22, .aload_n 0, 1, []) := by decide +kernel
theorem x144_22 {d : Nat} {a1 : Value} {s0 : Int32} {s1 : Nat} {x : Nat} {h : AHp} : Rf d 144 22 [.ref x, a1] [.int s0, .ref s1] h = Rf d 144 23 [.ref x, a1] [.ref x, .int s0, .ref s1] h := Rf_go ((stp_of c144_22).trans rfl)
theorem c144_23 : cd 144 23 = some (23, .getfield 9, 3, [(12, 0)]) := by decide +kernel
theorem x144_23 {d : Nat} {a0 a1 : Value} {s0 : Nat} {s1 : Int32} {s2 : Nat} {h : AHp} : Rf d 144 23 [a0, a1] [.ref s0, .int s1, .ref s2] h = if cls (h.1 s0) = 12 ∧ oKr (h.1 s0) 0 = true then Rf d 144 26 [a0, a1] [.ref (oR (h.1 s0) 0), .int s1, .ref s2] h else Rx d 144 23 [a0, a1] [.ref s0, .int s1, .ref s2] h := getR c144_23
theorem c144_26 : cd 144 26 = some (26, .iconst 1, 1, []) := by decide +kernel
theorem x144_26 {d : Nat} {a0 a1 : Value} {s0 : Nat} {s1 : Int32} {s2 : Nat} {h : AHp} : Rf d 144 26 [a0, a1] [.ref s0, .int s1, .ref s2] h = Rf d 144 27 [a0, a1] [.int 1, .ref s0, .int s1, .ref s2] h := Rf_go ((stp_of c144_26).trans rfl)
theorem c144_27 : cd 144 27 = some (27, .iaload, 1, []) := by decide +kernel
theorem x144_27 {d : Nat} {a0 a1 : Value} {s0 : Int32} {s1 : Nat} {s2 : Int32} {s3 : Nat} {h : AHp} : Rf d 144 27 [a0, a1] [.int s0, .ref s1, .int s2, .ref s3] h = if (aT (h.1 s1) = 0 ∨ aT (h.1 s1) = 10) ∧ inB s0 (aN (h.1 s1)) = true then Rf d 144 28 [a0, a1] [.int (aF (h.1 s1) s0.toNatClampNeg), .int s2, .ref s3] h else Rx d 144 27 [a0, a1] [.int s0, .ref s1, .int s2, .ref s3] h := ldI c144_27
theorem c144_28 : cd 144 28 = some (28, .iadd, 1, []) := by decide +kernel
theorem x144_28 {d : Nat} {a0 a1 : Value} {s0 : Int32} {s1 : Int32} {s2 : Nat} {h : AHp} : Rf d 144 28 [a0, a1] [.int s0, .int s1, .ref s2] h = Rf d 144 29 [a0, a1] [.int (s1 + s0), .ref s2] h := Rf_go ((stp_of c144_28).trans rfl)
theorem c144_29 : cd 144 29 = some (29, .iload_n 1, 1, []) := by decide +kernel
theorem x144_29 {d : Nat} {a0 : Value} {s0 : Int32} {s1 : Nat} {x : Int32} {h : AHp} : Rf d 144 29 [a0, .int x] [.int s0, .ref s1] h = Rf d 144 30 [a0, .int x] [.int x, .int s0, .ref s1] h := Rf_go ((stp_of c144_29).trans rfl)
theorem c144_30 : cd 144 30 = some (30, .iastore, 1, []) := by decide +kernel
theorem x144_30 {d : Nat} {a0 a1 : Value} {s0 : Int32} {s1 : Int32} {s2 : Nat} {h : AHp} : Rf d 144 30 [a0, a1] [.int s0, .int s1, .ref s2] h = if aT (h.1 s2) = 0 ∧ inB s1 (aN (h.1 s2)) = true then Rf d 144 31 [a0, a1] [] (hset h s2 (.inl (0, aN (h.1 s2), .inl (upd (aF (h.1 s2)) s1.toNatClampNeg s0)))) else Rx d 144 30 [a0, a1] [.int s0, .int s1, .ref s2] h := stI c144_30
theorem c144_31 : cd 144 31 = some (31, .aload_n 0, 1, []) := by decide +kernel
theorem x144_31 {d : Nat} {a1 : Value} {x : Nat} {h : AHp} : Rf d 144 31 [.ref x, a1] [] h = Rf d 144 32 [.ref x, a1] [.ref x] h := Rf_go ((stp_of c144_31).trans rfl)
theorem c144_32 : cd 144 32 = some (32, .getfield 35, 3, [(12, 3)]) := by decide +kernel
theorem x144_32 {d : Nat} {a0 a1 : Value} {s0 : Nat} {h : AHp} : Rf d 144 32 [a0, a1] [.ref s0] h = if cls (h.1 s0) = 12 ∧ oKi (h.1 s0) 3 = true then Rf d 144 35 [a0, a1] [.int (oN (h.1 s0) 3)] h else Rx d 144 32 [a0, a1] [.ref s0] h := getI c144_32
theorem c144_35 : cd 144 35 = some (35, .aload_n 0, 1, []) := by decide +kernel
theorem x144_35 {d : Nat} {a1 : Value} {s0 : Int32} {x : Nat} {h : AHp} : Rf d 144 35 [.ref x, a1] [.int s0] h = Rf d 144 36 [.ref x, a1] [.ref x, .int s0] h := Rf_go ((stp_of c144_35).trans rfl)
theorem c144_36 : cd 144 36 = some (36, .getfield 9, 3, [(12, 0)]) := by decide +kernel
theorem x144_36 {d : Nat} {a0 a1 : Value} {s0 : Nat} {s1 : Int32} {h : AHp} : Rf d 144 36 [a0, a1] [.ref s0, .int s1] h = if cls (h.1 s0) = 12 ∧ oKr (h.1 s0) 0 = true then Rf d 144 39 [a0, a1] [.ref (oR (h.1 s0) 0), .int s1] h else Rx d 144 36 [a0, a1] [.ref s0, .int s1] h := getR c144_36
theorem c144_39 : cd 144 39 = some (39, .iconst 4, 1, []) := by decide +kernel
theorem x144_39 {d : Nat} {a0 a1 : Value} {s0 : Nat} {s1 : Int32} {h : AHp} : Rf d 144 39 [a0, a1] [.ref s0, .int s1] h = Rf d 144 40 [a0, a1] [.int 4, .ref s0, .int s1] h := Rf_go ((stp_of c144_39).trans rfl)
theorem c144_40 : cd 144 40 = some (40, .iaload, 1, []) := by decide +kernel
theorem x144_40 {d : Nat} {a0 a1 : Value} {s0 : Int32} {s1 : Nat} {s2 : Int32} {h : AHp} : Rf d 144 40 [a0, a1] [.int s0, .ref s1, .int s2] h = if (aT (h.1 s1) = 0 ∨ aT (h.1 s1) = 10) ∧ inB s0 (aN (h.1 s1)) = true then Rf d 144 41 [a0, a1] [.int (aF (h.1 s1) s0.toNatClampNeg), .int s2] h else Rx d 144 40 [a0, a1] [.int s0, .ref s1, .int s2] h := ldI c144_40
theorem c144_41 : cd 144 41 = some (41, .if_icmp .ne 5, 3, [(46, 0)]) := by decide +kernel
theorem x144_41 {d : Nat} {a0 a1 : Value} {s0 : Int32} {s1 : Int32} {h : AHp} : Rf d 144 41 [a0, a1] [.int s0, .int s1] h = if s1 = s0 then Rf d 144 44 [a0, a1] [] h else Rf d 144 46 [a0, a1] [] h := Rf_brn ((stp_of c144_41).trans rfl)
theorem c144_46 : cd 144 46 = some (46, .iload_n 1, 1, []) := by decide +kernel
theorem x144_46 {d : Nat} {a0 : Value} {x : Int32} {h : AHp} : Rf d 144 46 [a0, .int x] [] h = Rf d 144 47 [a0, .int x] [.int x] h := Rf_go ((stp_of c144_46).trans rfl)
theorem c144_47 : cd 144 47 = some (47, .bipush 10, 2, []) := by decide +kernel
theorem x144_47 {d : Nat} {a0 a1 : Value} {s0 : Int32} {h : AHp} : Rf d 144 47 [a0, a1] [.int s0] h = Rf d 144 49 [a0, a1] [.int 10, .int s0] h := Rf_go ((stp_of c144_47).trans rfl)
theorem c144_49 : cd 144 49 = some (49, .if_icmp .eq 12, 3, [(61, 0)]) := by decide +kernel
theorem x144_49 {d : Nat} {a0 a1 : Value} {s0 : Int32} {s1 : Int32} {h : AHp} : Rf d 144 49 [a0, a1] [.int s0, .int s1] h = if s1 = s0 then Rf d 144 61 [a0, a1] [] h else Rf d 144 52 [a0, a1] [] h := Rf_brd ((stp_of c144_49).trans rfl)
theorem c144_61 : cd 144 61 = some (61, .iconst 0, 1, []) := by decide +kernel
theorem x144_61 {d : Nat} {a0 a1 : Value} {h : AHp} : Rf d 144 61 [a0, a1] [] h = Rf d 144 62 [a0, a1] [.int 0] h := Rf_go ((stp_of c144_61).trans rfl)
theorem c144_62 : cd 144 62 = some (62, .ireturn, 1, []) := by decide +kernel
theorem x144_62 {d : Nat} {a0 a1 : Value} {s0 : Int32} {h : AHp} : Rf d 144 62 [a0, a1] [.int s0] h = if retI (some .boolean) s0 = true then some (some (.int s0), h) else Rx d 144 62 [a0, a1] [.int s0] h := Rf_ife (fun hk => by rw [stp_of c144_62]; exact if_pos hk)
theorem c144_52 : cd 144 52 = some (52, .aload_n 0, 1, []) := by decide +kernel
theorem x144_52 {d : Nat} {a1 : Value} {x : Nat} {h : AHp} : Rf d 144 52 [.ref x, a1] [] h = Rf d 144 53 [.ref x, a1] [.ref x] h := Rf_go ((stp_of c144_52).trans rfl)
theorem c144_53 : cd 144 53 = some (53, .bipush 59, 2, []) := by decide +kernel
theorem x144_53 {d : Nat} {a0 a1 : Value} {s0 : Nat} {h : AHp} : Rf d 144 53 [a0, a1] [.ref s0] h = Rf d 144 55 [a0, a1] [.int 59, .ref s0] h := Rf_go ((stp_of c144_53).trans rfl)
theorem c144_55 : cd 144 55 = some (55, .invokevirtual 52, 3, [(12, 135)]) := by decide +kernel
theorem xc144_55 {d : Nat} {a0 a1 : Value} {s0 : Int32} {s1 : Nat} {h : AHp} {h1 : AHp} {v : Int32} (hr : cls (h.1 s1) = 12) (hq : Rf d 135 0 [.ref s1, .int s0] [] h = some (some (.int v), h1)) : Rf (d + 1) 144 55 [a0, a1] [.int s0, .ref s1] h = Rf (d + 1) 144 58 [a0, a1] [.int v] h1 := clV (c := 135) (as := [.int s0]) c144_55 rfl (by simp [isV]) (by rw [hr]; rfl) hq
theorem c144_58 : cd 144 58 = some (58, .ifCond .ne (-56), 3, [(2, 0)]) := by decide +kernel
theorem x144_58 {d : Nat} {a0 a1 : Value} {s0 : Int32} {h : AHp} : Rf d 144 58 [a0, a1] [.int s0] h = if s0 = 0 then Rf d 144 61 [a0, a1] [] h else Rf d 144 2 [a0, a1] [] h := Rf_brn ((stp_of c144_58).trans rfl)
theorem c144_44 : cd 144 44 = some (44, .iconst 1, 1, []) := by decide +kernel
theorem x144_44 {d : Nat} {a0 a1 : Value} {h : AHp} : Rf d 144 44 [a0, a1] [] h = Rf d 144 45 [a0, a1] [.int 1] h := Rf_go ((stp_of c144_44).trans rfl)
theorem c144_45 : cd 144 45 = some (45, .ireturn, 1, []) := by decide +kernel
theorem x144_45 {d : Nat} {a0 a1 : Value} {s0 : Int32} {h : AHp} : Rf d 144 45 [a0, a1] [.int s0] h = if retI (some .boolean) s0 = true then some (some (.int s0), h) else Rx d 144 45 [a0, a1] [.int s0] h := Rf_ife (fun hk => by rw [stp_of c144_45]; exact if_pos hk)
theorem c144_10 : cd 144 10 = some (10, .iconst 0, 1, []) := by decide +kernel
theorem x144_10 {d : Nat} {a0 a1 : Value} {h : AHp} : Rf d 144 10 [a0, a1] [] h = Rf d 144 11 [a0, a1] [.int 0] h := Rf_go ((stp_of c144_10).trans rfl)
theorem c144_11 : cd 144 11 = some (11, .ireturn, 1, []) := by decide +kernel
theorem x144_11 {d : Nat} {a0 a1 : Value} {s0 : Int32} {h : AHp} : Rf d 144 11 [a0, a1] [.int s0] h = if retI (some .boolean) s0 = true then some (some (.int s0), h) else Rx d 144 11 [a0, a1] [.int s0] h := Rf_ife (fun hk => by rw [stp_of c144_11]; exact if_pos hk)
-- 145: X12_house
theorem c145_0 : cd 145 0 = some (0, .aload_n 0, 1, []) := by decide +kernel
theorem x145_0 {d : Nat} {a1 : Value} {x : Nat} {h : AHp} : Rf d 145 0 [.ref x, a1] [] h = Rf d 145 1 [.ref x, a1] [.ref x] h := Rf_go ((stp_of c145_0).trans rfl)
theorem c145_1 : cd 145 1 = some (1, .getfield 9, 3, [(12, 0)]) := by decide +kernel
theorem x145_1 {d : Nat} {a0 a1 : Value} {s0 : Nat} {h : AHp} : Rf d 145 1 [a0, a1] [.ref s0] h = if cls (h.1 s0) = 12 ∧ oKr (h.1 s0) 0 = true then Rf d 145 4 [a0, a1] [.ref (oR (h.1 s0) 0)] h else Rx d 145 1 [a0, a1] [.ref s0] h := getR c145_1
theorem c145_4 : cd 145 4 = some (4, .iconst 1, 1, []) := by decide +kernel
theorem x145_4 {d : Nat} {a0 a1 : Value} {s0 : Nat} {h : AHp} : Rf d 145 4 [a0, a1] [.ref s0] h = Rf d 145 5 [a0, a1] [.int 1, .ref s0] h := Rf_go ((stp_of c145_4).trans rfl)
theorem c145_5 : cd 145 5 = some (5, .iaload, 1, []) := by decide +kernel
theorem x145_5 {d : Nat} {a0 a1 : Value} {s0 : Int32} {s1 : Nat} {h : AHp} : Rf d 145 5 [a0, a1] [.int s0, .ref s1] h = if (aT (h.1 s1) = 0 ∨ aT (h.1 s1) = 10) ∧ inB s0 (aN (h.1 s1)) = true then Rf d 145 6 [a0, a1] [.int (aF (h.1 s1) s0.toNatClampNeg)] h else Rx d 145 5 [a0, a1] [.int s0, .ref s1] h := ldI c145_5
theorem c145_6 : cd 145 6 = some (6, .iconst 5, 1, []) := by decide +kernel
theorem x145_6 {d : Nat} {a0 a1 : Value} {s0 : Int32} {h : AHp} : Rf d 145 6 [a0, a1] [.int s0] h = Rf d 145 7 [a0, a1] [.int 5, .int s0] h := Rf_go ((stp_of c145_6).trans rfl)
theorem c145_7 : cd 145 7 = some (7, .if_icmp .ne 6, 3, [(13, 0)]) := by decide +kernel
theorem x145_7 {d : Nat} {a0 a1 : Value} {s0 : Int32} {s1 : Int32} {h : AHp} : Rf d 145 7 [a0, a1] [.int s0, .int s1] h = if s1 = s0 then Rf d 145 10 [a0, a1] [] h else Rf d 145 13 [a0, a1] [] h := Rf_brn ((stp_of c145_7).trans rfl)
theorem c145_13 : cd 145 13 = some (13, .aload_n 0, 1, []) := by decide +kernel
theorem x145_13 {d : Nat} {a1 : Value} {x : Nat} {h : AHp} : Rf d 145 13 [.ref x, a1] [] h = Rf d 145 14 [.ref x, a1] [.ref x] h := Rf_go ((stp_of c145_13).trans rfl)
theorem c145_14 : cd 145 14 = some (14, .iconst 0, 1, []) := by decide +kernel
theorem x145_14 {d : Nat} {a0 a1 : Value} {s0 : Nat} {h : AHp} : Rf d 145 14 [a0, a1] [.ref s0] h = Rf d 145 15 [a0, a1] [.int 0, .ref s0] h := Rf_go ((stp_of c145_14).trans rfl)
theorem c145_15 : cd 145 15 = some (15, .putfield 35, 3, [(12, 3)]) := by decide +kernel
theorem x145_15 {d : Nat} {a0 a1 : Value} {s0 : Int32} {s1 : Nat} {h : AHp} : Rf d 145 15 [a0, a1] [.int s0, .ref s1] h = if cls (h.1 s1) = 12 ∧ oL (h.1 s1) = 12 then Rf d 145 18 [a0, a1] [] (hset h s1 (oSet (h.1 s1) 3 (.int s0))) else Rx d 145 15 [a0, a1] [.int s0, .ref s1] h := putV c145_15 rfl (fMay_i (by decide +kernel))
theorem c145_18 : cd 145 18 = some (18, .aload_n 0, 1, []) := by decide +kernel
theorem x145_18 {d : Nat} {a1 : Value} {x : Nat} {h : AHp} : Rf d 145 18 [.ref x, a1] [] h = Rf d 145 19 [.ref x, a1] [.ref x] h := Rf_go ((stp_of c145_18).trans rfl)
theorem c145_19 : cd 145 19 = some (19, .iconst 0, 1, []) := by decide +kernel
theorem x145_19 {d : Nat} {a0 a1 : Value} {s0 : Nat} {h : AHp} : Rf d 145 19 [a0, a1] [.ref s0] h = Rf d 145 20 [a0, a1] [.int 0, .ref s0] h := Rf_go ((stp_of c145_19).trans rfl)
theorem c145_20 : cd 145 20 = some (20, .putfield 74, 3, [(12, 4)]) := by decide +kernel
theorem x145_20 {d : Nat} {a0 a1 : Value} {s0 : Int32} {s1 : Nat} {h : AHp} : Rf d 145 20 [a0, a1] [.int s0, .ref s1] h = if cls (h.1 s1) = 12 ∧ oL (h.1 s1) = 12 then Rf d 145 23 [a0, a1] [] (hset h s1 (oSet (h.1 s1) 4 (.int s0))) else Rx d 145 20 [a0, a1] [.int s0, .ref s1] h := putV c145_20 rfl (fMay_i (by decide +kernel))
theorem c145_23 : cd 145 23 = some (23, .aload_n 0, 1, []) := by decide +kernel
theorem x145_23 {d : Nat} {a1 : Value} {x : Nat} {h : AHp} : Rf d 145 23 [.ref x, a1] [] h = Rf d 145 24 [.ref x, a1] [.ref x] h := Rf_go ((stp_of c145_23).trans rfl)
theorem c145_24 : cd 145 24 = some (24, .iconst 0, 1, []) := by decide +kernel
theorem x145_24 {d : Nat} {a0 a1 : Value} {s0 : Nat} {h : AHp} : Rf d 145 24 [a0, a1] [.ref s0] h = Rf d 145 25 [a0, a1] [.int 0, .ref s0] h := Rf_go ((stp_of c145_24).trans rfl)
theorem c145_25 : cd 145 25 = some (25, .putfield 60, 3, [(12, 5)]) := by decide +kernel
theorem x145_25 {d : Nat} {a0 a1 : Value} {s0 : Int32} {s1 : Nat} {h : AHp} : Rf d 145 25 [a0, a1] [.int s0, .ref s1] h = if cls (h.1 s1) = 12 ∧ oL (h.1 s1) = 12 then Rf d 145 28 [a0, a1] [] (hset h s1 (oSet (h.1 s1) 5 (.int s0))) else Rx d 145 25 [a0, a1] [.int s0, .ref s1] h := putV c145_25 rfl (fMay_i (by decide +kernel))
theorem c145_28 : cd 145 28 = some (28, .aload_n 0, 1, []) := by decide +kernel
theorem x145_28 {d : Nat} {a1 : Value} {x : Nat} {h : AHp} : Rf d 145 28 [.ref x, a1] [] h = Rf d 145 29 [.ref x, a1] [.ref x] h := Rf_go ((stp_of c145_28).trans rfl)
theorem c145_29 : cd 145 29 = some (29, .invokevirtual 99, 3, [(12, 144)]) := by decide +kernel
theorem xc145_29 {d : Nat} {a0 a1 : Value} {s0 : Nat} {h : AHp} {h1 : AHp} {v : Int32} (hr : cls (h.1 s0) = 12) (hq : Rf d 144 0 [.ref s0, noV] [] h = some (some (.int v), h1)) : Rf (d + 1) 145 29 [a0, a1] [.ref s0] h = Rf (d + 1) 145 32 [a0, a1] [.int v] h1 := clV (c := 144) (as := []) c145_29 rfl (by simp [isV]) (by rw [hr]; rfl) hq
theorem c145_32 : cd 145 32 = some (32, .istore_n 1, 1, []) := by decide +kernel
theorem x145_32 {d : Nat} {a0 a1 : Value} {s0 : Int32} {h : AHp} : Rf d 145 32 [a0, a1] [.int s0] h = Rf d 145 33 [a0, .int s0] [] h := Rf_go ((stp_of c145_32).trans rfl)
theorem c145_33 : cd 145 33 = some (33, .aload_n 0, 1, []) := by decide +kernel
theorem x145_33 {d : Nat} {a1 : Value} {x : Nat} {h : AHp} : Rf d 145 33 [.ref x, a1] [] h = Rf d 145 34 [.ref x, a1] [.ref x] h := Rf_go ((stp_of c145_33).trans rfl)
theorem c145_34 : cd 145 34 = some (34, .getfield 9, 3, [(12, 0)]) := by decide +kernel
theorem x145_34 {d : Nat} {a0 a1 : Value} {s0 : Nat} {h : AHp} : Rf d 145 34 [a0, a1] [.ref s0] h = if cls (h.1 s0) = 12 ∧ oKr (h.1 s0) 0 = true then Rf d 145 37 [a0, a1] [.ref (oR (h.1 s0) 0)] h else Rx d 145 34 [a0, a1] [.ref s0] h := getR c145_34
theorem c145_37 : cd 145 37 = some (37, .iconst 4, 1, []) := by decide +kernel
theorem x145_37 {d : Nat} {a0 a1 : Value} {s0 : Nat} {h : AHp} : Rf d 145 37 [a0, a1] [.ref s0] h = Rf d 145 38 [a0, a1] [.int 4, .ref s0] h := Rf_go ((stp_of c145_37).trans rfl)
theorem c145_38 : cd 145 38 = some (38, .iconst 0, 1, []) := by decide +kernel
theorem x145_38 {d : Nat} {a0 a1 : Value} {s0 : Int32} {s1 : Nat} {h : AHp} : Rf d 145 38 [a0, a1] [.int s0, .ref s1] h = Rf d 145 39 [a0, a1] [.int 0, .int s0, .ref s1] h := Rf_go ((stp_of c145_38).trans rfl)
theorem c145_39 : cd 145 39 = some (39, .iastore, 1, []) := by decide +kernel
theorem x145_39 {d : Nat} {a0 a1 : Value} {s0 : Int32} {s1 : Int32} {s2 : Nat} {h : AHp} : Rf d 145 39 [a0, a1] [.int s0, .int s1, .ref s2] h = if aT (h.1 s2) = 0 ∧ inB s1 (aN (h.1 s2)) = true then Rf d 145 40 [a0, a1] [] (hset h s2 (.inl (0, aN (h.1 s2), .inl (upd (aF (h.1 s2)) s1.toNatClampNeg s0)))) else Rx d 145 39 [a0, a1] [.int s0, .int s1, .ref s2] h := stI c145_39
theorem c145_40 : cd 145 40 = some (40, .iload_n 1, 1, []) := by decide +kernel
theorem x145_40 {d : Nat} {a0 : Value} {x : Int32} {h : AHp} : Rf d 145 40 [a0, .int x] [] h = Rf d 145 41 [a0, .int x] [.int x] h := Rf_go ((stp_of c145_40).trans rfl)
theorem c145_41 : cd 145 41 = some (41, .ifCond .eq 17, 3, [(58, 0)]) := by decide +kernel
theorem x145_41 {d : Nat} {a0 a1 : Value} {s0 : Int32} {h : AHp} : Rf d 145 41 [a0, a1] [.int s0] h = if s0 = 0 then Rf d 145 58 [a0, a1] [] h else Rf d 145 44 [a0, a1] [] h := Rf_brd ((stp_of c145_41).trans rfl)
theorem c145_58 : cd 145 58 = some (58, .bipush (-10), 2, []) := by decide +kernel
theorem x145_58 {d : Nat} {a0 a1 : Value} {h : AHp} : Rf d 145 58 [a0, a1] [] h = Rf d 145 60 [a0, a1] [.int (-10)] h := Rf_go ((stp_of c145_58).trans rfl)
theorem c145_60 : cd 145 60 = some (60, .aload_n 0, 1, []) := by decide +kernel
theorem x145_60 {d : Nat} {a1 : Value} {s0 : Int32} {x : Nat} {h : AHp} : Rf d 145 60 [.ref x, a1] [.int s0] h = Rf d 145 61 [.ref x, a1] [.ref x, .int s0] h := Rf_go ((stp_of c145_60).trans rfl)
theorem c145_61 : cd 145 61 = some (61, .getfield 35, 3, [(12, 3)]) := by decide +kernel
theorem x145_61 {d : Nat} {a0 a1 : Value} {s0 : Nat} {s1 : Int32} {h : AHp} : Rf d 145 61 [a0, a1] [.ref s0, .int s1] h = if cls (h.1 s0) = 12 ∧ oKi (h.1 s0) 3 = true then Rf d 145 64 [a0, a1] [.int (oN (h.1 s0) 3), .int s1] h else Rx d 145 61 [a0, a1] [.ref s0, .int s1] h := getI c145_61
theorem c145_64 : cd 145 64 = some (64, .isub, 1, []) := by decide +kernel
theorem x145_64 {d : Nat} {a0 a1 : Value} {s0 : Int32} {s1 : Int32} {h : AHp} : Rf d 145 64 [a0, a1] [.int s0, .int s1] h = Rf d 145 65 [a0, a1] [.int (s1 - s0)] h := Rf_go ((stp_of c145_64).trans rfl)
theorem c145_65 : cd 145 65 = some (65, .ireturn, 1, []) := by decide +kernel
theorem x145_65 {d : Nat} {a0 a1 : Value} {s0 : Int32} {h : AHp} : Rf d 145 65 [a0, a1] [.int s0] h = some (some (.int s0), h) := Rf_end (by rw [stp_of c145_65]; simp only [stpI]; rw [if_pos (show retI (mH 145).2.2.1 s0 = true from retI_int)])
theorem c145_44 : cd 145 44 = some (44, .aload_n 0, 1, []) := by decide +kernel
theorem x145_44 {d : Nat} {a1 : Value} {x : Nat} {h : AHp} : Rf d 145 44 [.ref x, a1] [] h = Rf d 145 45 [.ref x, a1] [.ref x] h := Rf_go ((stp_of c145_44).trans rfl)
theorem c145_45 : cd 145 45 = some (45, .getfield 9, 3, [(12, 0)]) := by decide +kernel
theorem x145_45 {d : Nat} {a0 a1 : Value} {s0 : Nat} {h : AHp} : Rf d 145 45 [a0, a1] [.ref s0] h = if cls (h.1 s0) = 12 ∧ oKr (h.1 s0) 0 = true then Rf d 145 48 [a0, a1] [.ref (oR (h.1 s0) 0)] h else Rx d 145 45 [a0, a1] [.ref s0] h := getR c145_45
theorem c145_48 : cd 145 48 = some (48, .iconst 1, 1, []) := by decide +kernel
theorem x145_48 {d : Nat} {a0 a1 : Value} {s0 : Nat} {h : AHp} : Rf d 145 48 [a0, a1] [.ref s0] h = Rf d 145 49 [a0, a1] [.int 1, .ref s0] h := Rf_go ((stp_of c145_48).trans rfl)
theorem c145_49 : cd 145 49 = some (49, .dup2, 1, []) := by decide +kernel
theorem x145_49 {d : Nat} {a0 a1 : Value} {s0 : Int32} {s1 : Nat} {h : AHp} : Rf d 145 49 [a0, a1] [.int s0, .ref s1] h = Rf d 145 50 [a0, a1] [.int s0, .ref s1, .int s0, .ref s1] h := Rf_go ((stp_of c145_49).trans rfl)
theorem c145_50 : cd 145 50 = some (50, .iaload, 1, []) := by decide +kernel
theorem x145_50 {d : Nat} {a0 a1 : Value} {s0 : Int32} {s1 : Nat} {s2 : Int32} {s3 : Nat} {h : AHp} : Rf d 145 50 [a0, a1] [.int s0, .ref s1, .int s2, .ref s3] h = if (aT (h.1 s1) = 0 ∨ aT (h.1 s1) = 10) ∧ inB s0 (aN (h.1 s1)) = true then Rf d 145 51 [a0, a1] [.int (aF (h.1 s1) s0.toNatClampNeg), .int s2, .ref s3] h else Rx d 145 50 [a0, a1] [.int s0, .ref s1, .int s2, .ref s3] h := ldI c145_50
theorem c145_51 : cd 145 51 = some (51, .dup_x2, 1, []) := by decide +kernel
theorem x145_51 {d : Nat} {a0 a1 : Value} {s0 : Int32} {s1 : Int32} {s2 : Nat} {h : AHp} : Rf d 145 51 [a0, a1] [.int s0, .int s1, .ref s2] h = Rf d 145 52 [a0, a1] [.int s0, .int s1, .ref s2, .int s0] h := Rf_go ((stp_of c145_51).trans rfl)
theorem c145_52 : cd 145 52 = some (52, .iconst 1, 1, []) := by decide +kernel
theorem x145_52 {d : Nat} {a0 a1 : Value} {s0 : Int32} {s1 : Int32} {s2 : Nat} {s3 : Int32} {h : AHp} : Rf d 145 52 [a0, a1] [.int s0, .int s1, .ref s2, .int s3] h = Rf d 145 53 [a0, a1] [.int 1, .int s0, .int s1, .ref s2, .int s3] h := Rf_go ((stp_of c145_52).trans rfl)
theorem c145_53 : cd 145 53 = some (53, .iadd, 1, []) := by decide +kernel
theorem x145_53 {d : Nat} {a0 a1 : Value} {s0 : Int32} {s1 : Int32} {s2 : Int32} {s3 : Nat} {s4 : Int32} {h : AHp} : Rf d 145 53 [a0, a1] [.int s0, .int s1, .int s2, .ref s3, .int s4] h = Rf d 145 54 [a0, a1] [.int (s1 + s0), .int s2, .ref s3, .int s4] h := Rf_go ((stp_of c145_53).trans rfl)
theorem c145_54 : cd 145 54 = some (54, .iastore, 1, []) := by decide +kernel
theorem x145_54 {d : Nat} {a0 a1 : Value} {s0 : Int32} {s1 : Int32} {s2 : Nat} {s3 : Int32} {h : AHp} : Rf d 145 54 [a0, a1] [.int s0, .int s1, .ref s2, .int s3] h = if aT (h.1 s2) = 0 ∧ inB s1 (aN (h.1 s2)) = true then Rf d 145 55 [a0, a1] [.int s3] (hset h s2 (.inl (0, aN (h.1 s2), .inl (upd (aF (h.1 s2)) s1.toNatClampNeg s0)))) else Rx d 145 54 [a0, a1] [.int s0, .int s1, .ref s2, .int s3] h := stI c145_54
theorem c145_55 : cd 145 55 = some (55, .goto 10, 3, [(65, 0)]) := by decide +kernel
theorem x145_55 {d : Nat} {a0 a1 : Value} {s0 : Int32} {h : AHp} : Rf d 145 55 [a0, a1] [.int s0] h = Rf d 145 65 [a0, a1] [.int s0] h := Rf_go ((stp_of c145_55).trans rfl)
theorem c145_10 : cd 145 10 = some (10, .bipush (-4), 2, []) := by decide +kernel
theorem x145_10 {d : Nat} {a0 a1 : Value} {h : AHp} : Rf d 145 10 [a0, a1] [] h = Rf d 145 12 [a0, a1] [.int (-4)] h := Rf_go ((stp_of c145_10).trans rfl)
theorem c145_12 : cd 145 12 = some (12, .ireturn, 1, []) := by decide +kernel
theorem x145_12 {d : Nat} {a0 a1 : Value} {s0 : Int32} {h : AHp} : Rf d 145 12 [a0, a1] [.int s0] h = some (some (.int s0), h) := Rf_end (by rw [stp_of c145_12]; simp only [stpI]; rw [if_pos (show retI (mH 145).2.2.1 s0 = true from retI_int)])
-- 146: X12_holds
theorem c146_0 : cd 146 0 = some (0, .iconst 0, 1, []) := by decide +kernel
theorem x146_0 {d : Nat} {a0 a1 a2 a3 a4 a5 a6 a7 a8 a9 : Value} {h : AHp} : Rf d 146 0 [a0, a1, a2, a3, a4, a5, a6, a7, a8, a9] [] h = Rf d 146 1 [a0, a1, a2, a3, a4, a5, a6, a7, a8, a9] [.int 0] h := Rf_go ((stp_of c146_0).trans rfl)
theorem c146_1 : cd 146 1 = some (1, .istore_n 3, 1, []) := by decide +kernel
theorem x146_1 {d : Nat} {a0 a1 a2 a3 a4 a5 a6 a7 a8 a9 : Value} {s0 : Int32} {h : AHp} : Rf d 146 1 [a0, a1, a2, a3, a4, a5, a6, a7, a8, a9] [.int s0] h = Rf d 146 2 [a0, a1, a2, .int s0, a4, a5, a6, a7, a8, a9] [] h := Rf_go ((stp_of c146_1).trans rfl)
theorem c146_2 : cd 146 2 = some (2, .sipush 431, 3, []) := by decide +kernel
theorem x146_2 {d : Nat} {a0 a1 a2 a3 a4 a5 a6 a7 a8 a9 : Value} {h : AHp} : Rf d 146 2 [a0, a1, a2, a3, a4, a5, a6, a7, a8, a9] [] h = Rf d 146 5 [a0, a1, a2, a3, a4, a5, a6, a7, a8, a9] [.int 431] h := Rf_go ((stp_of c146_2).trans rfl)
theorem c146_5 : cd 146 5 = some (5, .bipush 100, 2, []) := by decide +kernel
theorem x146_5 {d : Nat} {a0 a1 a2 a3 a4 a5 a6 a7 a8 a9 : Value} {s0 : Int32} {h : AHp} : Rf d 146 5 [a0, a1, a2, a3, a4, a5, a6, a7, a8, a9] [.int s0] h = Rf d 146 7 [a0, a1, a2, a3, a4, a5, a6, a7, a8, a9] [.int 100, .int s0] h := Rf_go ((stp_of c146_5).trans rfl)
theorem c146_7 : cd 146 7 = some (7, .aload_n 0, 1, []) := by decide +kernel
theorem x146_7 {d : Nat} {a1 a2 a3 a4 a5 a6 a7 a8 a9 : Value} {s0 : Int32} {s1 : Int32} {x : Nat} {h : AHp} : Rf d 146 7 [.ref x, a1, a2, a3, a4, a5, a6, a7, a8, a9] [.int s0, .int s1] h = Rf d 146 8 [.ref x, a1, a2, a3, a4, a5, a6, a7, a8, a9] [.ref x, .int s0, .int s1] h := Rf_go ((stp_of c146_7).trans rfl)
theorem c146_8 : cd 146 8 = some (8, .getfield 9, 3, [(12, 0)]) := by decide +kernel
theorem x146_8 {d : Nat} {a0 a1 a2 a3 a4 a5 a6 a7 a8 a9 : Value} {s0 : Nat} {s1 : Int32} {s2 : Int32} {h : AHp} : Rf d 146 8 [a0, a1, a2, a3, a4, a5, a6, a7, a8, a9] [.ref s0, .int s1, .int s2] h = if cls (h.1 s0) = 12 ∧ oKr (h.1 s0) 0 = true then Rf d 146 11 [a0, a1, a2, a3, a4, a5, a6, a7, a8, a9] [.ref (oR (h.1 s0) 0), .int s1, .int s2] h else Rx d 146 8 [a0, a1, a2, a3, a4, a5, a6, a7, a8, a9] [.ref s0, .int s1, .int s2] h := getR c146_8
theorem c146_11 : cd 146 11 = some (11, .iconst 1, 1, []) := by decide +kernel
theorem x146_11 {d : Nat} {a0 a1 a2 a3 a4 a5 a6 a7 a8 a9 : Value} {s0 : Nat} {s1 : Int32} {s2 : Int32} {h : AHp} : Rf d 146 11 [a0, a1, a2, a3, a4, a5, a6, a7, a8, a9] [.ref s0, .int s1, .int s2] h = Rf d 146 12 [a0, a1, a2, a3, a4, a5, a6, a7, a8, a9] [.int 1, .ref s0, .int s1, .int s2] h := Rf_go ((stp_of c146_11).trans rfl)
theorem c146_12 : cd 146 12 = some (12, .iaload, 1, []) := by decide +kernel
theorem x146_12 {d : Nat} {a0 a1 a2 a3 a4 a5 a6 a7 a8 a9 : Value} {s0 : Int32} {s1 : Nat} {s2 : Int32} {s3 : Int32} {h : AHp} : Rf d 146 12 [a0, a1, a2, a3, a4, a5, a6, a7, a8, a9] [.int s0, .ref s1, .int s2, .int s3] h = if (aT (h.1 s1) = 0 ∨ aT (h.1 s1) = 10) ∧ inB s0 (aN (h.1 s1)) = true then Rf d 146 13 [a0, a1, a2, a3, a4, a5, a6, a7, a8, a9] [.int (aF (h.1 s1) s0.toNatClampNeg), .int s2, .int s3] h else Rx d 146 12 [a0, a1, a2, a3, a4, a5, a6, a7, a8, a9] [.int s0, .ref s1, .int s2, .int s3] h := ldI c146_12
theorem c146_13 : cd 146 13 = some (13, .iconst 1, 1, []) := by decide +kernel
theorem x146_13 {d : Nat} {a0 a1 a2 a3 a4 a5 a6 a7 a8 a9 : Value} {s0 : Int32} {s1 : Int32} {s2 : Int32} {h : AHp} : Rf d 146 13 [a0, a1, a2, a3, a4, a5, a6, a7, a8, a9] [.int s0, .int s1, .int s2] h = Rf d 146 14 [a0, a1, a2, a3, a4, a5, a6, a7, a8, a9] [.int 1, .int s0, .int s1, .int s2] h := Rf_go ((stp_of c146_13).trans rfl)
theorem c146_14 : cd 146 14 = some (14, .isub, 1, []) := by decide +kernel
theorem x146_14 {d : Nat} {a0 a1 a2 a3 a4 a5 a6 a7 a8 a9 : Value} {s0 : Int32} {s1 : Int32} {s2 : Int32} {s3 : Int32} {h : AHp} : Rf d 146 14 [a0, a1, a2, a3, a4, a5, a6, a7, a8, a9] [.int s0, .int s1, .int s2, .int s3] h = Rf d 146 15 [a0, a1, a2, a3, a4, a5, a6, a7, a8, a9] [.int (s1 - s0), .int s2, .int s3] h := Rf_go ((stp_of c146_14).trans rfl)
theorem c146_15 : cd 146 15 = some (15, .imul, 1, []) := by decide +kernel
theorem x146_15 {d : Nat} {a0 a1 a2 a3 a4 a5 a6 a7 a8 a9 : Value} {s0 : Int32} {s1 : Int32} {s2 : Int32} {h : AHp} : Rf d 146 15 [a0, a1, a2, a3, a4, a5, a6, a7, a8, a9] [.int s0, .int s1, .int s2] h = Rf d 146 16 [a0, a1, a2, a3, a4, a5, a6, a7, a8, a9] [.int (s1 * s0), .int s2] h := Rf_go ((stp_of c146_15).trans rfl)
theorem c146_16 : cd 146 16 = some (16, .iadd, 1, []) := by decide +kernel
theorem x146_16 {d : Nat} {a0 a1 a2 a3 a4 a5 a6 a7 a8 a9 : Value} {s0 : Int32} {s1 : Int32} {h : AHp} : Rf d 146 16 [a0, a1, a2, a3, a4, a5, a6, a7, a8, a9] [.int s0, .int s1] h = Rf d 146 17 [a0, a1, a2, a3, a4, a5, a6, a7, a8, a9] [.int (s1 + s0)] h := Rf_go ((stp_of c146_16).trans rfl)
theorem c146_17 : cd 146 17 = some (17, .istore 4, 2, []) := by decide +kernel
theorem x146_17 {d : Nat} {a0 a1 a2 a3 a4 a5 a6 a7 a8 a9 : Value} {s0 : Int32} {h : AHp} : Rf d 146 17 [a0, a1, a2, a3, a4, a5, a6, a7, a8, a9] [.int s0] h = Rf d 146 19 [a0, a1, a2, a3, .int s0, a5, a6, a7, a8, a9] [] h := Rf_go ((stp_of c146_17).trans rfl)
theorem c146_19 : cd 146 19 = some (19, .aload_n 0, 1, []) := by decide +kernel
theorem x146_19 {d : Nat} {a1 a2 a3 a4 a5 a6 a7 a8 a9 : Value} {x : Nat} {h : AHp} : Rf d 146 19 [.ref x, a1, a2, a3, a4, a5, a6, a7, a8, a9] [] h = Rf d 146 20 [.ref x, a1, a2, a3, a4, a5, a6, a7, a8, a9] [.ref x] h := Rf_go ((stp_of c146_19).trans rfl)
theorem c146_20 : cd 146 20 = some (20, .getfield 9, 3, [(12, 0)]) := by decide +kernel
theorem x146_20 {d : Nat} {a0 a1 a2 a3 a4 a5 a6 a7 a8 a9 : Value} {s0 : Nat} {h : AHp} : Rf d 146 20 [a0, a1, a2, a3, a4, a5, a6, a7, a8, a9] [.ref s0] h = if cls (h.1 s0) = 12 ∧ oKr (h.1 s0) 0 = true then Rf d 146 23 [a0, a1, a2, a3, a4, a5, a6, a7, a8, a9] [.ref (oR (h.1 s0) 0)] h else Rx d 146 20 [a0, a1, a2, a3, a4, a5, a6, a7, a8, a9] [.ref s0] h := getR c146_20
theorem c146_23 : cd 146 23 = some (23, .sipush 331, 3, []) := by decide +kernel
theorem x146_23 {d : Nat} {a0 a1 a2 a3 a4 a5 a6 a7 a8 a9 : Value} {s0 : Nat} {h : AHp} : Rf d 146 23 [a0, a1, a2, a3, a4, a5, a6, a7, a8, a9] [.ref s0] h = Rf d 146 26 [a0, a1, a2, a3, a4, a5, a6, a7, a8, a9] [.int 331, .ref s0] h := Rf_go ((stp_of c146_23).trans rfl)
theorem c146_26 : cd 146 26 = some (26, .iload_n 1, 1, []) := by decide +kernel
theorem x146_26 {d : Nat} {a0 a2 a3 a4 a5 a6 a7 a8 a9 : Value} {s0 : Int32} {s1 : Nat} {x : Int32} {h : AHp} : Rf d 146 26 [a0, .int x, a2, a3, a4, a5, a6, a7, a8, a9] [.int s0, .ref s1] h = Rf d 146 27 [a0, .int x, a2, a3, a4, a5, a6, a7, a8, a9] [.int x, .int s0, .ref s1] h := Rf_go ((stp_of c146_26).trans rfl)
theorem c146_27 : cd 146 27 = some (27, .iadd, 1, []) := by decide +kernel
theorem x146_27 {d : Nat} {a0 a1 a2 a3 a4 a5 a6 a7 a8 a9 : Value} {s0 : Int32} {s1 : Int32} {s2 : Nat} {h : AHp} : Rf d 146 27 [a0, a1, a2, a3, a4, a5, a6, a7, a8, a9] [.int s0, .int s1, .ref s2] h = Rf d 146 28 [a0, a1, a2, a3, a4, a5, a6, a7, a8, a9] [.int (s1 + s0), .ref s2] h := Rf_go ((stp_of c146_27).trans rfl)
theorem c146_28 : cd 146 28 = some (28, .iaload, 1, []) := by decide +kernel
theorem x146_28 {d : Nat} {a0 a1 a2 a3 a4 a5 a6 a7 a8 a9 : Value} {s0 : Int32} {s1 : Nat} {h : AHp} : Rf d 146 28 [a0, a1, a2, a3, a4, a5, a6, a7, a8, a9] [.int s0, .ref s1] h = if (aT (h.1 s1) = 0 ∨ aT (h.1 s1) = 10) ∧ inB s0 (aN (h.1 s1)) = true then Rf d 146 29 [a0, a1, a2, a3, a4, a5, a6, a7, a8, a9] [.int (aF (h.1 s1) s0.toNatClampNeg)] h else Rx d 146 28 [a0, a1, a2, a3, a4, a5, a6, a7, a8, a9] [.int s0, .ref s1] h := ldI c146_28
theorem c146_29 : cd 146 29 = some (29, .istore 5, 2, []) := by decide +kernel
theorem x146_29 {d : Nat} {a0 a1 a2 a3 a4 a5 a6 a7 a8 a9 : Value} {s0 : Int32} {h : AHp} : Rf d 146 29 [a0, a1, a2, a3, a4, a5, a6, a7, a8, a9] [.int s0] h = Rf d 146 31 [a0, a1, a2, a3, a4, .int s0, a6, a7, a8, a9] [] h := Rf_go ((stp_of c146_29).trans rfl)
theorem c146_31 : cd 146 31 = some (31, .iload 5, 2, []) := by decide +kernel
theorem x146_31 {d : Nat} {a0 a1 a2 a3 a4 a6 a7 a8 a9 : Value} {x : Int32} {h : AHp} : Rf d 146 31 [a0, a1, a2, a3, a4, .int x, a6, a7, a8, a9] [] h = Rf d 146 33 [a0, a1, a2, a3, a4, .int x, a6, a7, a8, a9] [.int x] h := Rf_go ((stp_of c146_31).trans rfl)
theorem c146_33 : cd 146 33 = some (33, .aload_n 0, 1, []) := by decide +kernel
theorem x146_33 {d : Nat} {a1 a2 a3 a4 a5 a6 a7 a8 a9 : Value} {s0 : Int32} {x : Nat} {h : AHp} : Rf d 146 33 [.ref x, a1, a2, a3, a4, a5, a6, a7, a8, a9] [.int s0] h = Rf d 146 34 [.ref x, a1, a2, a3, a4, a5, a6, a7, a8, a9] [.ref x, .int s0] h := Rf_go ((stp_of c146_33).trans rfl)
theorem c146_34 : cd 146 34 = some (34, .getfield 9, 3, [(12, 0)]) := by decide +kernel
theorem x146_34 {d : Nat} {a0 a1 a2 a3 a4 a5 a6 a7 a8 a9 : Value} {s0 : Nat} {s1 : Int32} {h : AHp} : Rf d 146 34 [a0, a1, a2, a3, a4, a5, a6, a7, a8, a9] [.ref s0, .int s1] h = if cls (h.1 s0) = 12 ∧ oKr (h.1 s0) 0 = true then Rf d 146 37 [a0, a1, a2, a3, a4, a5, a6, a7, a8, a9] [.ref (oR (h.1 s0) 0), .int s1] h else Rx d 146 34 [a0, a1, a2, a3, a4, a5, a6, a7, a8, a9] [.ref s0, .int s1] h := getR c146_34
theorem c146_37 : cd 146 37 = some (37, .sipush 381, 3, []) := by decide +kernel
theorem x146_37 {d : Nat} {a0 a1 a2 a3 a4 a5 a6 a7 a8 a9 : Value} {s0 : Nat} {s1 : Int32} {h : AHp} : Rf d 146 37 [a0, a1, a2, a3, a4, a5, a6, a7, a8, a9] [.ref s0, .int s1] h = Rf d 146 40 [a0, a1, a2, a3, a4, a5, a6, a7, a8, a9] [.int 381, .ref s0, .int s1] h := Rf_go ((stp_of c146_37).trans rfl)
theorem c146_40 : cd 146 40 = some (40, .iload_n 1, 1, []) := by decide +kernel
theorem x146_40 {d : Nat} {a0 a2 a3 a4 a5 a6 a7 a8 a9 : Value} {s0 : Int32} {s1 : Nat} {s2 : Int32} {x : Int32} {h : AHp} : Rf d 146 40 [a0, .int x, a2, a3, a4, a5, a6, a7, a8, a9] [.int s0, .ref s1, .int s2] h = Rf d 146 41 [a0, .int x, a2, a3, a4, a5, a6, a7, a8, a9] [.int x, .int s0, .ref s1, .int s2] h := Rf_go ((stp_of c146_40).trans rfl)
theorem c146_41 : cd 146 41 = some (41, .iadd, 1, []) := by decide +kernel
theorem x146_41 {d : Nat} {a0 a1 a2 a3 a4 a5 a6 a7 a8 a9 : Value} {s0 : Int32} {s1 : Int32} {s2 : Nat} {s3 : Int32} {h : AHp} : Rf d 146 41 [a0, a1, a2, a3, a4, a5, a6, a7, a8, a9] [.int s0, .int s1, .ref s2, .int s3] h = Rf d 146 42 [a0, a1, a2, a3, a4, a5, a6, a7, a8, a9] [.int (s1 + s0), .ref s2, .int s3] h := Rf_go ((stp_of c146_41).trans rfl)
theorem c146_42 : cd 146 42 = some (42, .iaload, 1, []) := by decide +kernel
theorem x146_42 {d : Nat} {a0 a1 a2 a3 a4 a5 a6 a7 a8 a9 : Value} {s0 : Int32} {s1 : Nat} {s2 : Int32} {h : AHp} : Rf d 146 42 [a0, a1, a2, a3, a4, a5, a6, a7, a8, a9] [.int s0, .ref s1, .int s2] h = if (aT (h.1 s1) = 0 ∨ aT (h.1 s1) = 10) ∧ inB s0 (aN (h.1 s1)) = true then Rf d 146 43 [a0, a1, a2, a3, a4, a5, a6, a7, a8, a9] [.int (aF (h.1 s1) s0.toNatClampNeg), .int s2] h else Rx d 146 42 [a0, a1, a2, a3, a4, a5, a6, a7, a8, a9] [.int s0, .ref s1, .int s2] h := ldI c146_42
theorem c146_43 : cd 146 43 = some (43, .if_icmp .ge 188, 3, [(231, 0)]) := by decide +kernel
theorem x146_43 {d : Nat} {a0 a1 a2 a3 a4 a5 a6 a7 a8 a9 : Value} {s0 : Int32} {s1 : Int32} {h : AHp} : Rf d 146 43 [a0, a1, a2, a3, a4, a5, a6, a7, a8, a9] [.int s0, .int s1] h = if s1 < s0 then Rf d 146 46 [a0, a1, a2, a3, a4, a5, a6, a7, a8, a9] [] h else Rf d 146 231 [a0, a1, a2, a3, a4, a5, a6, a7, a8, a9] [] h := Rf_brn ((stp_of c146_43).trans rfl)
theorem c146_231 : cd 146 231 = some (231, .aload_n 0, 1, []) := by decide +kernel
theorem x146_231 {d : Nat} {a1 a2 a3 a4 a5 a6 a7 a8 a9 : Value} {x : Nat} {h : AHp} : Rf d 146 231 [.ref x, a1, a2, a3, a4, a5, a6, a7, a8, a9] [] h = Rf d 146 232 [.ref x, a1, a2, a3, a4, a5, a6, a7, a8, a9] [.ref x] h := Rf_go ((stp_of c146_231).trans rfl)
theorem c146_232 : cd 146 232 = some (232, .getfield 16, 3, [(12, 6)]) := by decide +kernel
theorem x146_232 {d : Nat} {a0 a1 a2 a3 a4 a5 a6 a7 a8 a9 : Value} {s0 : Nat} {h : AHp} : Rf d 146 232 [a0, a1, a2, a3, a4, a5, a6, a7, a8, a9] [.ref s0] h = if cls (h.1 s0) = 12 ∧ oKr (h.1 s0) 6 = true then Rf d 146 235 [a0, a1, a2, a3, a4, a5, a6, a7, a8, a9] [.ref (oR (h.1 s0) 6)] h else Rx d 146 232 [a0, a1, a2, a3, a4, a5, a6, a7, a8, a9] [.ref s0] h := getR c146_232
theorem c146_235 : cd 146 235 = some (235, .iconst 0, 1, []) := by decide +kernel
theorem x146_235 {d : Nat} {a0 a1 a2 a3 a4 a5 a6 a7 a8 a9 : Value} {s0 : Nat} {h : AHp} : Rf d 146 235 [a0, a1, a2, a3, a4, a5, a6, a7, a8, a9] [.ref s0] h = Rf d 146 236 [a0, a1, a2, a3, a4, a5, a6, a7, a8, a9] [.int 0, .ref s0] h := Rf_go ((stp_of c146_235).trans rfl)
theorem c146_236 : cd 146 236 = some (236, .iaload, 1, []) := by decide +kernel
theorem x146_236 {d : Nat} {a0 a1 a2 a3 a4 a5 a6 a7 a8 a9 : Value} {s0 : Int32} {s1 : Nat} {h : AHp} : Rf d 146 236 [a0, a1, a2, a3, a4, a5, a6, a7, a8, a9] [.int s0, .ref s1] h = if (aT (h.1 s1) = 0 ∨ aT (h.1 s1) = 10) ∧ inB s0 (aN (h.1 s1)) = true then Rf d 146 237 [a0, a1, a2, a3, a4, a5, a6, a7, a8, a9] [.int (aF (h.1 s1) s0.toNatClampNeg)] h else Rx d 146 236 [a0, a1, a2, a3, a4, a5, a6, a7, a8, a9] [.int s0, .ref s1] h := ldI c146_236
theorem c146_237 : cd 146 237 = some (237, .iconst 1, 1, []) := by decide +kernel
theorem x146_237 {d : Nat} {a0 a1 a2 a3 a4 a5 a6 a7 a8 a9 : Value} {s0 : Int32} {h : AHp} : Rf d 146 237 [a0, a1, a2, a3, a4, a5, a6, a7, a8, a9] [.int s0] h = Rf d 146 238 [a0, a1, a2, a3, a4, a5, a6, a7, a8, a9] [.int 1, .int s0] h := Rf_go ((stp_of c146_237).trans rfl)
theorem c146_238 : cd 146 238 = some (238, .if_icmp .ne 7, 3, [(245, 0)]) := by decide +kernel
theorem x146_238 {d : Nat} {a0 a1 a2 a3 a4 a5 a6 a7 a8 a9 : Value} {s0 : Int32} {s1 : Int32} {h : AHp} : Rf d 146 238 [a0, a1, a2, a3, a4, a5, a6, a7, a8, a9] [.int s0, .int s1] h = if s1 = s0 then Rf d 146 241 [a0, a1, a2, a3, a4, a5, a6, a7, a8, a9] [] h else Rf d 146 245 [a0, a1, a2, a3, a4, a5, a6, a7, a8, a9] [] h := Rf_brn ((stp_of c146_238).trans rfl)
theorem c146_245 : cd 146 245 = some (245, .iconst 0, 1, []) := by decide +kernel
theorem x146_245 {d : Nat} {a0 a1 a2 a3 a4 a5 a6 a7 a8 a9 : Value} {h : AHp} : Rf d 146 245 [a0, a1, a2, a3, a4, a5, a6, a7, a8, a9] [] h = Rf d 146 246 [a0, a1, a2, a3, a4, a5, a6, a7, a8, a9] [.int 0] h := Rf_go ((stp_of c146_245).trans rfl)
theorem c146_246 : cd 146 246 = some (246, .ireturn, 1, []) := by decide +kernel
theorem x146_246 {d : Nat} {a0 a1 a2 a3 a4 a5 a6 a7 a8 a9 : Value} {s0 : Int32} {h : AHp} : Rf d 146 246 [a0, a1, a2, a3, a4, a5, a6, a7, a8, a9] [.int s0] h = if retI (some .boolean) s0 = true then some (some (.int s0), h) else Rx d 146 246 [a0, a1, a2, a3, a4, a5, a6, a7, a8, a9] [.int s0] h := Rf_ife (fun hk => by rw [stp_of c146_246]; exact if_pos hk)
theorem c146_241 : cd 146 241 = some (241, .iconst 1, 1, []) := by decide +kernel
theorem x146_241 {d : Nat} {a0 a1 a2 a3 a4 a5 a6 a7 a8 a9 : Value} {h : AHp} : Rf d 146 241 [a0, a1, a2, a3, a4, a5, a6, a7, a8, a9] [] h = Rf d 146 242 [a0, a1, a2, a3, a4, a5, a6, a7, a8, a9] [.int 1] h := Rf_go ((stp_of c146_241).trans rfl)
theorem c146_242 : cd 146 242 = some (242, .goto 4, 3, [(246, 0)]) := by decide +kernel
theorem x146_242 {d : Nat} {a0 a1 a2 a3 a4 a5 a6 a7 a8 a9 : Value} {s0 : Int32} {h : AHp} : Rf d 146 242 [a0, a1, a2, a3, a4, a5, a6, a7, a8, a9] [.int s0] h = Rf d 146 246 [a0, a1, a2, a3, a4, a5, a6, a7, a8, a9] [.int s0] h := Rf_go ((stp_of c146_242).trans rfl)
theorem c146_46 : cd 146 46 = some (46, .aload_n 0, 1, []) := by decide +kernel
theorem x146_46 {d : Nat} {a1 a2 a3 a4 a5 a6 a7 a8 a9 : Value} {x : Nat} {h : AHp} : Rf d 146 46 [.ref x, a1, a2, a3, a4, a5, a6, a7, a8, a9] [] h = Rf d 146 47 [.ref x, a1, a2, a3, a4, a5, a6, a7, a8, a9] [.ref x] h := Rf_go ((stp_of c146_46).trans rfl)
theorem c146_47 : cd 146 47 = some (47, .getfield 9, 3, [(12, 0)]) := by decide +kernel
theorem x146_47 {d : Nat} {a0 a1 a2 a3 a4 a5 a6 a7 a8 a9 : Value} {s0 : Nat} {h : AHp} : Rf d 146 47 [a0, a1, a2, a3, a4, a5, a6, a7, a8, a9] [.ref s0] h = if cls (h.1 s0) = 12 ∧ oKr (h.1 s0) 0 = true then Rf d 146 50 [a0, a1, a2, a3, a4, a5, a6, a7, a8, a9] [.ref (oR (h.1 s0) 0)] h else Rx d 146 47 [a0, a1, a2, a3, a4, a5, a6, a7, a8, a9] [.ref s0] h := getR c146_47
theorem c146_50 : cd 146 50 = some (50, .iload 4, 2, []) := by decide +kernel
theorem x146_50 {d : Nat} {a0 a1 a2 a3 a5 a6 a7 a8 a9 : Value} {s0 : Nat} {x : Int32} {h : AHp} : Rf d 146 50 [a0, a1, a2, a3, .int x, a5, a6, a7, a8, a9] [.ref s0] h = Rf d 146 52 [a0, a1, a2, a3, .int x, a5, a6, a7, a8, a9] [.int x, .ref s0] h := Rf_go ((stp_of c146_50).trans rfl)
theorem c146_52 : cd 146 52 = some (52, .iload 5, 2, []) := by decide +kernel
theorem x146_52 {d : Nat} {a0 a1 a2 a3 a4 a6 a7 a8 a9 : Value} {s0 : Int32} {s1 : Nat} {x : Int32} {h : AHp} : Rf d 146 52 [a0, a1, a2, a3, a4, .int x, a6, a7, a8, a9] [.int s0, .ref s1] h = Rf d 146 54 [a0, a1, a2, a3, a4, .int x, a6, a7, a8, a9] [.int x, .int s0, .ref s1] h := Rf_go ((stp_of c146_52).trans rfl)
theorem c146_54 : cd 146 54 = some (54, .iadd, 1, []) := by decide +kernel
theorem x146_54 {d : Nat} {a0 a1 a2 a3 a4 a5 a6 a7 a8 a9 : Value} {s0 : Int32} {s1 : Int32} {s2 : Nat} {h : AHp} : Rf d 146 54 [a0, a1, a2, a3, a4, a5, a6, a7, a8, a9] [.int s0, .int s1, .ref s2] h = Rf d 146 55 [a0, a1, a2, a3, a4, a5, a6, a7, a8, a9] [.int (s1 + s0), .ref s2] h := Rf_go ((stp_of c146_54).trans rfl)
theorem c146_55 : cd 146 55 = some (55, .iaload, 1, []) := by decide +kernel
theorem x146_55 {d : Nat} {a0 a1 a2 a3 a4 a5 a6 a7 a8 a9 : Value} {s0 : Int32} {s1 : Nat} {h : AHp} : Rf d 146 55 [a0, a1, a2, a3, a4, a5, a6, a7, a8, a9] [.int s0, .ref s1] h = if (aT (h.1 s1) = 0 ∨ aT (h.1 s1) = 10) ∧ inB s0 (aN (h.1 s1)) = true then Rf d 146 56 [a0, a1, a2, a3, a4, a5, a6, a7, a8, a9] [.int (aF (h.1 s1) s0.toNatClampNeg)] h else Rx d 146 55 [a0, a1, a2, a3, a4, a5, a6, a7, a8, a9] [.int s0, .ref s1] h := ldI c146_55
theorem c146_56 : cd 146 56 = some (56, .istore 6, 2, []) := by decide +kernel
theorem x146_56 {d : Nat} {a0 a1 a2 a3 a4 a5 a6 a7 a8 a9 : Value} {s0 : Int32} {h : AHp} : Rf d 146 56 [a0, a1, a2, a3, a4, a5, a6, a7, a8, a9] [.int s0] h = Rf d 146 58 [a0, a1, a2, a3, a4, a5, .int s0, a7, a8, a9] [] h := Rf_go ((stp_of c146_56).trans rfl)
theorem c146_58 : cd 146 58 = some (58, .iload 6, 2, []) := by decide +kernel
theorem x146_58 {d : Nat} {a0 a1 a2 a3 a4 a5 a7 a8 a9 : Value} {x : Int32} {h : AHp} : Rf d 146 58 [a0, a1, a2, a3, a4, a5, .int x, a7, a8, a9] [] h = Rf d 146 60 [a0, a1, a2, a3, a4, a5, .int x, a7, a8, a9] [.int x] h := Rf_go ((stp_of c146_58).trans rfl)
theorem c146_60 : cd 146 60 = some (60, .bipush (-3), 2, []) := by decide +kernel
theorem x146_60 {d : Nat} {a0 a1 a2 a3 a4 a5 a6 a7 a8 a9 : Value} {s0 : Int32} {h : AHp} : Rf d 146 60 [a0, a1, a2, a3, a4, a5, a6, a7, a8, a9] [.int s0] h = Rf d 146 62 [a0, a1, a2, a3, a4, a5, a6, a7, a8, a9] [.int (-3), .int s0] h := Rf_go ((stp_of c146_60).trans rfl)
theorem c146_62 : cd 146 62 = some (62, .if_icmp .ne 24, 3, [(86, 0)]) := by decide +kernel
theorem x146_62 {d : Nat} {a0 a1 a2 a3 a4 a5 a6 a7 a8 a9 : Value} {s0 : Int32} {s1 : Int32} {h : AHp} : Rf d 146 62 [a0, a1, a2, a3, a4, a5, a6, a7, a8, a9] [.int s0, .int s1] h = if s1 = s0 then Rf d 146 65 [a0, a1, a2, a3, a4, a5, a6, a7, a8, a9] [] h else Rf d 146 86 [a0, a1, a2, a3, a4, a5, a6, a7, a8, a9] [] h := Rf_brn ((stp_of c146_62).trans rfl)
theorem c146_86 : cd 146 86 = some (86, .iload 6, 2, []) := by decide +kernel
theorem x146_86 {d : Nat} {a0 a1 a2 a3 a4 a5 a7 a8 a9 : Value} {x : Int32} {h : AHp} : Rf d 146 86 [a0, a1, a2, a3, a4, a5, .int x, a7, a8, a9] [] h = Rf d 146 88 [a0, a1, a2, a3, a4, a5, .int x, a7, a8, a9] [.int x] h := Rf_go ((stp_of c146_86).trans rfl)
theorem c146_88 : cd 146 88 = some (88, .ifCond .ge 56, 3, [(144, 0)]) := by decide +kernel
theorem x146_88 {d : Nat} {a0 a1 a2 a3 a4 a5 a6 a7 a8 a9 : Value} {s0 : Int32} {h : AHp} : Rf d 146 88 [a0, a1, a2, a3, a4, a5, a6, a7, a8, a9] [.int s0] h = if s0 < 0 then Rf d 146 91 [a0, a1, a2, a3, a4, a5, a6, a7, a8, a9] [] h else Rf d 146 144 [a0, a1, a2, a3, a4, a5, a6, a7, a8, a9] [] h := Rf_brn ((stp_of c146_88).trans rfl)
theorem c146_144 : cd 146 144 = some (144, .iload 6, 2, []) := by decide +kernel
theorem x146_144 {d : Nat} {a0 a1 a2 a3 a4 a5 a7 a8 a9 : Value} {x : Int32} {h : AHp} : Rf d 146 144 [a0, a1, a2, a3, a4, a5, .int x, a7, a8, a9] [] h = Rf d 146 146 [a0, a1, a2, a3, a4, a5, .int x, a7, a8, a9] [.int x] h := Rf_go ((stp_of c146_144).trans rfl)
theorem c146_146 : cd 146 146 = some (146, .bipush 100, 2, []) := by decide +kernel
theorem x146_146 {d : Nat} {a0 a1 a2 a3 a4 a5 a6 a7 a8 a9 : Value} {s0 : Int32} {h : AHp} : Rf d 146 146 [a0, a1, a2, a3, a4, a5, a6, a7, a8, a9] [.int s0] h = Rf d 146 148 [a0, a1, a2, a3, a4, a5, a6, a7, a8, a9] [.int 100, .int s0] h := Rf_go ((stp_of c146_146).trans rfl)
theorem c146_148 : cd 146 148 = some (148, .irem, 1, []) := by decide +kernel
theorem x146_148 {d : Nat} {a0 a1 a2 a3 a4 a5 a6 a7 a8 a9 : Value} {s0 : Int32} {s1 : Int32} {h : AHp} : Rf d 146 148 [a0, a1, a2, a3, a4, a5, a6, a7, a8, a9] [.int s0, .int s1] h = if ¬ s0 = 0 then Rf d 146 149 [a0, a1, a2, a3, a4, a5, a6, a7, a8, a9] [.int (remI s1 s0)] h else Rx d 146 148 [a0, a1, a2, a3, a4, a5, a6, a7, a8, a9] [.int s0, .int s1] h := divE c146_148 (fun _ _ _ => rfl)
theorem c146_149 : cd 146 149 = some (149, .istore 7, 2, []) := by decide +kernel
theorem x146_149 {d : Nat} {a0 a1 a2 a3 a4 a5 a6 a7 a8 a9 : Value} {s0 : Int32} {h : AHp} : Rf d 146 149 [a0, a1, a2, a3, a4, a5, a6, a7, a8, a9] [.int s0] h = Rf d 146 151 [a0, a1, a2, a3, a4, a5, a6, .int s0, a8, a9] [] h := Rf_go ((stp_of c146_149).trans rfl)
theorem c146_151 : cd 146 151 = some (151, .aload_n 0, 1, []) := by decide +kernel
theorem x146_151 {d : Nat} {a1 a2 a3 a4 a5 a6 a7 a8 a9 : Value} {x : Nat} {h : AHp} : Rf d 146 151 [.ref x, a1, a2, a3, a4, a5, a6, a7, a8, a9] [] h = Rf d 146 152 [.ref x, a1, a2, a3, a4, a5, a6, a7, a8, a9] [.ref x] h := Rf_go ((stp_of c146_151).trans rfl)
theorem c146_152 : cd 146 152 = some (152, .iload 6, 2, []) := by decide +kernel
theorem x146_152 {d : Nat} {a0 a1 a2 a3 a4 a5 a7 a8 a9 : Value} {s0 : Nat} {x : Int32} {h : AHp} : Rf d 146 152 [a0, a1, a2, a3, a4, a5, .int x, a7, a8, a9] [.ref s0] h = Rf d 146 154 [a0, a1, a2, a3, a4, a5, .int x, a7, a8, a9] [.int x, .ref s0] h := Rf_go ((stp_of c146_152).trans rfl)
theorem c146_154 : cd 146 154 = some (154, .sipush 300, 3, []) := by decide +kernel
theorem x146_154 {d : Nat} {a0 a1 a2 a3 a4 a5 a6 a7 a8 a9 : Value} {s0 : Int32} {s1 : Nat} {h : AHp} : Rf d 146 154 [a0, a1, a2, a3, a4, a5, a6, a7, a8, a9] [.int s0, .ref s1] h = Rf d 146 157 [a0, a1, a2, a3, a4, a5, a6, a7, a8, a9] [.int 300, .int s0, .ref s1] h := Rf_go ((stp_of c146_154).trans rfl)
theorem c146_157 : cd 146 157 = some (157, .idiv, 1, []) := by decide +kernel
theorem x146_157 {d : Nat} {a0 a1 a2 a3 a4 a5 a6 a7 a8 a9 : Value} {s0 : Int32} {s1 : Int32} {s2 : Nat} {h : AHp} : Rf d 146 157 [a0, a1, a2, a3, a4, a5, a6, a7, a8, a9] [.int s0, .int s1, .ref s2] h = if ¬ s0 = 0 then Rf d 146 158 [a0, a1, a2, a3, a4, a5, a6, a7, a8, a9] [.int (s1 / s0), .ref s2] h else Rx d 146 157 [a0, a1, a2, a3, a4, a5, a6, a7, a8, a9] [.int s0, .int s1, .ref s2] h := divE c146_157 (fun _ _ _ => rfl)
theorem c146_158 : cd 146 158 = some (158, .iload_n 2, 1, []) := by decide +kernel
theorem x146_158 {d : Nat} {a0 a1 a3 a4 a5 a6 a7 a8 a9 : Value} {s0 : Int32} {s1 : Nat} {x : Int32} {h : AHp} : Rf d 146 158 [a0, a1, .int x, a3, a4, a5, a6, a7, a8, a9] [.int s0, .ref s1] h = Rf d 146 159 [a0, a1, .int x, a3, a4, a5, a6, a7, a8, a9] [.int x, .int s0, .ref s1] h := Rf_go ((stp_of c146_158).trans rfl)
theorem c146_159 : cd 146 159 = some (159, .invokevirtual 102, 3, [(12, 147)]) := by decide +kernel
theorem xc146_159 {d : Nat} {a0 a1 a2 a3 a4 a5 a6 a7 a8 a9 : Value} {s0 : Int32} {s1 : Int32} {s2 : Nat} {h : AHp} {h1 : AHp} {v : Int32} (hr : cls (h.1 s2) = 12) (hq : Rf d 147 0 [.ref s2, .int s1, .int s0] [] h = some (some (.int v), h1)) : Rf (d + 1) 146 159 [a0, a1, a2, a3, a4, a5, a6, a7, a8, a9] [.int s0, .int s1, .ref s2] h = Rf (d + 1) 146 162 [a0, a1, a2, a3, a4, a5, a6, a7, a8, a9] [.int v] h1 := clV (c := 147) (as := [.int s1, .int s0]) c146_159 rfl (by simp [isV]) (by rw [hr]; rfl) hq
theorem c146_162 : cd 146 162 = some (162, .istore 8, 2, []) := by decide +kernel
theorem x146_162 {d : Nat} {a0 a1 a2 a3 a4 a5 a6 a7 a8 a9 : Value} {s0 : Int32} {h : AHp} : Rf d 146 162 [a0, a1, a2, a3, a4, a5, a6, a7, a8, a9] [.int s0] h = Rf d 146 164 [a0, a1, a2, a3, a4, a5, a6, a7, .int s0, a9] [] h := Rf_go ((stp_of c146_162).trans rfl)
theorem c146_164 : cd 146 164 = some (164, .iload 6, 2, []) := by decide +kernel
theorem x146_164 {d : Nat} {a0 a1 a2 a3 a4 a5 a7 a8 a9 : Value} {x : Int32} {h : AHp} : Rf d 146 164 [a0, a1, a2, a3, a4, a5, .int x, a7, a8, a9] [] h = Rf d 146 166 [a0, a1, a2, a3, a4, a5, .int x, a7, a8, a9] [.int x] h := Rf_go ((stp_of c146_164).trans rfl)
theorem c146_166 : cd 146 166 = some (166, .bipush 100, 2, []) := by decide +kernel
theorem x146_166 {d : Nat} {a0 a1 a2 a3 a4 a5 a6 a7 a8 a9 : Value} {s0 : Int32} {h : AHp} : Rf d 146 166 [a0, a1, a2, a3, a4, a5, a6, a7, a8, a9] [.int s0] h = Rf d 146 168 [a0, a1, a2, a3, a4, a5, a6, a7, a8, a9] [.int 100, .int s0] h := Rf_go ((stp_of c146_166).trans rfl)
theorem c146_168 : cd 146 168 = some (168, .idiv, 1, []) := by decide +kernel
theorem x146_168 {d : Nat} {a0 a1 a2 a3 a4 a5 a6 a7 a8 a9 : Value} {s0 : Int32} {s1 : Int32} {h : AHp} : Rf d 146 168 [a0, a1, a2, a3, a4, a5, a6, a7, a8, a9] [.int s0, .int s1] h = if ¬ s0 = 0 then Rf d 146 169 [a0, a1, a2, a3, a4, a5, a6, a7, a8, a9] [.int (s1 / s0)] h else Rx d 146 168 [a0, a1, a2, a3, a4, a5, a6, a7, a8, a9] [.int s0, .int s1] h := divE c146_168 (fun _ _ _ => rfl)
theorem c146_169 : cd 146 169 = some (169, .iconst 3, 1, []) := by decide +kernel
theorem x146_169 {d : Nat} {a0 a1 a2 a3 a4 a5 a6 a7 a8 a9 : Value} {s0 : Int32} {h : AHp} : Rf d 146 169 [a0, a1, a2, a3, a4, a5, a6, a7, a8, a9] [.int s0] h = Rf d 146 170 [a0, a1, a2, a3, a4, a5, a6, a7, a8, a9] [.int 3, .int s0] h := Rf_go ((stp_of c146_169).trans rfl)
theorem c146_170 : cd 146 170 = some (170, .irem, 1, []) := by decide +kernel
theorem x146_170 {d : Nat} {a0 a1 a2 a3 a4 a5 a6 a7 a8 a9 : Value} {s0 : Int32} {s1 : Int32} {h : AHp} : Rf d 146 170 [a0, a1, a2, a3, a4, a5, a6, a7, a8, a9] [.int s0, .int s1] h = if ¬ s0 = 0 then Rf d 146 171 [a0, a1, a2, a3, a4, a5, a6, a7, a8, a9] [.int (remI s1 s0)] h else Rx d 146 170 [a0, a1, a2, a3, a4, a5, a6, a7, a8, a9] [.int s0, .int s1] h := divE c146_170 (fun _ _ _ => rfl)
theorem c146_171 : cd 146 171 = some (171, .istore 9, 2, []) := by decide +kernel
theorem x146_171 {d : Nat} {a0 a1 a2 a3 a4 a5 a6 a7 a8 a9 : Value} {s0 : Int32} {h : AHp} : Rf d 146 171 [a0, a1, a2, a3, a4, a5, a6, a7, a8, a9] [.int s0] h = Rf d 146 173 [a0, a1, a2, a3, a4, a5, a6, a7, a8, .int s0] [] h := Rf_go ((stp_of c146_171).trans rfl)
theorem c146_173 : cd 146 173 = some (173, .aload_n 0, 1, []) := by decide +kernel
theorem x146_173 {d : Nat} {a1 a2 a3 a4 a5 a6 a7 a8 a9 : Value} {x : Nat} {h : AHp} : Rf d 146 173 [.ref x, a1, a2, a3, a4, a5, a6, a7, a8, a9] [] h = Rf d 146 174 [.ref x, a1, a2, a3, a4, a5, a6, a7, a8, a9] [.ref x] h := Rf_go ((stp_of c146_173).trans rfl)
theorem c146_174 : cd 146 174 = some (174, .getfield 16, 3, [(12, 6)]) := by decide +kernel
theorem x146_174 {d : Nat} {a0 a1 a2 a3 a4 a5 a6 a7 a8 a9 : Value} {s0 : Nat} {h : AHp} : Rf d 146 174 [a0, a1, a2, a3, a4, a5, a6, a7, a8, a9] [.ref s0] h = if cls (h.1 s0) = 12 ∧ oKr (h.1 s0) 6 = true then Rf d 146 177 [a0, a1, a2, a3, a4, a5, a6, a7, a8, a9] [.ref (oR (h.1 s0) 6)] h else Rx d 146 174 [a0, a1, a2, a3, a4, a5, a6, a7, a8, a9] [.ref s0] h := getR c146_174
theorem c146_177 : cd 146 177 = some (177, .iload_n 3, 1, []) := by decide +kernel
theorem x146_177 {d : Nat} {a0 a1 a2 a4 a5 a6 a7 a8 a9 : Value} {s0 : Nat} {x : Int32} {h : AHp} : Rf d 146 177 [a0, a1, a2, .int x, a4, a5, a6, a7, a8, a9] [.ref s0] h = Rf d 146 178 [a0, a1, a2, .int x, a4, a5, a6, a7, a8, a9] [.int x, .ref s0] h := Rf_go ((stp_of c146_177).trans rfl)
theorem c146_178 : cd 146 178 = some (178, .iinc 3 1, 3, []) := by decide +kernel
theorem x146_178 {d : Nat} {a0 a1 a2 a4 a5 a6 a7 a8 a9 : Value} {s0 : Int32} {s1 : Nat} {x : Int32} {h : AHp} : Rf d 146 178 [a0, a1, a2, .int x, a4, a5, a6, a7, a8, a9] [.int s0, .ref s1] h = Rf d 146 181 [a0, a1, a2, .int (x + 1), a4, a5, a6, a7, a8, a9] [.int s0, .ref s1] h := Rf_go ((stp_of c146_178).trans rfl)
theorem c146_181 : cd 146 181 = some (181, .iload 9, 2, []) := by decide +kernel
theorem x146_181 {d : Nat} {a0 a1 a2 a3 a4 a5 a6 a7 a8 : Value} {s0 : Int32} {s1 : Nat} {x : Int32} {h : AHp} : Rf d 146 181 [a0, a1, a2, a3, a4, a5, a6, a7, a8, .int x] [.int s0, .ref s1] h = Rf d 146 183 [a0, a1, a2, a3, a4, a5, a6, a7, a8, .int x] [.int x, .int s0, .ref s1] h := Rf_go ((stp_of c146_181).trans rfl)
theorem c146_183 : cd 146 183 = some (183, .ifCond .ne 13, 3, [(196, 0)]) := by decide +kernel
theorem x146_183 {d : Nat} {a0 a1 a2 a3 a4 a5 a6 a7 a8 a9 : Value} {s0 : Int32} {s1 : Int32} {s2 : Nat} {h : AHp} : Rf d 146 183 [a0, a1, a2, a3, a4, a5, a6, a7, a8, a9] [.int s0, .int s1, .ref s2] h = if s0 = 0 then Rf d 146 186 [a0, a1, a2, a3, a4, a5, a6, a7, a8, a9] [.int s1, .ref s2] h else Rf d 146 196 [a0, a1, a2, a3, a4, a5, a6, a7, a8, a9] [.int s1, .ref s2] h := Rf_brn ((stp_of c146_183).trans rfl)
theorem c146_196 : cd 146 196 = some (196, .iload 9, 2, []) := by decide +kernel
theorem x146_196 {d : Nat} {a0 a1 a2 a3 a4 a5 a6 a7 a8 : Value} {s0 : Int32} {s1 : Nat} {x : Int32} {h : AHp} : Rf d 146 196 [a0, a1, a2, a3, a4, a5, a6, a7, a8, .int x] [.int s0, .ref s1] h = Rf d 146 198 [a0, a1, a2, a3, a4, a5, a6, a7, a8, .int x] [.int x, .int s0, .ref s1] h := Rf_go ((stp_of c146_196).trans rfl)
theorem c146_198 : cd 146 198 = some (198, .iconst 1, 1, []) := by decide +kernel
theorem x146_198 {d : Nat} {a0 a1 a2 a3 a4 a5 a6 a7 a8 a9 : Value} {s0 : Int32} {s1 : Int32} {s2 : Nat} {h : AHp} : Rf d 146 198 [a0, a1, a2, a3, a4, a5, a6, a7, a8, a9] [.int s0, .int s1, .ref s2] h = Rf d 146 199 [a0, a1, a2, a3, a4, a5, a6, a7, a8, a9] [.int 1, .int s0, .int s1, .ref s2] h := Rf_go ((stp_of c146_198).trans rfl)
theorem c146_199 : cd 146 199 = some (199, .if_icmp .ne 13, 3, [(212, 0)]) := by decide +kernel
theorem x146_199 {d : Nat} {a0 a1 a2 a3 a4 a5 a6 a7 a8 a9 : Value} {s0 : Int32} {s1 : Int32} {s2 : Int32} {s3 : Nat} {h : AHp} : Rf d 146 199 [a0, a1, a2, a3, a4, a5, a6, a7, a8, a9] [.int s0, .int s1, .int s2, .ref s3] h = if s1 = s0 then Rf d 146 202 [a0, a1, a2, a3, a4, a5, a6, a7, a8, a9] [.int s2, .ref s3] h else Rf d 146 212 [a0, a1, a2, a3, a4, a5, a6, a7, a8, a9] [.int s2, .ref s3] h := Rf_brn ((stp_of c146_199).trans rfl)
theorem c146_212 : cd 146 212 = some (212, .iload 8, 2, []) := by decide +kernel
theorem x146_212 {d : Nat} {a0 a1 a2 a3 a4 a5 a6 a7 a9 : Value} {s0 : Int32} {s1 : Nat} {x : Int32} {h : AHp} : Rf d 146 212 [a0, a1, a2, a3, a4, a5, a6, a7, .int x, a9] [.int s0, .ref s1] h = Rf d 146 214 [a0, a1, a2, a3, a4, a5, a6, a7, .int x, a9] [.int x, .int s0, .ref s1] h := Rf_go ((stp_of c146_212).trans rfl)
theorem c146_214 : cd 146 214 = some (214, .iload 7, 2, []) := by decide +kernel
theorem x146_214 {d : Nat} {a0 a1 a2 a3 a4 a5 a6 a8 a9 : Value} {s0 : Int32} {s1 : Int32} {s2 : Nat} {x : Int32} {h : AHp} : Rf d 146 214 [a0, a1, a2, a3, a4, a5, a6, .int x, a8, a9] [.int s0, .int s1, .ref s2] h = Rf d 146 216 [a0, a1, a2, a3, a4, a5, a6, .int x, a8, a9] [.int x, .int s0, .int s1, .ref s2] h := Rf_go ((stp_of c146_214).trans rfl)
theorem c146_216 : cd 146 216 = some (216, .if_icmp .le 7, 3, [(223, 0)]) := by decide +kernel
theorem x146_216 {d : Nat} {a0 a1 a2 a3 a4 a5 a6 a7 a8 a9 : Value} {s0 : Int32} {s1 : Int32} {s2 : Int32} {s3 : Nat} {h : AHp} : Rf d 146 216 [a0, a1, a2, a3, a4, a5, a6, a7, a8, a9] [.int s0, .int s1, .int s2, .ref s3] h = if s0 < s1 then Rf d 146 219 [a0, a1, a2, a3, a4, a5, a6, a7, a8, a9] [.int s2, .ref s3] h else Rf d 146 223 [a0, a1, a2, a3, a4, a5, a6, a7, a8, a9] [.int s2, .ref s3] h := Rf_brn ((stp_of c146_216).trans rfl)
theorem c146_223 : cd 146 223 = some (223, .iconst 0, 1, []) := by decide +kernel
theorem x146_223 {d : Nat} {a0 a1 a2 a3 a4 a5 a6 a7 a8 a9 : Value} {s0 : Int32} {s1 : Nat} {h : AHp} : Rf d 146 223 [a0, a1, a2, a3, a4, a5, a6, a7, a8, a9] [.int s0, .ref s1] h = Rf d 146 224 [a0, a1, a2, a3, a4, a5, a6, a7, a8, a9] [.int 0, .int s0, .ref s1] h := Rf_go ((stp_of c146_223).trans rfl)
theorem c146_224 : cd 146 224 = some (224, .iastore, 1, []) := by decide +kernel
theorem x146_224 {d : Nat} {a0 a1 a2 a3 a4 a5 a6 a7 a8 a9 : Value} {s0 : Int32} {s1 : Int32} {s2 : Nat} {h : AHp} : Rf d 146 224 [a0, a1, a2, a3, a4, a5, a6, a7, a8, a9] [.int s0, .int s1, .ref s2] h = if aT (h.1 s2) = 0 ∧ inB s1 (aN (h.1 s2)) = true then Rf d 146 225 [a0, a1, a2, a3, a4, a5, a6, a7, a8, a9] [] (hset h s2 (.inl (0, aN (h.1 s2), .inl (upd (aF (h.1 s2)) s1.toNatClampNeg s0)))) else Rx d 146 224 [a0, a1, a2, a3, a4, a5, a6, a7, a8, a9] [.int s0, .int s1, .ref s2] h := stI c146_224
theorem c146_225 : cd 146 225 = some (225, .iinc 5 1, 3, []) := by decide +kernel
theorem x146_225 {d : Nat} {a0 a1 a2 a3 a4 a6 a7 a8 a9 : Value} {x : Int32} {h : AHp} : Rf d 146 225 [a0, a1, a2, a3, a4, .int x, a6, a7, a8, a9] [] h = Rf d 146 228 [a0, a1, a2, a3, a4, .int (x + 1), a6, a7, a8, a9] [] h := Rf_go ((stp_of c146_225).trans rfl)
theorem c146_228 : cd 146 228 = some (228, .goto (-197), 3, [(31, 0)]) := by decide +kernel
theorem x146_228 {d : Nat} {a0 a1 a2 a3 a4 a5 a6 a7 a8 a9 : Value} {h : AHp} : Rf d 146 228 [a0, a1, a2, a3, a4, a5, a6, a7, a8, a9] [] h = Rf d 146 31 [a0, a1, a2, a3, a4, a5, a6, a7, a8, a9] [] h := Rf_go ((stp_of c146_228).trans rfl)
theorem c146_219 : cd 146 219 = some (219, .iconst 1, 1, []) := by decide +kernel
theorem x146_219 {d : Nat} {a0 a1 a2 a3 a4 a5 a6 a7 a8 a9 : Value} {s0 : Int32} {s1 : Nat} {h : AHp} : Rf d 146 219 [a0, a1, a2, a3, a4, a5, a6, a7, a8, a9] [.int s0, .ref s1] h = Rf d 146 220 [a0, a1, a2, a3, a4, a5, a6, a7, a8, a9] [.int 1, .int s0, .ref s1] h := Rf_go ((stp_of c146_219).trans rfl)
theorem c146_220 : cd 146 220 = some (220, .goto 4, 3, [(224, 0)]) := by decide +kernel
theorem x146_220 {d : Nat} {a0 a1 a2 a3 a4 a5 a6 a7 a8 a9 : Value} {s0 : Int32} {s1 : Int32} {s2 : Nat} {h : AHp} : Rf d 146 220 [a0, a1, a2, a3, a4, a5, a6, a7, a8, a9] [.int s0, .int s1, .ref s2] h = Rf d 146 224 [a0, a1, a2, a3, a4, a5, a6, a7, a8, a9] [.int s0, .int s1, .ref s2] h := Rf_go ((stp_of c146_220).trans rfl)
theorem c146_202 : cd 146 202 = some (202, .iload 8, 2, []) := by decide +kernel
theorem x146_202 {d : Nat} {a0 a1 a2 a3 a4 a5 a6 a7 a9 : Value} {s0 : Int32} {s1 : Nat} {x : Int32} {h : AHp} : Rf d 146 202 [a0, a1, a2, a3, a4, a5, a6, a7, .int x, a9] [.int s0, .ref s1] h = Rf d 146 204 [a0, a1, a2, a3, a4, a5, a6, a7, .int x, a9] [.int x, .int s0, .ref s1] h := Rf_go ((stp_of c146_202).trans rfl)
theorem c146_204 : cd 146 204 = some (204, .iload 7, 2, []) := by decide +kernel
theorem x146_204 {d : Nat} {a0 a1 a2 a3 a4 a5 a6 a8 a9 : Value} {s0 : Int32} {s1 : Int32} {s2 : Nat} {x : Int32} {h : AHp} : Rf d 146 204 [a0, a1, a2, a3, a4, a5, a6, .int x, a8, a9] [.int s0, .int s1, .ref s2] h = Rf d 146 206 [a0, a1, a2, a3, a4, a5, a6, .int x, a8, a9] [.int x, .int s0, .int s1, .ref s2] h := Rf_go ((stp_of c146_204).trans rfl)
theorem c146_206 : cd 146 206 = some (206, .if_icmp .ne 17, 3, [(223, 0)]) := by decide +kernel
theorem x146_206 {d : Nat} {a0 a1 a2 a3 a4 a5 a6 a7 a8 a9 : Value} {s0 : Int32} {s1 : Int32} {s2 : Int32} {s3 : Nat} {h : AHp} : Rf d 146 206 [a0, a1, a2, a3, a4, a5, a6, a7, a8, a9] [.int s0, .int s1, .int s2, .ref s3] h = if s1 = s0 then Rf d 146 209 [a0, a1, a2, a3, a4, a5, a6, a7, a8, a9] [.int s2, .ref s3] h else Rf d 146 223 [a0, a1, a2, a3, a4, a5, a6, a7, a8, a9] [.int s2, .ref s3] h := Rf_brn ((stp_of c146_206).trans rfl)
theorem c146_209 : cd 146 209 = some (209, .goto 10, 3, [(219, 0)]) := by decide +kernel
theorem x146_209 {d : Nat} {a0 a1 a2 a3 a4 a5 a6 a7 a8 a9 : Value} {s0 : Int32} {s1 : Nat} {h : AHp} : Rf d 146 209 [a0, a1, a2, a3, a4, a5, a6, a7, a8, a9] [.int s0, .ref s1] h = Rf d 146 219 [a0, a1, a2, a3, a4, a5, a6, a7, a8, a9] [.int s0, .ref s1] h := Rf_go ((stp_of c146_209).trans rfl)
theorem c146_186 : cd 146 186 = some (186, .iload 8, 2, []) := by decide +kernel
theorem x146_186 {d : Nat} {a0 a1 a2 a3 a4 a5 a6 a7 a9 : Value} {s0 : Int32} {s1 : Nat} {x : Int32} {h : AHp} : Rf d 146 186 [a0, a1, a2, a3, a4, a5, a6, a7, .int x, a9] [.int s0, .ref s1] h = Rf d 146 188 [a0, a1, a2, a3, a4, a5, a6, a7, .int x, a9] [.int x, .int s0, .ref s1] h := Rf_go ((stp_of c146_186).trans rfl)
theorem c146_188 : cd 146 188 = some (188, .iload 7, 2, []) := by decide +kernel
theorem x146_188 {d : Nat} {a0 a1 a2 a3 a4 a5 a6 a8 a9 : Value} {s0 : Int32} {s1 : Int32} {s2 : Nat} {x : Int32} {h : AHp} : Rf d 146 188 [a0, a1, a2, a3, a4, a5, a6, .int x, a8, a9] [.int s0, .int s1, .ref s2] h = Rf d 146 190 [a0, a1, a2, a3, a4, a5, a6, .int x, a8, a9] [.int x, .int s0, .int s1, .ref s2] h := Rf_go ((stp_of c146_188).trans rfl)
theorem c146_190 : cd 146 190 = some (190, .if_icmp .ge 33, 3, [(223, 0)]) := by decide +kernel
theorem x146_190 {d : Nat} {a0 a1 a2 a3 a4 a5 a6 a7 a8 a9 : Value} {s0 : Int32} {s1 : Int32} {s2 : Int32} {s3 : Nat} {h : AHp} : Rf d 146 190 [a0, a1, a2, a3, a4, a5, a6, a7, a8, a9] [.int s0, .int s1, .int s2, .ref s3] h = if s1 < s0 then Rf d 146 193 [a0, a1, a2, a3, a4, a5, a6, a7, a8, a9] [.int s2, .ref s3] h else Rf d 146 223 [a0, a1, a2, a3, a4, a5, a6, a7, a8, a9] [.int s2, .ref s3] h := Rf_brn ((stp_of c146_190).trans rfl)
theorem c146_193 : cd 146 193 = some (193, .goto 26, 3, [(219, 0)]) := by decide +kernel
theorem x146_193 {d : Nat} {a0 a1 a2 a3 a4 a5 a6 a7 a8 a9 : Value} {s0 : Int32} {s1 : Nat} {h : AHp} : Rf d 146 193 [a0, a1, a2, a3, a4, a5, a6, a7, a8, a9] [.int s0, .ref s1] h = Rf d 146 219 [a0, a1, a2, a3, a4, a5, a6, a7, a8, a9] [.int s0, .ref s1] h := Rf_go ((stp_of c146_193).trans rfl)
theorem c146_91 : cd 146 91 = some (91, .iinc 3 (-1), 3, []) := by decide +kernel
theorem x146_91 {d : Nat} {a0 a1 a2 a4 a5 a6 a7 a8 a9 : Value} {x : Int32} {h : AHp} : Rf d 146 91 [a0, a1, a2, .int x, a4, a5, a6, a7, a8, a9] [] h = Rf d 146 94 [a0, a1, a2, .int (x + (-1)), a4, a5, a6, a7, a8, a9] [] h := Rf_go ((stp_of c146_91).trans rfl)
theorem c146_94 : cd 146 94 = some (94, .aload_n 0, 1, []) := by decide +kernel
theorem x146_94 {d : Nat} {a1 a2 a3 a4 a5 a6 a7 a8 a9 : Value} {x : Nat} {h : AHp} : Rf d 146 94 [.ref x, a1, a2, a3, a4, a5, a6, a7, a8, a9] [] h = Rf d 146 95 [.ref x, a1, a2, a3, a4, a5, a6, a7, a8, a9] [.ref x] h := Rf_go ((stp_of c146_94).trans rfl)
theorem c146_95 : cd 146 95 = some (95, .getfield 16, 3, [(12, 6)]) := by decide +kernel
theorem x146_95 {d : Nat} {a0 a1 a2 a3 a4 a5 a6 a7 a8 a9 : Value} {s0 : Nat} {h : AHp} : Rf d 146 95 [a0, a1, a2, a3, a4, a5, a6, a7, a8, a9] [.ref s0] h = if cls (h.1 s0) = 12 ∧ oKr (h.1 s0) 6 = true then Rf d 146 98 [a0, a1, a2, a3, a4, a5, a6, a7, a8, a9] [.ref (oR (h.1 s0) 6)] h else Rx d 146 95 [a0, a1, a2, a3, a4, a5, a6, a7, a8, a9] [.ref s0] h := getR c146_95
theorem c146_98 : cd 146 98 = some (98, .iload_n 3, 1, []) := by decide +kernel
theorem x146_98 {d : Nat} {a0 a1 a2 a4 a5 a6 a7 a8 a9 : Value} {s0 : Nat} {x : Int32} {h : AHp} : Rf d 146 98 [a0, a1, a2, .int x, a4, a5, a6, a7, a8, a9] [.ref s0] h = Rf d 146 99 [a0, a1, a2, .int x, a4, a5, a6, a7, a8, a9] [.int x, .ref s0] h := Rf_go ((stp_of c146_98).trans rfl)
theorem c146_99 : cd 146 99 = some (99, .iconst 1, 1, []) := by decide +kernel
theorem x146_99 {d : Nat} {a0 a1 a2 a3 a4 a5 a6 a7 a8 a9 : Value} {s0 : Int32} {s1 : Nat} {h : AHp} : Rf d 146 99 [a0, a1, a2, a3, a4, a5, a6, a7, a8, a9] [.int s0, .ref s1] h = Rf d 146 100 [a0, a1, a2, a3, a4, a5, a6, a7, a8, a9] [.int 1, .int s0, .ref s1] h := Rf_go ((stp_of c146_99).trans rfl)
theorem c146_100 : cd 146 100 = some (100, .isub, 1, []) := by decide +kernel
theorem x146_100 {d : Nat} {a0 a1 a2 a3 a4 a5 a6 a7 a8 a9 : Value} {s0 : Int32} {s1 : Int32} {s2 : Nat} {h : AHp} : Rf d 146 100 [a0, a1, a2, a3, a4, a5, a6, a7, a8, a9] [.int s0, .int s1, .ref s2] h = Rf d 146 101 [a0, a1, a2, a3, a4, a5, a6, a7, a8, a9] [.int (s1 - s0), .ref s2] h := Rf_go ((stp_of c146_100).trans rfl)
theorem c146_101 : cd 146 101 = some (101, .iload 6, 2, []) := by decide +kernel
theorem x146_101 {d : Nat} {a0 a1 a2 a3 a4 a5 a7 a8 a9 : Value} {s0 : Int32} {s1 : Nat} {x : Int32} {h : AHp} : Rf d 146 101 [a0, a1, a2, a3, a4, a5, .int x, a7, a8, a9] [.int s0, .ref s1] h = Rf d 146 103 [a0, a1, a2, a3, a4, a5, .int x, a7, a8, a9] [.int x, .int s0, .ref s1] h := Rf_go ((stp_of c146_101).trans rfl)
theorem c146_103 : cd 146 103 = some (103, .iconst (-1), 1, []) := by decide +kernel
theorem x146_103 {d : Nat} {a0 a1 a2 a3 a4 a5 a6 a7 a8 a9 : Value} {s0 : Int32} {s1 : Int32} {s2 : Nat} {h : AHp} : Rf d 146 103 [a0, a1, a2, a3, a4, a5, a6, a7, a8, a9] [.int s0, .int s1, .ref s2] h = Rf d 146 104 [a0, a1, a2, a3, a4, a5, a6, a7, a8, a9] [.int (-1), .int s0, .int s1, .ref s2] h := Rf_go ((stp_of c146_103).trans rfl)
theorem c146_104 : cd 146 104 = some (104, .if_icmp .ne 21, 3, [(125, 0)]) := by decide +kernel
theorem x146_104 {d : Nat} {a0 a1 a2 a3 a4 a5 a6 a7 a8 a9 : Value} {s0 : Int32} {s1 : Int32} {s2 : Int32} {s3 : Nat} {h : AHp} : Rf d 146 104 [a0, a1, a2, a3, a4, a5, a6, a7, a8, a9] [.int s0, .int s1, .int s2, .ref s3] h = if s1 = s0 then Rf d 146 107 [a0, a1, a2, a3, a4, a5, a6, a7, a8, a9] [.int s2, .ref s3] h else Rf d 146 125 [a0, a1, a2, a3, a4, a5, a6, a7, a8, a9] [.int s2, .ref s3] h := Rf_brn ((stp_of c146_104).trans rfl)
theorem c146_125 : cd 146 125 = some (125, .aload_n 0, 1, []) := by decide +kernel
theorem x146_125 {d : Nat} {a1 a2 a3 a4 a5 a6 a7 a8 a9 : Value} {s0 : Int32} {s1 : Nat} {x : Nat} {h : AHp} : Rf d 146 125 [.ref x, a1, a2, a3, a4, a5, a6, a7, a8, a9] [.int s0, .ref s1] h = Rf d 146 126 [.ref x, a1, a2, a3, a4, a5, a6, a7, a8, a9] [.ref x, .int s0, .ref s1] h := Rf_go ((stp_of c146_125).trans rfl)
theorem c146_126 : cd 146 126 = some (126, .getfield 16, 3, [(12, 6)]) := by decide +kernel
theorem x146_126 {d : Nat} {a0 a1 a2 a3 a4 a5 a6 a7 a8 a9 : Value} {s0 : Nat} {s1 : Int32} {s2 : Nat} {h : AHp} : Rf d 146 126 [a0, a1, a2, a3, a4, a5, a6, a7, a8, a9] [.ref s0, .int s1, .ref s2] h = if cls (h.1 s0) = 12 ∧ oKr (h.1 s0) 6 = true then Rf d 146 129 [a0, a1, a2, a3, a4, a5, a6, a7, a8, a9] [.ref (oR (h.1 s0) 6), .int s1, .ref s2] h else Rx d 146 126 [a0, a1, a2, a3, a4, a5, a6, a7, a8, a9] [.ref s0, .int s1, .ref s2] h := getR c146_126
theorem c146_129 : cd 146 129 = some (129, .iload_n 3, 1, []) := by decide +kernel
theorem x146_129 {d : Nat} {a0 a1 a2 a4 a5 a6 a7 a8 a9 : Value} {s0 : Nat} {s1 : Int32} {s2 : Nat} {x : Int32} {h : AHp} : Rf d 146 129 [a0, a1, a2, .int x, a4, a5, a6, a7, a8, a9] [.ref s0, .int s1, .ref s2] h = Rf d 146 130 [a0, a1, a2, .int x, a4, a5, a6, a7, a8, a9] [.int x, .ref s0, .int s1, .ref s2] h := Rf_go ((stp_of c146_129).trans rfl)
theorem c146_130 : cd 146 130 = some (130, .iconst 1, 1, []) := by decide +kernel
theorem x146_130 {d : Nat} {a0 a1 a2 a3 a4 a5 a6 a7 a8 a9 : Value} {s0 : Int32} {s1 : Nat} {s2 : Int32} {s3 : Nat} {h : AHp} : Rf d 146 130 [a0, a1, a2, a3, a4, a5, a6, a7, a8, a9] [.int s0, .ref s1, .int s2, .ref s3] h = Rf d 146 131 [a0, a1, a2, a3, a4, a5, a6, a7, a8, a9] [.int 1, .int s0, .ref s1, .int s2, .ref s3] h := Rf_go ((stp_of c146_130).trans rfl)
theorem c146_131 : cd 146 131 = some (131, .isub, 1, []) := by decide +kernel
theorem x146_131 {d : Nat} {a0 a1 a2 a3 a4 a5 a6 a7 a8 a9 : Value} {s0 : Int32} {s1 : Int32} {s2 : Nat} {s3 : Int32} {s4 : Nat} {h : AHp} : Rf d 146 131 [a0, a1, a2, a3, a4, a5, a6, a7, a8, a9] [.int s0, .int s1, .ref s2, .int s3, .ref s4] h = Rf d 146 132 [a0, a1, a2, a3, a4, a5, a6, a7, a8, a9] [.int (s1 - s0), .ref s2, .int s3, .ref s4] h := Rf_go ((stp_of c146_131).trans rfl)
theorem c146_132 : cd 146 132 = some (132, .iaload, 1, []) := by decide +kernel
theorem x146_132 {d : Nat} {a0 a1 a2 a3 a4 a5 a6 a7 a8 a9 : Value} {s0 : Int32} {s1 : Nat} {s2 : Int32} {s3 : Nat} {h : AHp} : Rf d 146 132 [a0, a1, a2, a3, a4, a5, a6, a7, a8, a9] [.int s0, .ref s1, .int s2, .ref s3] h = if (aT (h.1 s1) = 0 ∨ aT (h.1 s1) = 10) ∧ inB s0 (aN (h.1 s1)) = true then Rf d 146 133 [a0, a1, a2, a3, a4, a5, a6, a7, a8, a9] [.int (aF (h.1 s1) s0.toNatClampNeg), .int s2, .ref s3] h else Rx d 146 132 [a0, a1, a2, a3, a4, a5, a6, a7, a8, a9] [.int s0, .ref s1, .int s2, .ref s3] h := ldI c146_132
theorem c146_133 : cd 146 133 = some (133, .aload_n 0, 1, []) := by decide +kernel
theorem x146_133 {d : Nat} {a1 a2 a3 a4 a5 a6 a7 a8 a9 : Value} {s0 : Int32} {s1 : Int32} {s2 : Nat} {x : Nat} {h : AHp} : Rf d 146 133 [.ref x, a1, a2, a3, a4, a5, a6, a7, a8, a9] [.int s0, .int s1, .ref s2] h = Rf d 146 134 [.ref x, a1, a2, a3, a4, a5, a6, a7, a8, a9] [.ref x, .int s0, .int s1, .ref s2] h := Rf_go ((stp_of c146_133).trans rfl)
theorem c146_134 : cd 146 134 = some (134, .getfield 16, 3, [(12, 6)]) := by decide +kernel
theorem x146_134 {d : Nat} {a0 a1 a2 a3 a4 a5 a6 a7 a8 a9 : Value} {s0 : Nat} {s1 : Int32} {s2 : Int32} {s3 : Nat} {h : AHp} : Rf d 146 134 [a0, a1, a2, a3, a4, a5, a6, a7, a8, a9] [.ref s0, .int s1, .int s2, .ref s3] h = if cls (h.1 s0) = 12 ∧ oKr (h.1 s0) 6 = true then Rf d 146 137 [a0, a1, a2, a3, a4, a5, a6, a7, a8, a9] [.ref (oR (h.1 s0) 6), .int s1, .int s2, .ref s3] h else Rx d 146 134 [a0, a1, a2, a3, a4, a5, a6, a7, a8, a9] [.ref s0, .int s1, .int s2, .ref s3] h := getR c146_134
theorem c146_137 : cd 146 137 = some (137, .iload_n 3, 1, []) := by decide +kernel
theorem x146_137 {d : Nat} {a0 a1 a2 a4 a5 a6 a7 a8 a9 : Value} {s0 : Nat} {s1 : Int32} {s2 : Int32} {s3 : Nat} {x : Int32} {h : AHp} : Rf d 146 137 [a0, a1, a2, .int x, a4, a5, a6, a7, a8, a9] [.ref s0, .int s1, .int s2, .ref s3] h = Rf d 146 138 [a0, a1, a2, .int x, a4, a5, a6, a7, a8, a9] [.int x, .ref s0, .int s1, .int s2, .ref s3] h := Rf_go ((stp_of c146_137).trans rfl)
theorem c146_138 : cd 146 138 = some (138, .iaload, 1, []) := by decide +kernel
theorem x146_138 {d : Nat} {a0 a1 a2 a3 a4 a5 a6 a7 a8 a9 : Value} {s0 : Int32} {s1 : Nat} {s2 : Int32} {s3 : Int32} {s4 : Nat} {h : AHp} : Rf d 146 138 [a0, a1, a2, a3, a4, a5, a6, a7, a8, a9] [.int s0, .ref s1, .int s2, .int s3, .ref s4] h = if (aT (h.1 s1) = 0 ∨ aT (h.1 s1) = 10) ∧ inB s0 (aN (h.1 s1)) = true then Rf d 146 139 [a0, a1, a2, a3, a4, a5, a6, a7, a8, a9] [.int (aF (h.1 s1) s0.toNatClampNeg), .int s2, .int s3, .ref s4] h else Rx d 146 138 [a0, a1, a2, a3, a4, a5, a6, a7, a8, a9] [.int s0, .ref s1, .int s2, .int s3, .ref s4] h := ldI c146_138
theorem c146_139 : cd 146 139 = some (139, .iand, 1, []) := by decide +kernel
theorem x146_139 {d : Nat} {a0 a1 a2 a3 a4 a5 a6 a7 a8 a9 : Value} {s0 : Int32} {s1 : Int32} {s2 : Int32} {s3 : Nat} {h : AHp} : Rf d 146 139 [a0, a1, a2, a3, a4, a5, a6, a7, a8, a9] [.int s0, .int s1, .int s2, .ref s3] h = Rf d 146 140 [a0, a1, a2, a3, a4, a5, a6, a7, a8, a9] [.int (s1 &&& s0), .int s2, .ref s3] h := Rf_go ((stp_of c146_139).trans rfl)
theorem c146_140 : cd 146 140 = some (140, .iastore, 1, []) := by decide +kernel
theorem x146_140 {d : Nat} {a0 a1 a2 a3 a4 a5 a6 a7 a8 a9 : Value} {s0 : Int32} {s1 : Int32} {s2 : Nat} {h : AHp} : Rf d 146 140 [a0, a1, a2, a3, a4, a5, a6, a7, a8, a9] [.int s0, .int s1, .ref s2] h = if aT (h.1 s2) = 0 ∧ inB s1 (aN (h.1 s2)) = true then Rf d 146 141 [a0, a1, a2, a3, a4, a5, a6, a7, a8, a9] [] (hset h s2 (.inl (0, aN (h.1 s2), .inl (upd (aF (h.1 s2)) s1.toNatClampNeg s0)))) else Rx d 146 140 [a0, a1, a2, a3, a4, a5, a6, a7, a8, a9] [.int s0, .int s1, .ref s2] h := stI c146_140
theorem c146_141 : cd 146 141 = some (141, .goto 84, 3, [(225, 0)]) := by decide +kernel
theorem x146_141 {d : Nat} {a0 a1 a2 a3 a4 a5 a6 a7 a8 a9 : Value} {h : AHp} : Rf d 146 141 [a0, a1, a2, a3, a4, a5, a6, a7, a8, a9] [] h = Rf d 146 225 [a0, a1, a2, a3, a4, a5, a6, a7, a8, a9] [] h := Rf_go ((stp_of c146_141).trans rfl)
theorem c146_107 : cd 146 107 = some (107, .aload_n 0, 1, []) := by decide +kernel
theorem x146_107 {d : Nat} {a1 a2 a3 a4 a5 a6 a7 a8 a9 : Value} {s0 : Int32} {s1 : Nat} {x : Nat} {h : AHp} : Rf d 146 107 [.ref x, a1, a2, a3, a4, a5, a6, a7, a8, a9] [.int s0, .ref s1] h = Rf d 146 108 [.ref x, a1, a2, a3, a4, a5, a6, a7, a8, a9] [.ref x, .int s0, .ref s1] h := Rf_go ((stp_of c146_107).trans rfl)
theorem c146_108 : cd 146 108 = some (108, .getfield 16, 3, [(12, 6)]) := by decide +kernel
theorem x146_108 {d : Nat} {a0 a1 a2 a3 a4 a5 a6 a7 a8 a9 : Value} {s0 : Nat} {s1 : Int32} {s2 : Nat} {h : AHp} : Rf d 146 108 [a0, a1, a2, a3, a4, a5, a6, a7, a8, a9] [.ref s0, .int s1, .ref s2] h = if cls (h.1 s0) = 12 ∧ oKr (h.1 s0) 6 = true then Rf d 146 111 [a0, a1, a2, a3, a4, a5, a6, a7, a8, a9] [.ref (oR (h.1 s0) 6), .int s1, .ref s2] h else Rx d 146 108 [a0, a1, a2, a3, a4, a5, a6, a7, a8, a9] [.ref s0, .int s1, .ref s2] h := getR c146_108
theorem c146_111 : cd 146 111 = some (111, .iload_n 3, 1, []) := by decide +kernel
theorem x146_111 {d : Nat} {a0 a1 a2 a4 a5 a6 a7 a8 a9 : Value} {s0 : Nat} {s1 : Int32} {s2 : Nat} {x : Int32} {h : AHp} : Rf d 146 111 [a0, a1, a2, .int x, a4, a5, a6, a7, a8, a9] [.ref s0, .int s1, .ref s2] h = Rf d 146 112 [a0, a1, a2, .int x, a4, a5, a6, a7, a8, a9] [.int x, .ref s0, .int s1, .ref s2] h := Rf_go ((stp_of c146_111).trans rfl)
theorem c146_112 : cd 146 112 = some (112, .iconst 1, 1, []) := by decide +kernel
theorem x146_112 {d : Nat} {a0 a1 a2 a3 a4 a5 a6 a7 a8 a9 : Value} {s0 : Int32} {s1 : Nat} {s2 : Int32} {s3 : Nat} {h : AHp} : Rf d 146 112 [a0, a1, a2, a3, a4, a5, a6, a7, a8, a9] [.int s0, .ref s1, .int s2, .ref s3] h = Rf d 146 113 [a0, a1, a2, a3, a4, a5, a6, a7, a8, a9] [.int 1, .int s0, .ref s1, .int s2, .ref s3] h := Rf_go ((stp_of c146_112).trans rfl)
theorem c146_113 : cd 146 113 = some (113, .isub, 1, []) := by decide +kernel
theorem x146_113 {d : Nat} {a0 a1 a2 a3 a4 a5 a6 a7 a8 a9 : Value} {s0 : Int32} {s1 : Int32} {s2 : Nat} {s3 : Int32} {s4 : Nat} {h : AHp} : Rf d 146 113 [a0, a1, a2, a3, a4, a5, a6, a7, a8, a9] [.int s0, .int s1, .ref s2, .int s3, .ref s4] h = Rf d 146 114 [a0, a1, a2, a3, a4, a5, a6, a7, a8, a9] [.int (s1 - s0), .ref s2, .int s3, .ref s4] h := Rf_go ((stp_of c146_113).trans rfl)
theorem c146_114 : cd 146 114 = some (114, .iaload, 1, []) := by decide +kernel
theorem x146_114 {d : Nat} {a0 a1 a2 a3 a4 a5 a6 a7 a8 a9 : Value} {s0 : Int32} {s1 : Nat} {s2 : Int32} {s3 : Nat} {h : AHp} : Rf d 146 114 [a0, a1, a2, a3, a4, a5, a6, a7, a8, a9] [.int s0, .ref s1, .int s2, .ref s3] h = if (aT (h.1 s1) = 0 ∨ aT (h.1 s1) = 10) ∧ inB s0 (aN (h.1 s1)) = true then Rf d 146 115 [a0, a1, a2, a3, a4, a5, a6, a7, a8, a9] [.int (aF (h.1 s1) s0.toNatClampNeg), .int s2, .ref s3] h else Rx d 146 114 [a0, a1, a2, a3, a4, a5, a6, a7, a8, a9] [.int s0, .ref s1, .int s2, .ref s3] h := ldI c146_114
theorem c146_115 : cd 146 115 = some (115, .aload_n 0, 1, []) := by decide +kernel
theorem x146_115 {d : Nat} {a1 a2 a3 a4 a5 a6 a7 a8 a9 : Value} {s0 : Int32} {s1 : Int32} {s2 : Nat} {x : Nat} {h : AHp} : Rf d 146 115 [.ref x, a1, a2, a3, a4, a5, a6, a7, a8, a9] [.int s0, .int s1, .ref s2] h = Rf d 146 116 [.ref x, a1, a2, a3, a4, a5, a6, a7, a8, a9] [.ref x, .int s0, .int s1, .ref s2] h := Rf_go ((stp_of c146_115).trans rfl)
theorem c146_116 : cd 146 116 = some (116, .getfield 16, 3, [(12, 6)]) := by decide +kernel
theorem x146_116 {d : Nat} {a0 a1 a2 a3 a4 a5 a6 a7 a8 a9 : Value} {s0 : Nat} {s1 : Int32} {s2 : Int32} {s3 : Nat} {h : AHp} : Rf d 146 116 [a0, a1, a2, a3, a4, a5, a6, a7, a8, a9] [.ref s0, .int s1, .int s2, .ref s3] h = if cls (h.1 s0) = 12 ∧ oKr (h.1 s0) 6 = true then Rf d 146 119 [a0, a1, a2, a3, a4, a5, a6, a7, a8, a9] [.ref (oR (h.1 s0) 6), .int s1, .int s2, .ref s3] h else Rx d 146 116 [a0, a1, a2, a3, a4, a5, a6, a7, a8, a9] [.ref s0, .int s1, .int s2, .ref s3] h := getR c146_116
theorem c146_119 : cd 146 119 = some (119, .iload_n 3, 1, []) := by decide +kernel
theorem x146_119 {d : Nat} {a0 a1 a2 a4 a5 a6 a7 a8 a9 : Value} {s0 : Nat} {s1 : Int32} {s2 : Int32} {s3 : Nat} {x : Int32} {h : AHp} : Rf d 146 119 [a0, a1, a2, .int x, a4, a5, a6, a7, a8, a9] [.ref s0, .int s1, .int s2, .ref s3] h = Rf d 146 120 [a0, a1, a2, .int x, a4, a5, a6, a7, a8, a9] [.int x, .ref s0, .int s1, .int s2, .ref s3] h := Rf_go ((stp_of c146_119).trans rfl)
theorem c146_120 : cd 146 120 = some (120, .iaload, 1, []) := by decide +kernel
theorem x146_120 {d : Nat} {a0 a1 a2 a3 a4 a5 a6 a7 a8 a9 : Value} {s0 : Int32} {s1 : Nat} {s2 : Int32} {s3 : Int32} {s4 : Nat} {h : AHp} : Rf d 146 120 [a0, a1, a2, a3, a4, a5, a6, a7, a8, a9] [.int s0, .ref s1, .int s2, .int s3, .ref s4] h = if (aT (h.1 s1) = 0 ∨ aT (h.1 s1) = 10) ∧ inB s0 (aN (h.1 s1)) = true then Rf d 146 121 [a0, a1, a2, a3, a4, a5, a6, a7, a8, a9] [.int (aF (h.1 s1) s0.toNatClampNeg), .int s2, .int s3, .ref s4] h else Rx d 146 120 [a0, a1, a2, a3, a4, a5, a6, a7, a8, a9] [.int s0, .ref s1, .int s2, .int s3, .ref s4] h := ldI c146_120
theorem c146_121 : cd 146 121 = some (121, .ior, 1, []) := by decide +kernel
theorem x146_121 {d : Nat} {a0 a1 a2 a3 a4 a5 a6 a7 a8 a9 : Value} {s0 : Int32} {s1 : Int32} {s2 : Int32} {s3 : Nat} {h : AHp} : Rf d 146 121 [a0, a1, a2, a3, a4, a5, a6, a7, a8, a9] [.int s0, .int s1, .int s2, .ref s3] h = Rf d 146 122 [a0, a1, a2, a3, a4, a5, a6, a7, a8, a9] [.int (s1 ||| s0), .int s2, .ref s3] h := Rf_go ((stp_of c146_121).trans rfl)
theorem c146_122 : cd 146 122 = some (122, .goto 18, 3, [(140, 0)]) := by decide +kernel
theorem x146_122 {d : Nat} {a0 a1 a2 a3 a4 a5 a6 a7 a8 a9 : Value} {s0 : Int32} {s1 : Int32} {s2 : Nat} {h : AHp} : Rf d 146 122 [a0, a1, a2, a3, a4, a5, a6, a7, a8, a9] [.int s0, .int s1, .ref s2] h = Rf d 146 140 [a0, a1, a2, a3, a4, a5, a6, a7, a8, a9] [.int s0, .int s1, .ref s2] h := Rf_go ((stp_of c146_122).trans rfl)
theorem c146_65 : cd 146 65 = some (65, .aload_n 0, 1, []) := by decide +kernel
theorem x146_65 {d : Nat} {a1 a2 a3 a4 a5 a6 a7 a8 a9 : Value} {x : Nat} {h : AHp} : Rf d 146 65 [.ref x, a1, a2, a3, a4, a5, a6, a7, a8, a9] [] h = Rf d 146 66 [.ref x, a1, a2, a3, a4, a5, a6, a7, a8, a9] [.ref x] h := Rf_go ((stp_of c146_65).trans rfl)
theorem c146_66 : cd 146 66 = some (66, .getfield 16, 3, [(12, 6)]) := by decide +kernel
theorem x146_66 {d : Nat} {a0 a1 a2 a3 a4 a5 a6 a7 a8 a9 : Value} {s0 : Nat} {h : AHp} : Rf d 146 66 [a0, a1, a2, a3, a4, a5, a6, a7, a8, a9] [.ref s0] h = if cls (h.1 s0) = 12 ∧ oKr (h.1 s0) 6 = true then Rf d 146 69 [a0, a1, a2, a3, a4, a5, a6, a7, a8, a9] [.ref (oR (h.1 s0) 6)] h else Rx d 146 66 [a0, a1, a2, a3, a4, a5, a6, a7, a8, a9] [.ref s0] h := getR c146_66
theorem c146_69 : cd 146 69 = some (69, .iload_n 3, 1, []) := by decide +kernel
theorem x146_69 {d : Nat} {a0 a1 a2 a4 a5 a6 a7 a8 a9 : Value} {s0 : Nat} {x : Int32} {h : AHp} : Rf d 146 69 [a0, a1, a2, .int x, a4, a5, a6, a7, a8, a9] [.ref s0] h = Rf d 146 70 [a0, a1, a2, .int x, a4, a5, a6, a7, a8, a9] [.int x, .ref s0] h := Rf_go ((stp_of c146_69).trans rfl)
theorem c146_70 : cd 146 70 = some (70, .iconst 1, 1, []) := by decide +kernel
theorem x146_70 {d : Nat} {a0 a1 a2 a3 a4 a5 a6 a7 a8 a9 : Value} {s0 : Int32} {s1 : Nat} {h : AHp} : Rf d 146 70 [a0, a1, a2, a3, a4, a5, a6, a7, a8, a9] [.int s0, .ref s1] h = Rf d 146 71 [a0, a1, a2, a3, a4, a5, a6, a7, a8, a9] [.int 1, .int s0, .ref s1] h := Rf_go ((stp_of c146_70).trans rfl)
theorem c146_71 : cd 146 71 = some (71, .isub, 1, []) := by decide +kernel
theorem x146_71 {d : Nat} {a0 a1 a2 a3 a4 a5 a6 a7 a8 a9 : Value} {s0 : Int32} {s1 : Int32} {s2 : Nat} {h : AHp} : Rf d 146 71 [a0, a1, a2, a3, a4, a5, a6, a7, a8, a9] [.int s0, .int s1, .ref s2] h = Rf d 146 72 [a0, a1, a2, a3, a4, a5, a6, a7, a8, a9] [.int (s1 - s0), .ref s2] h := Rf_go ((stp_of c146_71).trans rfl)
theorem c146_72 : cd 146 72 = some (72, .iconst 1, 1, []) := by decide +kernel
theorem x146_72 {d : Nat} {a0 a1 a2 a3 a4 a5 a6 a7 a8 a9 : Value} {s0 : Int32} {s1 : Nat} {h : AHp} : Rf d 146 72 [a0, a1, a2, a3, a4, a5, a6, a7, a8, a9] [.int s0, .ref s1] h = Rf d 146 73 [a0, a1, a2, a3, a4, a5, a6, a7, a8, a9] [.int 1, .int s0, .ref s1] h := Rf_go ((stp_of c146_72).trans rfl)
theorem c146_73 : cd 146 73 = some (73, .aload_n 0, 1, []) := by decide +kernel
theorem x146_73 {d : Nat} {a1 a2 a3 a4 a5 a6 a7 a8 a9 : Value} {s0 : Int32} {s1 : Int32} {s2 : Nat} {x : Nat} {h : AHp} : Rf d 146 73 [.ref x, a1, a2, a3, a4, a5, a6, a7, a8, a9] [.int s0, .int s1, .ref s2] h = Rf d 146 74 [.ref x, a1, a2, a3, a4, a5, a6, a7, a8, a9] [.ref x, .int s0, .int s1, .ref s2] h := Rf_go ((stp_of c146_73).trans rfl)
theorem c146_74 : cd 146 74 = some (74, .getfield 16, 3, [(12, 6)]) := by decide +kernel
theorem x146_74 {d : Nat} {a0 a1 a2 a3 a4 a5 a6 a7 a8 a9 : Value} {s0 : Nat} {s1 : Int32} {s2 : Int32} {s3 : Nat} {h : AHp} : Rf d 146 74 [a0, a1, a2, a3, a4, a5, a6, a7, a8, a9] [.ref s0, .int s1, .int s2, .ref s3] h = if cls (h.1 s0) = 12 ∧ oKr (h.1 s0) 6 = true then Rf d 146 77 [a0, a1, a2, a3, a4, a5, a6, a7, a8, a9] [.ref (oR (h.1 s0) 6), .int s1, .int s2, .ref s3] h else Rx d 146 74 [a0, a1, a2, a3, a4, a5, a6, a7, a8, a9] [.ref s0, .int s1, .int s2, .ref s3] h := getR c146_74
theorem c146_77 : cd 146 77 = some (77, .iload_n 3, 1, []) := by decide +kernel
theorem x146_77 {d : Nat} {a0 a1 a2 a4 a5 a6 a7 a8 a9 : Value} {s0 : Nat} {s1 : Int32} {s2 : Int32} {s3 : Nat} {x : Int32} {h : AHp} : Rf d 146 77 [a0, a1, a2, .int x, a4, a5, a6, a7, a8, a9] [.ref s0, .int s1, .int s2, .ref s3] h = Rf d 146 78 [a0, a1, a2, .int x, a4, a5, a6, a7, a8, a9] [.int x, .ref s0, .int s1, .int s2, .ref s3] h := Rf_go ((stp_of c146_77).trans rfl)
theorem c146_78 : cd 146 78 = some (78, .iconst 1, 1, []) := by decide +kernel
theorem x146_78 {d : Nat} {a0 a1 a2 a3 a4 a5 a6 a7 a8 a9 : Value} {s0 : Int32} {s1 : Nat} {s2 : Int32} {s3 : Int32} {s4 : Nat} {h : AHp} : Rf d 146 78 [a0, a1, a2, a3, a4, a5, a6, a7, a8, a9] [.int s0, .ref s1, .int s2, .int s3, .ref s4] h = Rf d 146 79 [a0, a1, a2, a3, a4, a5, a6, a7, a8, a9] [.int 1, .int s0, .ref s1, .int s2, .int s3, .ref s4] h := Rf_go ((stp_of c146_78).trans rfl)
theorem c146_79 : cd 146 79 = some (79, .isub, 1, []) := by decide +kernel
theorem x146_79 {d : Nat} {a0 a1 a2 a3 a4 a5 a6 a7 a8 a9 : Value} {s0 : Int32} {s1 : Int32} {s2 : Nat} {s3 : Int32} {s4 : Int32} {s5 : Nat} {h : AHp} : Rf d 146 79 [a0, a1, a2, a3, a4, a5, a6, a7, a8, a9] [.int s0, .int s1, .ref s2, .int s3, .int s4, .ref s5] h = Rf d 146 80 [a0, a1, a2, a3, a4, a5, a6, a7, a8, a9] [.int (s1 - s0), .ref s2, .int s3, .int s4, .ref s5] h := Rf_go ((stp_of c146_79).trans rfl)
theorem c146_80 : cd 146 80 = some (80, .iaload, 1, []) := by decide +kernel
theorem x146_80 {d : Nat} {a0 a1 a2 a3 a4 a5 a6 a7 a8 a9 : Value} {s0 : Int32} {s1 : Nat} {s2 : Int32} {s3 : Int32} {s4 : Nat} {h : AHp} : Rf d 146 80 [a0, a1, a2, a3, a4, a5, a6, a7, a8, a9] [.int s0, .ref s1, .int s2, .int s3, .ref s4] h = if (aT (h.1 s1) = 0 ∨ aT (h.1 s1) = 10) ∧ inB s0 (aN (h.1 s1)) = true then Rf d 146 81 [a0, a1, a2, a3, a4, a5, a6, a7, a8, a9] [.int (aF (h.1 s1) s0.toNatClampNeg), .int s2, .int s3, .ref s4] h else Rx d 146 80 [a0, a1, a2, a3, a4, a5, a6, a7, a8, a9] [.int s0, .ref s1, .int s2, .int s3, .ref s4] h := ldI c146_80
theorem c146_81 : cd 146 81 = some (81, .isub, 1, []) := by decide +kernel
theorem x146_81 {d : Nat} {a0 a1 a2 a3 a4 a5 a6 a7 a8 a9 : Value} {s0 : Int32} {s1 : Int32} {s2 : Int32} {s3 : Nat} {h : AHp} : Rf d 146 81 [a0, a1, a2, a3, a4, a5, a6, a7, a8, a9] [.int s0, .int s1, .int s2, .ref s3] h = Rf d 146 82 [a0, a1, a2, a3, a4, a5, a6, a7, a8, a9] [.int (s1 - s0), .int s2, .ref s3] h := Rf_go ((stp_of c146_81).trans rfl)
theorem c146_82 : cd 146 82 = some (82, .iastore, 1, []) := by decide +kernel
theorem x146_82 {d : Nat} {a0 a1 a2 a3 a4 a5 a6 a7 a8 a9 : Value} {s0 : Int32} {s1 : Int32} {s2 : Nat} {h : AHp} : Rf d 146 82 [a0, a1, a2, a3, a4, a5, a6, a7, a8, a9] [.int s0, .int s1, .ref s2] h = if aT (h.1 s2) = 0 ∧ inB s1 (aN (h.1 s2)) = true then Rf d 146 83 [a0, a1, a2, a3, a4, a5, a6, a7, a8, a9] [] (hset h s2 (.inl (0, aN (h.1 s2), .inl (upd (aF (h.1 s2)) s1.toNatClampNeg s0)))) else Rx d 146 82 [a0, a1, a2, a3, a4, a5, a6, a7, a8, a9] [.int s0, .int s1, .ref s2] h := stI c146_82
theorem c146_83 : cd 146 83 = some (83, .goto 142, 3, [(225, 0)]) := by decide +kernel
theorem x146_83 {d : Nat} {a0 a1 a2 a3 a4 a5 a6 a7 a8 a9 : Value} {h : AHp} : Rf d 146 83 [a0, a1, a2, a3, a4, a5, a6, a7, a8, a9] [] h = Rf d 146 225 [a0, a1, a2, a3, a4, a5, a6, a7, a8, a9] [] h := Rf_go ((stp_of c146_83).trans rfl)
-- 147: X12_value
theorem c147_0 : cd 147 0 = some (0, .iload_n 1, 1, []) := by decide +kernel
theorem x147_0 {d : Nat} {a0 a2 : Value} {x : Int32} {h : AHp} : Rf d 147 0 [a0, .int x, a2] [] h = Rf d 147 1 [a0, .int x, a2] [.int x] h := Rf_go ((stp_of c147_0).trans rfl)
theorem c147_1 : cd 147 1 = some (1, .tableswitch 83 0 4 #[35, 37, 47, 57, 70], 35, [(0, 84), (0, 36), (1, 38), (2, 48), (3, 58), (4, 71)]) := by decide +kernel
theorem x147_1 {d : Nat} {a0 a1 a2 : Value} {s0 : Int32} {h : AHp} : Rf d 147 1 [a0, a1, a2] [.int s0] h = if s0 = 0 then Rf d 147 36 [a0, a1, a2] [] h else (if s0 = 1 then Rf d 147 38 [a0, a1, a2] [] h else (if s0 = 2 then Rf d 147 48 [a0, a1, a2] [] h else (if s0 = 3 then Rf d 147 58 [a0, a1, a2] [] h else (if s0 = 4 then Rf d 147 71 [a0, a1, a2] [] h else (Rf d 147 84 [a0, a1, a2] [] h))))) := (swE (e := 84) c147_1 rfl).trans (by simp only [List.drop, swT, Rf_ite]; rfl)
theorem c147_71 : cd 147 71 = some (71, .aload_n 0, 1, []) := by decide +kernel
theorem x147_71 {d : Nat} {a1 a2 : Value} {x : Nat} {h : AHp} : Rf d 147 71 [.ref x, a1, a2] [] h = Rf d 147 72 [.ref x, a1, a2] [.ref x] h := Rf_go ((stp_of c147_71).trans rfl)
theorem c147_72 : cd 147 72 = some (72, .getfield 9, 3, [(12, 0)]) := by decide +kernel
theorem x147_72 {d : Nat} {a0 a1 a2 : Value} {s0 : Nat} {h : AHp} : Rf d 147 72 [a0, a1, a2] [.ref s0] h = if cls (h.1 s0) = 12 ∧ oKr (h.1 s0) 0 = true then Rf d 147 75 [a0, a1, a2] [.ref (oR (h.1 s0) 0)] h else Rx d 147 72 [a0, a1, a2] [.ref s0] h := getR c147_72
theorem c147_75 : cd 147 75 = some (75, .bipush 30, 2, []) := by decide +kernel
theorem x147_75 {d : Nat} {a0 a1 a2 : Value} {s0 : Nat} {h : AHp} : Rf d 147 75 [a0, a1, a2] [.ref s0] h = Rf d 147 77 [a0, a1, a2] [.int 30, .ref s0] h := Rf_go ((stp_of c147_75).trans rfl)
theorem c147_77 : cd 147 77 = some (77, .iload_n 2, 1, []) := by decide +kernel
theorem x147_77 {d : Nat} {a0 a1 : Value} {s0 : Int32} {s1 : Nat} {x : Int32} {h : AHp} : Rf d 147 77 [a0, a1, .int x] [.int s0, .ref s1] h = Rf d 147 78 [a0, a1, .int x] [.int x, .int s0, .ref s1] h := Rf_go ((stp_of c147_77).trans rfl)
theorem c147_78 : cd 147 78 = some (78, .iadd, 1, []) := by decide +kernel
theorem x147_78 {d : Nat} {a0 a1 a2 : Value} {s0 : Int32} {s1 : Int32} {s2 : Nat} {h : AHp} : Rf d 147 78 [a0, a1, a2] [.int s0, .int s1, .ref s2] h = Rf d 147 79 [a0, a1, a2] [.int (s1 + s0), .ref s2] h := Rf_go ((stp_of c147_78).trans rfl)
theorem c147_79 : cd 147 79 = some (79, .iaload, 1, []) := by decide +kernel
theorem x147_79 {d : Nat} {a0 a1 a2 : Value} {s0 : Int32} {s1 : Nat} {h : AHp} : Rf d 147 79 [a0, a1, a2] [.int s0, .ref s1] h = if (aT (h.1 s1) = 0 ∨ aT (h.1 s1) = 10) ∧ inB s0 (aN (h.1 s1)) = true then Rf d 147 80 [a0, a1, a2] [.int (aF (h.1 s1) s0.toNatClampNeg)] h else Rx d 147 79 [a0, a1, a2] [.int s0, .ref s1] h := ldI c147_79
theorem c147_80 : cd 147 80 = some (80, .bipush 10, 2, []) := by decide +kernel
theorem x147_80 {d : Nat} {a0 a1 a2 : Value} {s0 : Int32} {h : AHp} : Rf d 147 80 [a0, a1, a2] [.int s0] h = Rf d 147 82 [a0, a1, a2] [.int 10, .int s0] h := Rf_go ((stp_of c147_80).trans rfl)
theorem c147_82 : cd 147 82 = some (82, .idiv, 1, []) := by decide +kernel
theorem x147_82 {d : Nat} {a0 a1 a2 : Value} {s0 : Int32} {s1 : Int32} {h : AHp} : Rf d 147 82 [a0, a1, a2] [.int s0, .int s1] h = if ¬ s0 = 0 then Rf d 147 83 [a0, a1, a2] [.int (s1 / s0)] h else Rx d 147 82 [a0, a1, a2] [.int s0, .int s1] h := divE c147_82 (fun _ _ _ => rfl)
theorem c147_83 : cd 147 83 = some (83, .ireturn, 1, []) := by decide +kernel
theorem x147_83 {d : Nat} {a0 a1 a2 : Value} {s0 : Int32} {h : AHp} : Rf d 147 83 [a0, a1, a2] [.int s0] h = some (some (.int s0), h) := Rf_end (by rw [stp_of c147_83]; simp only [stpI]; rw [if_pos (show retI (mH 147).2.2.1 s0 = true from retI_int)])
theorem c147_58 : cd 147 58 = some (58, .aload_n 0, 1, []) := by decide +kernel
theorem x147_58 {d : Nat} {a1 a2 : Value} {x : Nat} {h : AHp} : Rf d 147 58 [.ref x, a1, a2] [] h = Rf d 147 59 [.ref x, a1, a2] [.ref x] h := Rf_go ((stp_of c147_58).trans rfl)
theorem c147_59 : cd 147 59 = some (59, .getfield 9, 3, [(12, 0)]) := by decide +kernel
theorem x147_59 {d : Nat} {a0 a1 a2 : Value} {s0 : Nat} {h : AHp} : Rf d 147 59 [a0, a1, a2] [.ref s0] h = if cls (h.1 s0) = 12 ∧ oKr (h.1 s0) 0 = true then Rf d 147 62 [a0, a1, a2] [.ref (oR (h.1 s0) 0)] h else Rx d 147 59 [a0, a1, a2] [.ref s0] h := getR c147_59
theorem c147_62 : cd 147 62 = some (62, .bipush 20, 2, []) := by decide +kernel
theorem x147_62 {d : Nat} {a0 a1 a2 : Value} {s0 : Nat} {h : AHp} : Rf d 147 62 [a0, a1, a2] [.ref s0] h = Rf d 147 64 [a0, a1, a2] [.int 20, .ref s0] h := Rf_go ((stp_of c147_62).trans rfl)
theorem c147_64 : cd 147 64 = some (64, .iload_n 2, 1, []) := by decide +kernel
theorem x147_64 {d : Nat} {a0 a1 : Value} {s0 : Int32} {s1 : Nat} {x : Int32} {h : AHp} : Rf d 147 64 [a0, a1, .int x] [.int s0, .ref s1] h = Rf d 147 65 [a0, a1, .int x] [.int x, .int s0, .ref s1] h := Rf_go ((stp_of c147_64).trans rfl)
theorem c147_65 : cd 147 65 = some (65, .iadd, 1, []) := by decide +kernel
theorem x147_65 {d : Nat} {a0 a1 a2 : Value} {s0 : Int32} {s1 : Int32} {s2 : Nat} {h : AHp} : Rf d 147 65 [a0, a1, a2] [.int s0, .int s1, .ref s2] h = Rf d 147 66 [a0, a1, a2] [.int (s1 + s0), .ref s2] h := Rf_go ((stp_of c147_65).trans rfl)
theorem c147_66 : cd 147 66 = some (66, .iaload, 1, []) := by decide +kernel
theorem x147_66 {d : Nat} {a0 a1 a2 : Value} {s0 : Int32} {s1 : Nat} {h : AHp} : Rf d 147 66 [a0, a1, a2] [.int s0, .ref s1] h = if (aT (h.1 s1) = 0 ∨ aT (h.1 s1) = 10) ∧ inB s0 (aN (h.1 s1)) = true then Rf d 147 67 [a0, a1, a2] [.int (aF (h.1 s1) s0.toNatClampNeg)] h else Rx d 147 66 [a0, a1, a2] [.int s0, .ref s1] h := ldI c147_66
theorem c147_67 : cd 147 67 = some (67, .bipush 10, 2, []) := by decide +kernel
theorem x147_67 {d : Nat} {a0 a1 a2 : Value} {s0 : Int32} {h : AHp} : Rf d 147 67 [a0, a1, a2] [.int s0] h = Rf d 147 69 [a0, a1, a2] [.int 10, .int s0] h := Rf_go ((stp_of c147_67).trans rfl)
theorem c147_69 : cd 147 69 = some (69, .idiv, 1, []) := by decide +kernel
theorem x147_69 {d : Nat} {a0 a1 a2 : Value} {s0 : Int32} {s1 : Int32} {h : AHp} : Rf d 147 69 [a0, a1, a2] [.int s0, .int s1] h = if ¬ s0 = 0 then Rf d 147 70 [a0, a1, a2] [.int (s1 / s0)] h else Rx d 147 69 [a0, a1, a2] [.int s0, .int s1] h := divE c147_69 (fun _ _ _ => rfl)
theorem c147_70 : cd 147 70 = some (70, .ireturn, 1, []) := by decide +kernel
theorem x147_70 {d : Nat} {a0 a1 a2 : Value} {s0 : Int32} {h : AHp} : Rf d 147 70 [a0, a1, a2] [.int s0] h = some (some (.int s0), h) := Rf_end (by rw [stp_of c147_70]; simp only [stpI]; rw [if_pos (show retI (mH 147).2.2.1 s0 = true from retI_int)])
theorem c147_48 : cd 147 48 = some (48, .aload_n 0, 1, []) := by decide +kernel
theorem x147_48 {d : Nat} {a1 a2 : Value} {x : Nat} {h : AHp} : Rf d 147 48 [.ref x, a1, a2] [] h = Rf d 147 49 [.ref x, a1, a2] [.ref x] h := Rf_go ((stp_of c147_48).trans rfl)
theorem c147_49 : cd 147 49 = some (49, .getfield 9, 3, [(12, 0)]) := by decide +kernel
theorem x147_49 {d : Nat} {a0 a1 a2 : Value} {s0 : Nat} {h : AHp} : Rf d 147 49 [a0, a1, a2] [.ref s0] h = if cls (h.1 s0) = 12 ∧ oKr (h.1 s0) 0 = true then Rf d 147 52 [a0, a1, a2] [.ref (oR (h.1 s0) 0)] h else Rx d 147 49 [a0, a1, a2] [.ref s0] h := getR c147_49
theorem c147_52 : cd 147 52 = some (52, .bipush 40, 2, []) := by decide +kernel
theorem x147_52 {d : Nat} {a0 a1 a2 : Value} {s0 : Nat} {h : AHp} : Rf d 147 52 [a0, a1, a2] [.ref s0] h = Rf d 147 54 [a0, a1, a2] [.int 40, .ref s0] h := Rf_go ((stp_of c147_52).trans rfl)
theorem c147_54 : cd 147 54 = some (54, .iload_n 2, 1, []) := by decide +kernel
theorem x147_54 {d : Nat} {a0 a1 : Value} {s0 : Int32} {s1 : Nat} {x : Int32} {h : AHp} : Rf d 147 54 [a0, a1, .int x] [.int s0, .ref s1] h = Rf d 147 55 [a0, a1, .int x] [.int x, .int s0, .ref s1] h := Rf_go ((stp_of c147_54).trans rfl)
theorem c147_55 : cd 147 55 = some (55, .iadd, 1, []) := by decide +kernel
theorem x147_55 {d : Nat} {a0 a1 a2 : Value} {s0 : Int32} {s1 : Int32} {s2 : Nat} {h : AHp} : Rf d 147 55 [a0, a1, a2] [.int s0, .int s1, .ref s2] h = Rf d 147 56 [a0, a1, a2] [.int (s1 + s0), .ref s2] h := Rf_go ((stp_of c147_55).trans rfl)
theorem c147_56 : cd 147 56 = some (56, .iaload, 1, []) := by decide +kernel
theorem x147_56 {d : Nat} {a0 a1 a2 : Value} {s0 : Int32} {s1 : Nat} {h : AHp} : Rf d 147 56 [a0, a1, a2] [.int s0, .ref s1] h = if (aT (h.1 s1) = 0 ∨ aT (h.1 s1) = 10) ∧ inB s0 (aN (h.1 s1)) = true then Rf d 147 57 [a0, a1, a2] [.int (aF (h.1 s1) s0.toNatClampNeg)] h else Rx d 147 56 [a0, a1, a2] [.int s0, .ref s1] h := ldI c147_56
theorem c147_57 : cd 147 57 = some (57, .ireturn, 1, []) := by decide +kernel
theorem x147_57 {d : Nat} {a0 a1 a2 : Value} {s0 : Int32} {h : AHp} : Rf d 147 57 [a0, a1, a2] [.int s0] h = some (some (.int s0), h) := Rf_end (by rw [stp_of c147_57]; simp only [stpI]; rw [if_pos (show retI (mH 147).2.2.1 s0 = true from retI_int)])
theorem c147_38 : cd 147 38 = some (38, .aload_n 0, 1, []) := by decide +kernel
theorem x147_38 {d : Nat} {a1 a2 : Value} {x : Nat} {h : AHp} : Rf d 147 38 [.ref x, a1, a2] [] h = Rf d 147 39 [.ref x, a1, a2] [.ref x] h := Rf_go ((stp_of c147_38).trans rfl)
theorem c147_39 : cd 147 39 = some (39, .getfield 9, 3, [(12, 0)]) := by decide +kernel
theorem x147_39 {d : Nat} {a0 a1 a2 : Value} {s0 : Nat} {h : AHp} : Rf d 147 39 [a0, a1, a2] [.ref s0] h = if cls (h.1 s0) = 12 ∧ oKr (h.1 s0) 0 = true then Rf d 147 42 [a0, a1, a2] [.ref (oR (h.1 s0) 0)] h else Rx d 147 39 [a0, a1, a2] [.ref s0] h := getR c147_39
theorem c147_42 : cd 147 42 = some (42, .bipush 60, 2, []) := by decide +kernel
theorem x147_42 {d : Nat} {a0 a1 a2 : Value} {s0 : Nat} {h : AHp} : Rf d 147 42 [a0, a1, a2] [.ref s0] h = Rf d 147 44 [a0, a1, a2] [.int 60, .ref s0] h := Rf_go ((stp_of c147_42).trans rfl)
theorem c147_44 : cd 147 44 = some (44, .iload_n 2, 1, []) := by decide +kernel
theorem x147_44 {d : Nat} {a0 a1 : Value} {s0 : Int32} {s1 : Nat} {x : Int32} {h : AHp} : Rf d 147 44 [a0, a1, .int x] [.int s0, .ref s1] h = Rf d 147 45 [a0, a1, .int x] [.int x, .int s0, .ref s1] h := Rf_go ((stp_of c147_44).trans rfl)
theorem c147_45 : cd 147 45 = some (45, .iadd, 1, []) := by decide +kernel
theorem x147_45 {d : Nat} {a0 a1 a2 : Value} {s0 : Int32} {s1 : Int32} {s2 : Nat} {h : AHp} : Rf d 147 45 [a0, a1, a2] [.int s0, .int s1, .ref s2] h = Rf d 147 46 [a0, a1, a2] [.int (s1 + s0), .ref s2] h := Rf_go ((stp_of c147_45).trans rfl)
theorem c147_46 : cd 147 46 = some (46, .iaload, 1, []) := by decide +kernel
theorem x147_46 {d : Nat} {a0 a1 a2 : Value} {s0 : Int32} {s1 : Nat} {h : AHp} : Rf d 147 46 [a0, a1, a2] [.int s0, .ref s1] h = if (aT (h.1 s1) = 0 ∨ aT (h.1 s1) = 10) ∧ inB s0 (aN (h.1 s1)) = true then Rf d 147 47 [a0, a1, a2] [.int (aF (h.1 s1) s0.toNatClampNeg)] h else Rx d 147 46 [a0, a1, a2] [.int s0, .ref s1] h := ldI c147_46
theorem c147_47 : cd 147 47 = some (47, .ireturn, 1, []) := by decide +kernel
theorem x147_47 {d : Nat} {a0 a1 a2 : Value} {s0 : Int32} {h : AHp} : Rf d 147 47 [a0, a1, a2] [.int s0] h = some (some (.int s0), h) := Rf_end (by rw [stp_of c147_47]; simp only [stpI]; rw [if_pos (show retI (mH 147).2.2.1 s0 = true from retI_int)])
theorem c147_36 : cd 147 36 = some (36, .iload_n 2, 1, []) := by decide +kernel
theorem x147_36 {d : Nat} {a0 a1 : Value} {x : Int32} {h : AHp} : Rf d 147 36 [a0, a1, .int x] [] h = Rf d 147 37 [a0, a1, .int x] [.int x] h := Rf_go ((stp_of c147_36).trans rfl)
theorem c147_37 : cd 147 37 = some (37, .ireturn, 1, []) := by decide +kernel
theorem x147_37 {d : Nat} {a0 a1 a2 : Value} {s0 : Int32} {h : AHp} : Rf d 147 37 [a0, a1, a2] [.int s0] h = some (some (.int s0), h) := Rf_end (by rw [stp_of c147_37]; simp only [stpI]; rw [if_pos (show retI (mH 147).2.2.1 s0 = true from retI_int)])
theorem c147_84 : cd 147 84 = some (84, .aload_n 0, 1, []) := by decide +kernel
theorem x147_84 {d : Nat} {a1 a2 : Value} {x : Nat} {h : AHp} : Rf d 147 84 [.ref x, a1, a2] [] h = Rf d 147 85 [.ref x, a1, a2] [.ref x] h := Rf_go ((stp_of c147_84).trans rfl)
theorem c147_85 : cd 147 85 = some (85, .getfield 9, 3, [(12, 0)]) := by decide +kernel
theorem x147_85 {d : Nat} {a0 a1 a2 : Value} {s0 : Nat} {h : AHp} : Rf d 147 85 [a0, a1, a2] [.ref s0] h = if cls (h.1 s0) = 12 ∧ oKr (h.1 s0) 0 = true then Rf d 147 88 [a0, a1, a2] [.ref (oR (h.1 s0) 0)] h else Rx d 147 85 [a0, a1, a2] [.ref s0] h := getR c147_85
theorem c147_88 : cd 147 88 = some (88, .bipush 6, 2, []) := by decide +kernel
theorem x147_88 {d : Nat} {a0 a1 a2 : Value} {s0 : Nat} {h : AHp} : Rf d 147 88 [a0, a1, a2] [.ref s0] h = Rf d 147 90 [a0, a1, a2] [.int 6, .ref s0] h := Rf_go ((stp_of c147_88).trans rfl)
theorem c147_90 : cd 147 90 = some (90, .iaload, 1, []) := by decide +kernel
theorem x147_90 {d : Nat} {a0 a1 a2 : Value} {s0 : Int32} {s1 : Nat} {h : AHp} : Rf d 147 90 [a0, a1, a2] [.int s0, .ref s1] h = if (aT (h.1 s1) = 0 ∨ aT (h.1 s1) = 10) ∧ inB s0 (aN (h.1 s1)) = true then Rf d 147 91 [a0, a1, a2] [.int (aF (h.1 s1) s0.toNatClampNeg)] h else Rx d 147 90 [a0, a1, a2] [.int s0, .ref s1] h := ldI c147_90
theorem c147_91 : cd 147 91 = some (91, .bipush 10, 2, []) := by decide +kernel
theorem x147_91 {d : Nat} {a0 a1 a2 : Value} {s0 : Int32} {h : AHp} : Rf d 147 91 [a0, a1, a2] [.int s0] h = Rf d 147 93 [a0, a1, a2] [.int 10, .int s0] h := Rf_go ((stp_of c147_91).trans rfl)
theorem c147_93 : cd 147 93 = some (93, .irem, 1, []) := by decide +kernel
theorem x147_93 {d : Nat} {a0 a1 a2 : Value} {s0 : Int32} {s1 : Int32} {h : AHp} : Rf d 147 93 [a0, a1, a2] [.int s0, .int s1] h = if ¬ s0 = 0 then Rf d 147 94 [a0, a1, a2] [.int (remI s1 s0)] h else Rx d 147 93 [a0, a1, a2] [.int s0, .int s1] h := divE c147_93 (fun _ _ _ => rfl)
theorem c147_94 : cd 147 94 = some (94, .ireturn, 1, []) := by decide +kernel
theorem x147_94 {d : Nat} {a0 a1 a2 : Value} {s0 : Int32} {h : AHp} : Rf d 147 94 [a0, a1, a2] [.int s0] h = some (some (.int s0), h) := Rf_end (by rw [stp_of c147_94]; simp only [stpI]; rw [if_pos (show retI (mH 147).2.2.1 s0 = true from retI_int)])
-- 148: X12_sum
theorem c148_0 : cd 148 0 = some (0, .aload_n 0, 1, []) := by decide +kernel
theorem x148_0 {d : Nat} {a1 a2 a3 a4 a5 : Value} {x : Nat} {h : AHp} : Rf d 148 0 [.ref x, a1, a2, a3, a4, a5] [] h = Rf d 148 1 [.ref x, a1, a2, a3, a4, a5] [.ref x] h := Rf_go ((stp_of c148_0).trans rfl)
theorem c148_1 : cd 148 1 = some (1, .getfield 9, 3, [(12, 0)]) := by decide +kernel
theorem x148_1 {d : Nat} {a0 a1 a2 a3 a4 a5 : Value} {s0 : Nat} {h : AHp} : Rf d 148 1 [a0, a1, a2, a3, a4, a5] [.ref s0] h = if cls (h.1 s0) = 12 ∧ oKr (h.1 s0) 0 = true then Rf d 148 4 [a0, a1, a2, a3, a4, a5] [.ref (oR (h.1 s0) 0)] h else Rx d 148 1 [a0, a1, a2, a3, a4, a5] [.ref s0] h := getR c148_1
theorem c148_4 : cd 148 4 = some (4, .iconst 1, 1, []) := by decide +kernel
theorem x148_4 {d : Nat} {a0 a1 a2 a3 a4 a5 : Value} {s0 : Nat} {h : AHp} : Rf d 148 4 [a0, a1, a2, a3, a4, a5] [.ref s0] h = Rf d 148 5 [a0, a1, a2, a3, a4, a5] [.int 1, .ref s0] h := Rf_go ((stp_of c148_4).trans rfl)
theorem c148_5 : cd 148 5 = some (5, .iaload, 1, []) := by decide +kernel
theorem x148_5 {d : Nat} {a0 a1 a2 a3 a4 a5 : Value} {s0 : Int32} {s1 : Nat} {h : AHp} : Rf d 148 5 [a0, a1, a2, a3, a4, a5] [.int s0, .ref s1] h = if (aT (h.1 s1) = 0 ∨ aT (h.1 s1) = 10) ∧ inB s0 (aN (h.1 s1)) = true then Rf d 148 6 [a0, a1, a2, a3, a4, a5] [.int (aF (h.1 s1) s0.toNatClampNeg)] h else Rx d 148 5 [a0, a1, a2, a3, a4, a5] [.int s0, .ref s1] h := ldI c148_5
theorem c148_6 : cd 148 6 = some (6, .ifCond .ne 5, 3, [(11, 0)]) := by decide +kernel
theorem x148_6 {d : Nat} {a0 a1 a2 a3 a4 a5 : Value} {s0 : Int32} {h : AHp} : Rf d 148 6 [a0, a1, a2, a3, a4, a5] [.int s0] h = if s0 = 0 then Rf d 148 9 [a0, a1, a2, a3, a4, a5] [] h else Rf d 148 11 [a0, a1, a2, a3, a4, a5] [] h := Rf_brn ((stp_of c148_6).trans rfl)
theorem c148_11 : cd 148 11 = some (11, .iconst 0, 1, []) := by decide +kernel
theorem x148_11 {d : Nat} {a0 a1 a2 a3 a4 a5 : Value} {h : AHp} : Rf d 148 11 [a0, a1, a2, a3, a4, a5] [] h = Rf d 148 12 [a0, a1, a2, a3, a4, a5] [.int 0] h := Rf_go ((stp_of c148_11).trans rfl)
theorem c148_12 : cd 148 12 = some (12, .istore_n 3, 1, []) := by decide +kernel
theorem x148_12 {d : Nat} {a0 a1 a2 a3 a4 a5 : Value} {s0 : Int32} {h : AHp} : Rf d 148 12 [a0, a1, a2, a3, a4, a5] [.int s0] h = Rf d 148 13 [a0, a1, a2, .int s0, a4, a5] [] h := Rf_go ((stp_of c148_12).trans rfl)
theorem c148_13 : cd 148 13 = some (13, .bipush 10, 2, []) := by decide +kernel
theorem x148_13 {d : Nat} {a0 a1 a2 a3 a4 a5 : Value} {h : AHp} : Rf d 148 13 [a0, a1, a2, a3, a4, a5] [] h = Rf d 148 15 [a0, a1, a2, a3, a4, a5] [.int 10] h := Rf_go ((stp_of c148_13).trans rfl)
theorem c148_15 : cd 148 15 = some (15, .aload_n 0, 1, []) := by decide +kernel
theorem x148_15 {d : Nat} {a1 a2 a3 a4 a5 : Value} {s0 : Int32} {x : Nat} {h : AHp} : Rf d 148 15 [.ref x, a1, a2, a3, a4, a5] [.int s0] h = Rf d 148 16 [.ref x, a1, a2, a3, a4, a5] [.ref x, .int s0] h := Rf_go ((stp_of c148_15).trans rfl)
theorem c148_16 : cd 148 16 = some (16, .getfield 9, 3, [(12, 0)]) := by decide +kernel
theorem x148_16 {d : Nat} {a0 a1 a2 a3 a4 a5 : Value} {s0 : Nat} {s1 : Int32} {h : AHp} : Rf d 148 16 [a0, a1, a2, a3, a4, a5] [.ref s0, .int s1] h = if cls (h.1 s0) = 12 ∧ oKr (h.1 s0) 0 = true then Rf d 148 19 [a0, a1, a2, a3, a4, a5] [.ref (oR (h.1 s0) 0), .int s1] h else Rx d 148 16 [a0, a1, a2, a3, a4, a5] [.ref s0, .int s1] h := getR c148_16
theorem c148_19 : cd 148 19 = some (19, .iconst 1, 1, []) := by decide +kernel
theorem x148_19 {d : Nat} {a0 a1 a2 a3 a4 a5 : Value} {s0 : Nat} {s1 : Int32} {h : AHp} : Rf d 148 19 [a0, a1, a2, a3, a4, a5] [.ref s0, .int s1] h = Rf d 148 20 [a0, a1, a2, a3, a4, a5] [.int 1, .ref s0, .int s1] h := Rf_go ((stp_of c148_19).trans rfl)
theorem c148_20 : cd 148 20 = some (20, .iaload, 1, []) := by decide +kernel
theorem x148_20 {d : Nat} {a0 a1 a2 a3 a4 a5 : Value} {s0 : Int32} {s1 : Nat} {s2 : Int32} {h : AHp} : Rf d 148 20 [a0, a1, a2, a3, a4, a5] [.int s0, .ref s1, .int s2] h = if (aT (h.1 s1) = 0 ∨ aT (h.1 s1) = 10) ∧ inB s0 (aN (h.1 s1)) = true then Rf d 148 21 [a0, a1, a2, a3, a4, a5] [.int (aF (h.1 s1) s0.toNatClampNeg), .int s2] h else Rx d 148 20 [a0, a1, a2, a3, a4, a5] [.int s0, .ref s1, .int s2] h := ldI c148_20
theorem c148_21 : cd 148 21 = some (21, .iconst 1, 1, []) := by decide +kernel
theorem x148_21 {d : Nat} {a0 a1 a2 a3 a4 a5 : Value} {s0 : Int32} {s1 : Int32} {h : AHp} : Rf d 148 21 [a0, a1, a2, a3, a4, a5] [.int s0, .int s1] h = Rf d 148 22 [a0, a1, a2, a3, a4, a5] [.int 1, .int s0, .int s1] h := Rf_go ((stp_of c148_21).trans rfl)
theorem c148_22 : cd 148 22 = some (22, .isub, 1, []) := by decide +kernel
theorem x148_22 {d : Nat} {a0 a1 a2 a3 a4 a5 : Value} {s0 : Int32} {s1 : Int32} {s2 : Int32} {h : AHp} : Rf d 148 22 [a0, a1, a2, a3, a4, a5] [.int s0, .int s1, .int s2] h = Rf d 148 23 [a0, a1, a2, a3, a4, a5] [.int (s1 - s0), .int s2] h := Rf_go ((stp_of c148_22).trans rfl)
theorem c148_23 : cd 148 23 = some (23, .imul, 1, []) := by decide +kernel
theorem x148_23 {d : Nat} {a0 a1 a2 a3 a4 a5 : Value} {s0 : Int32} {s1 : Int32} {h : AHp} : Rf d 148 23 [a0, a1, a2, a3, a4, a5] [.int s0, .int s1] h = Rf d 148 24 [a0, a1, a2, a3, a4, a5] [.int (s1 * s0)] h := Rf_go ((stp_of c148_23).trans rfl)
theorem c148_24 : cd 148 24 = some (24, .istore 4, 2, []) := by decide +kernel
theorem x148_24 {d : Nat} {a0 a1 a2 a3 a4 a5 : Value} {s0 : Int32} {h : AHp} : Rf d 148 24 [a0, a1, a2, a3, a4, a5] [.int s0] h = Rf d 148 26 [a0, a1, a2, a3, .int s0, a5] [] h := Rf_go ((stp_of c148_24).trans rfl)
theorem c148_26 : cd 148 26 = some (26, .iload 4, 2, []) := by decide +kernel
theorem x148_26 {d : Nat} {a0 a1 a2 a3 a5 : Value} {x : Int32} {h : AHp} : Rf d 148 26 [a0, a1, a2, a3, .int x, a5] [] h = Rf d 148 28 [a0, a1, a2, a3, .int x, a5] [.int x] h := Rf_go ((stp_of c148_26).trans rfl)
theorem c148_28 : cd 148 28 = some (28, .istore 5, 2, []) := by decide +kernel
theorem x148_28 {d : Nat} {a0 a1 a2 a3 a4 a5 : Value} {s0 : Int32} {h : AHp} : Rf d 148 28 [a0, a1, a2, a3, a4, a5] [.int s0] h = Rf d 148 30 [a0, a1, a2, a3, a4, .int s0] [] h := Rf_go ((stp_of c148_28).trans rfl)
theorem c148_30 : cd 148 30 = some (30, .iload 5, 2, []) := by decide +kernel
theorem x148_30 {d : Nat} {a0 a1 a2 a3 a4 : Value} {x : Int32} {h : AHp} : Rf d 148 30 [a0, a1, a2, a3, a4, .int x] [] h = Rf d 148 32 [a0, a1, a2, a3, a4, .int x] [.int x] h := Rf_go ((stp_of c148_30).trans rfl)
theorem c148_32 : cd 148 32 = some (32, .iload 4, 2, []) := by decide +kernel
theorem x148_32 {d : Nat} {a0 a1 a2 a3 a5 : Value} {s0 : Int32} {x : Int32} {h : AHp} : Rf d 148 32 [a0, a1, a2, a3, .int x, a5] [.int s0] h = Rf d 148 34 [a0, a1, a2, a3, .int x, a5] [.int x, .int s0] h := Rf_go ((stp_of c148_32).trans rfl)
theorem c148_34 : cd 148 34 = some (34, .aload_n 0, 1, []) := by decide +kernel
theorem x148_34 {d : Nat} {a1 a2 a3 a4 a5 : Value} {s0 : Int32} {s1 : Int32} {x : Nat} {h : AHp} : Rf d 148 34 [.ref x, a1, a2, a3, a4, a5] [.int s0, .int s1] h = Rf d 148 35 [.ref x, a1, a2, a3, a4, a5] [.ref x, .int s0, .int s1] h := Rf_go ((stp_of c148_34).trans rfl)
theorem c148_35 : cd 148 35 = some (35, .getfield 9, 3, [(12, 0)]) := by decide +kernel
theorem x148_35 {d : Nat} {a0 a1 a2 a3 a4 a5 : Value} {s0 : Nat} {s1 : Int32} {s2 : Int32} {h : AHp} : Rf d 148 35 [a0, a1, a2, a3, a4, a5] [.ref s0, .int s1, .int s2] h = if cls (h.1 s0) = 12 ∧ oKr (h.1 s0) 0 = true then Rf d 148 38 [a0, a1, a2, a3, a4, a5] [.ref (oR (h.1 s0) 0), .int s1, .int s2] h else Rx d 148 35 [a0, a1, a2, a3, a4, a5] [.ref s0, .int s1, .int s2] h := getR c148_35
theorem c148_38 : cd 148 38 = some (38, .sipush 226, 3, []) := by decide +kernel
theorem x148_38 {d : Nat} {a0 a1 a2 a3 a4 a5 : Value} {s0 : Nat} {s1 : Int32} {s2 : Int32} {h : AHp} : Rf d 148 38 [a0, a1, a2, a3, a4, a5] [.ref s0, .int s1, .int s2] h = Rf d 148 41 [a0, a1, a2, a3, a4, a5] [.int 226, .ref s0, .int s1, .int s2] h := Rf_go ((stp_of c148_38).trans rfl)
theorem c148_41 : cd 148 41 = some (41, .aload_n 0, 1, []) := by decide +kernel
theorem x148_41 {d : Nat} {a1 a2 a3 a4 a5 : Value} {s0 : Int32} {s1 : Nat} {s2 : Int32} {s3 : Int32} {x : Nat} {h : AHp} : Rf d 148 41 [.ref x, a1, a2, a3, a4, a5] [.int s0, .ref s1, .int s2, .int s3] h = Rf d 148 42 [.ref x, a1, a2, a3, a4, a5] [.ref x, .int s0, .ref s1, .int s2, .int s3] h := Rf_go ((stp_of c148_41).trans rfl)
theorem c148_42 : cd 148 42 = some (42, .getfield 9, 3, [(12, 0)]) := by decide +kernel
theorem x148_42 {d : Nat} {a0 a1 a2 a3 a4 a5 : Value} {s0 : Nat} {s1 : Int32} {s2 : Nat} {s3 : Int32} {s4 : Int32} {h : AHp} : Rf d 148 42 [a0, a1, a2, a3, a4, a5] [.ref s0, .int s1, .ref s2, .int s3, .int s4] h = if cls (h.1 s0) = 12 ∧ oKr (h.1 s0) 0 = true then Rf d 148 45 [a0, a1, a2, a3, a4, a5] [.ref (oR (h.1 s0) 0), .int s1, .ref s2, .int s3, .int s4] h else Rx d 148 42 [a0, a1, a2, a3, a4, a5] [.ref s0, .int s1, .ref s2, .int s3, .int s4] h := getR c148_42
theorem c148_45 : cd 148 45 = some (45, .iconst 1, 1, []) := by decide +kernel
theorem x148_45 {d : Nat} {a0 a1 a2 a3 a4 a5 : Value} {s0 : Nat} {s1 : Int32} {s2 : Nat} {s3 : Int32} {s4 : Int32} {h : AHp} : Rf d 148 45 [a0, a1, a2, a3, a4, a5] [.ref s0, .int s1, .ref s2, .int s3, .int s4] h = Rf d 148 46 [a0, a1, a2, a3, a4, a5] [.int 1, .ref s0, .int s1, .ref s2, .int s3, .int s4] h := Rf_go ((stp_of c148_45).trans rfl)
theorem c148_46 : cd 148 46 = some (46, .iaload, 1, []) := by decide +kernel
theorem x148_46 {d : Nat} {a0 a1 a2 a3 a4 a5 : Value} {s0 : Int32} {s1 : Nat} {s2 : Int32} {s3 : Nat} {s4 : Int32} {s5 : Int32} {h : AHp} : Rf d 148 46 [a0, a1, a2, a3, a4, a5] [.int s0, .ref s1, .int s2, .ref s3, .int s4, .int s5] h = if (aT (h.1 s1) = 0 ∨ aT (h.1 s1) = 10) ∧ inB s0 (aN (h.1 s1)) = true then Rf d 148 47 [a0, a1, a2, a3, a4, a5] [.int (aF (h.1 s1) s0.toNatClampNeg), .int s2, .ref s3, .int s4, .int s5] h else Rx d 148 46 [a0, a1, a2, a3, a4, a5] [.int s0, .ref s1, .int s2, .ref s3, .int s4, .int s5] h := ldI c148_46
theorem c148_47 : cd 148 47 = some (47, .iadd, 1, []) := by decide +kernel
theorem x148_47 {d : Nat} {a0 a1 a2 a3 a4 a5 : Value} {s0 : Int32} {s1 : Int32} {s2 : Nat} {s3 : Int32} {s4 : Int32} {h : AHp} : Rf d 148 47 [a0, a1, a2, a3, a4, a5] [.int s0, .int s1, .ref s2, .int s3, .int s4] h = Rf d 148 48 [a0, a1, a2, a3, a4, a5] [.int (s1 + s0), .ref s2, .int s3, .int s4] h := Rf_go ((stp_of c148_47).trans rfl)
theorem c148_48 : cd 148 48 = some (48, .iconst 1, 1, []) := by decide +kernel
theorem x148_48 {d : Nat} {a0 a1 a2 a3 a4 a5 : Value} {s0 : Int32} {s1 : Nat} {s2 : Int32} {s3 : Int32} {h : AHp} : Rf d 148 48 [a0, a1, a2, a3, a4, a5] [.int s0, .ref s1, .int s2, .int s3] h = Rf d 148 49 [a0, a1, a2, a3, a4, a5] [.int 1, .int s0, .ref s1, .int s2, .int s3] h := Rf_go ((stp_of c148_48).trans rfl)
theorem c148_49 : cd 148 49 = some (49, .isub, 1, []) := by decide +kernel
theorem x148_49 {d : Nat} {a0 a1 a2 a3 a4 a5 : Value} {s0 : Int32} {s1 : Int32} {s2 : Nat} {s3 : Int32} {s4 : Int32} {h : AHp} : Rf d 148 49 [a0, a1, a2, a3, a4, a5] [.int s0, .int s1, .ref s2, .int s3, .int s4] h = Rf d 148 50 [a0, a1, a2, a3, a4, a5] [.int (s1 - s0), .ref s2, .int s3, .int s4] h := Rf_go ((stp_of c148_49).trans rfl)
theorem c148_50 : cd 148 50 = some (50, .iaload, 1, []) := by decide +kernel
theorem x148_50 {d : Nat} {a0 a1 a2 a3 a4 a5 : Value} {s0 : Int32} {s1 : Nat} {s2 : Int32} {s3 : Int32} {h : AHp} : Rf d 148 50 [a0, a1, a2, a3, a4, a5] [.int s0, .ref s1, .int s2, .int s3] h = if (aT (h.1 s1) = 0 ∨ aT (h.1 s1) = 10) ∧ inB s0 (aN (h.1 s1)) = true then Rf d 148 51 [a0, a1, a2, a3, a4, a5] [.int (aF (h.1 s1) s0.toNatClampNeg), .int s2, .int s3] h else Rx d 148 50 [a0, a1, a2, a3, a4, a5] [.int s0, .ref s1, .int s2, .int s3] h := ldI c148_50
theorem c148_51 : cd 148 51 = some (51, .iadd, 1, []) := by decide +kernel
theorem x148_51 {d : Nat} {a0 a1 a2 a3 a4 a5 : Value} {s0 : Int32} {s1 : Int32} {s2 : Int32} {h : AHp} : Rf d 148 51 [a0, a1, a2, a3, a4, a5] [.int s0, .int s1, .int s2] h = Rf d 148 52 [a0, a1, a2, a3, a4, a5] [.int (s1 + s0), .int s2] h := Rf_go ((stp_of c148_51).trans rfl)
theorem c148_52 : cd 148 52 = some (52, .if_icmp .ge 48, 3, [(100, 0)]) := by decide +kernel
theorem x148_52 {d : Nat} {a0 a1 a2 a3 a4 a5 : Value} {s0 : Int32} {s1 : Int32} {h : AHp} : Rf d 148 52 [a0, a1, a2, a3, a4, a5] [.int s0, .int s1] h = if s1 < s0 then Rf d 148 55 [a0, a1, a2, a3, a4, a5] [] h else Rf d 148 100 [a0, a1, a2, a3, a4, a5] [] h := Rf_brn ((stp_of c148_52).trans rfl)
theorem c148_100 : cd 148 100 = some (100, .iload_n 3, 1, []) := by decide +kernel
theorem x148_100 {d : Nat} {a0 a1 a2 a4 a5 : Value} {x : Int32} {h : AHp} : Rf d 148 100 [a0, a1, a2, .int x, a4, a5] [] h = Rf d 148 101 [a0, a1, a2, .int x, a4, a5] [.int x] h := Rf_go ((stp_of c148_100).trans rfl)
theorem c148_101 : cd 148 101 = some (101, .ireturn, 1, []) := by decide +kernel
theorem x148_101 {d : Nat} {a0 a1 a2 a3 a4 a5 : Value} {s0 : Int32} {h : AHp} : Rf d 148 101 [a0, a1, a2, a3, a4, a5] [.int s0] h = some (some (.int s0), h) := Rf_end (by rw [stp_of c148_101]; simp only [stpI]; rw [if_pos (show retI (mH 148).2.2.1 s0 = true from retI_int)])
theorem c148_55 : cd 148 55 = some (55, .aload_n 0, 1, []) := by decide +kernel
theorem x148_55 {d : Nat} {a1 a2 a3 a4 a5 : Value} {x : Nat} {h : AHp} : Rf d 148 55 [.ref x, a1, a2, a3, a4, a5] [] h = Rf d 148 56 [.ref x, a1, a2, a3, a4, a5] [.ref x] h := Rf_go ((stp_of c148_55).trans rfl)
theorem c148_56 : cd 148 56 = some (56, .getfield 9, 3, [(12, 0)]) := by decide +kernel
theorem x148_56 {d : Nat} {a0 a1 a2 a3 a4 a5 : Value} {s0 : Nat} {h : AHp} : Rf d 148 56 [a0, a1, a2, a3, a4, a5] [.ref s0] h = if cls (h.1 s0) = 12 ∧ oKr (h.1 s0) 0 = true then Rf d 148 59 [a0, a1, a2, a3, a4, a5] [.ref (oR (h.1 s0) 0)] h else Rx d 148 56 [a0, a1, a2, a3, a4, a5] [.ref s0] h := getR c148_56
theorem c148_59 : cd 148 59 = some (59, .sipush 231, 3, []) := by decide +kernel
theorem x148_59 {d : Nat} {a0 a1 a2 a3 a4 a5 : Value} {s0 : Nat} {h : AHp} : Rf d 148 59 [a0, a1, a2, a3, a4, a5] [.ref s0] h = Rf d 148 62 [a0, a1, a2, a3, a4, a5] [.int 231, .ref s0] h := Rf_go ((stp_of c148_59).trans rfl)
theorem c148_62 : cd 148 62 = some (62, .iload 5, 2, []) := by decide +kernel
theorem x148_62 {d : Nat} {a0 a1 a2 a3 a4 : Value} {s0 : Int32} {s1 : Nat} {x : Int32} {h : AHp} : Rf d 148 62 [a0, a1, a2, a3, a4, .int x] [.int s0, .ref s1] h = Rf d 148 64 [a0, a1, a2, a3, a4, .int x] [.int x, .int s0, .ref s1] h := Rf_go ((stp_of c148_62).trans rfl)
theorem c148_64 : cd 148 64 = some (64, .iadd, 1, []) := by decide +kernel
theorem x148_64 {d : Nat} {a0 a1 a2 a3 a4 a5 : Value} {s0 : Int32} {s1 : Int32} {s2 : Nat} {h : AHp} : Rf d 148 64 [a0, a1, a2, a3, a4, a5] [.int s0, .int s1, .ref s2] h = Rf d 148 65 [a0, a1, a2, a3, a4, a5] [.int (s1 + s0), .ref s2] h := Rf_go ((stp_of c148_64).trans rfl)
theorem c148_65 : cd 148 65 = some (65, .iaload, 1, []) := by decide +kernel
theorem x148_65 {d : Nat} {a0 a1 a2 a3 a4 a5 : Value} {s0 : Int32} {s1 : Nat} {h : AHp} : Rf d 148 65 [a0, a1, a2, a3, a4, a5] [.int s0, .ref s1] h = if (aT (h.1 s1) = 0 ∨ aT (h.1 s1) = 10) ∧ inB s0 (aN (h.1 s1)) = true then Rf d 148 66 [a0, a1, a2, a3, a4, a5] [.int (aF (h.1 s1) s0.toNatClampNeg)] h else Rx d 148 65 [a0, a1, a2, a3, a4, a5] [.int s0, .ref s1] h := ldI c148_65
theorem c148_66 : cd 148 66 = some (66, .iload_n 1, 1, []) := by decide +kernel
theorem x148_66 {d : Nat} {a0 a2 a3 a4 a5 : Value} {s0 : Int32} {x : Int32} {h : AHp} : Rf d 148 66 [a0, .int x, a2, a3, a4, a5] [.int s0] h = Rf d 148 67 [a0, .int x, a2, a3, a4, a5] [.int x, .int s0] h := Rf_go ((stp_of c148_66).trans rfl)
theorem c148_67 : cd 148 67 = some (67, .if_icmp .ne 27, 3, [(94, 0)]) := by decide +kernel
theorem x148_67 {d : Nat} {a0 a1 a2 a3 a4 a5 : Value} {s0 : Int32} {s1 : Int32} {h : AHp} : Rf d 148 67 [a0, a1, a2, a3, a4, a5] [.int s0, .int s1] h = if s1 = s0 then Rf d 148 70 [a0, a1, a2, a3, a4, a5] [] h else Rf d 148 94 [a0, a1, a2, a3, a4, a5] [] h := Rf_brn ((stp_of c148_67).trans rfl)
theorem c148_94 : cd 148 94 = some (94, .iinc 5 1, 3, []) := by decide +kernel
theorem x148_94 {d : Nat} {a0 a1 a2 a3 a4 : Value} {x : Int32} {h : AHp} : Rf d 148 94 [a0, a1, a2, a3, a4, .int x] [] h = Rf d 148 97 [a0, a1, a2, a3, a4, .int (x + 1)] [] h := Rf_go ((stp_of c148_94).trans rfl)
theorem c148_97 : cd 148 97 = some (97, .goto (-67), 3, [(30, 0)]) := by decide +kernel
theorem x148_97 {d : Nat} {a0 a1 a2 a3 a4 a5 : Value} {h : AHp} : Rf d 148 97 [a0, a1, a2, a3, a4, a5] [] h = Rf d 148 30 [a0, a1, a2, a3, a4, a5] [] h := Rf_go ((stp_of c148_97).trans rfl)
theorem c148_70 : cd 148 70 = some (70, .aload_n 0, 1, []) := by decide +kernel
theorem x148_70 {d : Nat} {a1 a2 a3 a4 a5 : Value} {x : Nat} {h : AHp} : Rf d 148 70 [.ref x, a1, a2, a3, a4, a5] [] h = Rf d 148 71 [.ref x, a1, a2, a3, a4, a5] [.ref x] h := Rf_go ((stp_of c148_70).trans rfl)
theorem c148_71 : cd 148 71 = some (71, .iload 5, 2, []) := by decide +kernel
theorem x148_71 {d : Nat} {a0 a1 a2 a3 a4 : Value} {s0 : Nat} {x : Int32} {h : AHp} : Rf d 148 71 [a0, a1, a2, a3, a4, .int x] [.ref s0] h = Rf d 148 73 [a0, a1, a2, a3, a4, .int x] [.int x, .ref s0] h := Rf_go ((stp_of c148_71).trans rfl)
theorem c148_73 : cd 148 73 = some (73, .iload_n 2, 1, []) := by decide +kernel
theorem x148_73 {d : Nat} {a0 a1 a3 a4 a5 : Value} {s0 : Int32} {s1 : Nat} {x : Int32} {h : AHp} : Rf d 148 73 [a0, a1, .int x, a3, a4, a5] [.int s0, .ref s1] h = Rf d 148 74 [a0, a1, .int x, a3, a4, a5] [.int x, .int s0, .ref s1] h := Rf_go ((stp_of c148_73).trans rfl)
theorem c148_74 : cd 148 74 = some (74, .invokevirtual 106, 3, [(12, 146)]) := by decide +kernel
theorem xc148_74 {d : Nat} {a0 a1 a2 a3 a4 a5 : Value} {s0 : Int32} {s1 : Int32} {s2 : Nat} {h : AHp} {h1 : AHp} {v : Int32} (hr : cls (h.1 s2) = 12) (hq : Rf d 146 0 [.ref s2, .int s1, .int s0, noV, noV, noV, noV, noV, noV, noV] [] h = some (some (.int v), h1)) : Rf (d + 1) 148 74 [a0, a1, a2, a3, a4, a5] [.int s0, .int s1, .ref s2] h = Rf (d + 1) 148 77 [a0, a1, a2, a3, a4, a5] [.int v] h1 := clV (c := 146) (as := [.int s1, .int s0]) c148_74 rfl (by simp [isV]) (by rw [hr]; rfl) hq
theorem c148_77 : cd 148 77 = some (77, .ifCond .eq 17, 3, [(94, 0)]) := by decide +kernel
theorem x148_77 {d : Nat} {a0 a1 a2 a3 a4 a5 : Value} {s0 : Int32} {h : AHp} : Rf d 148 77 [a0, a1, a2, a3, a4, a5] [.int s0] h = if s0 = 0 then Rf d 148 94 [a0, a1, a2, a3, a4, a5] [] h else Rf d 148 80 [a0, a1, a2, a3, a4, a5] [] h := Rf_brd ((stp_of c148_77).trans rfl)
theorem c148_80 : cd 148 80 = some (80, .iload_n 3, 1, []) := by decide +kernel
theorem x148_80 {d : Nat} {a0 a1 a2 a4 a5 : Value} {x : Int32} {h : AHp} : Rf d 148 80 [a0, a1, a2, .int x, a4, a5] [] h = Rf d 148 81 [a0, a1, a2, .int x, a4, a5] [.int x] h := Rf_go ((stp_of c148_80).trans rfl)
theorem c148_81 : cd 148 81 = some (81, .aload_n 0, 1, []) := by decide +kernel
theorem x148_81 {d : Nat} {a1 a2 a3 a4 a5 : Value} {s0 : Int32} {x : Nat} {h : AHp} : Rf d 148 81 [.ref x, a1, a2, a3, a4, a5] [.int s0] h = Rf d 148 82 [.ref x, a1, a2, a3, a4, a5] [.ref x, .int s0] h := Rf_go ((stp_of c148_81).trans rfl)
theorem c148_82 : cd 148 82 = some (82, .getfield 9, 3, [(12, 0)]) := by decide +kernel
theorem x148_82 {d : Nat} {a0 a1 a2 a3 a4 a5 : Value} {s0 : Nat} {s1 : Int32} {h : AHp} : Rf d 148 82 [a0, a1, a2, a3, a4, a5] [.ref s0, .int s1] h = if cls (h.1 s0) = 12 ∧ oKr (h.1 s0) 0 = true then Rf d 148 85 [a0, a1, a2, a3, a4, a5] [.ref (oR (h.1 s0) 0), .int s1] h else Rx d 148 82 [a0, a1, a2, a3, a4, a5] [.ref s0, .int s1] h := getR c148_82
theorem c148_85 : cd 148 85 = some (85, .sipush 281, 3, []) := by decide +kernel
theorem x148_85 {d : Nat} {a0 a1 a2 a3 a4 a5 : Value} {s0 : Nat} {s1 : Int32} {h : AHp} : Rf d 148 85 [a0, a1, a2, a3, a4, a5] [.ref s0, .int s1] h = Rf d 148 88 [a0, a1, a2, a3, a4, a5] [.int 281, .ref s0, .int s1] h := Rf_go ((stp_of c148_85).trans rfl)
theorem c148_88 : cd 148 88 = some (88, .iload 5, 2, []) := by decide +kernel
theorem x148_88 {d : Nat} {a0 a1 a2 a3 a4 : Value} {s0 : Int32} {s1 : Nat} {s2 : Int32} {x : Int32} {h : AHp} : Rf d 148 88 [a0, a1, a2, a3, a4, .int x] [.int s0, .ref s1, .int s2] h = Rf d 148 90 [a0, a1, a2, a3, a4, .int x] [.int x, .int s0, .ref s1, .int s2] h := Rf_go ((stp_of c148_88).trans rfl)
theorem c148_90 : cd 148 90 = some (90, .iadd, 1, []) := by decide +kernel
theorem x148_90 {d : Nat} {a0 a1 a2 a3 a4 a5 : Value} {s0 : Int32} {s1 : Int32} {s2 : Nat} {s3 : Int32} {h : AHp} : Rf d 148 90 [a0, a1, a2, a3, a4, a5] [.int s0, .int s1, .ref s2, .int s3] h = Rf d 148 91 [a0, a1, a2, a3, a4, a5] [.int (s1 + s0), .ref s2, .int s3] h := Rf_go ((stp_of c148_90).trans rfl)
theorem c148_91 : cd 148 91 = some (91, .iaload, 1, []) := by decide +kernel
theorem x148_91 {d : Nat} {a0 a1 a2 a3 a4 a5 : Value} {s0 : Int32} {s1 : Nat} {s2 : Int32} {h : AHp} : Rf d 148 91 [a0, a1, a2, a3, a4, a5] [.int s0, .ref s1, .int s2] h = if (aT (h.1 s1) = 0 ∨ aT (h.1 s1) = 10) ∧ inB s0 (aN (h.1 s1)) = true then Rf d 148 92 [a0, a1, a2, a3, a4, a5] [.int (aF (h.1 s1) s0.toNatClampNeg), .int s2] h else Rx d 148 91 [a0, a1, a2, a3, a4, a5] [.int s0, .ref s1, .int s2] h := ldI c148_91
theorem c148_92 : cd 148 92 = some (92, .iadd, 1, []) := by decide +kernel
theorem x148_92 {d : Nat} {a0 a1 a2 a3 a4 a5 : Value} {s0 : Int32} {s1 : Int32} {h : AHp} : Rf d 148 92 [a0, a1, a2, a3, a4, a5] [.int s0, .int s1] h = Rf d 148 93 [a0, a1, a2, a3, a4, a5] [.int (s1 + s0)] h := Rf_go ((stp_of c148_92).trans rfl)
theorem c148_93 : cd 148 93 = some (93, .istore_n 3, 1, []) := by decide +kernel
theorem x148_93 {d : Nat} {a0 a1 a2 a3 a4 a5 : Value} {s0 : Int32} {h : AHp} : Rf d 148 93 [a0, a1, a2, a3, a4, a5] [.int s0] h = Rf d 148 94 [a0, a1, a2, .int s0, a4, a5] [] h := Rf_go ((stp_of c148_93).trans rfl)
theorem c148_9 : cd 148 9 = some (9, .iconst 0, 1, []) := by decide +kernel
theorem x148_9 {d : Nat} {a0 a1 a2 a3 a4 a5 : Value} {h : AHp} : Rf d 148 9 [a0, a1, a2, a3, a4, a5] [] h = Rf d 148 10 [a0, a1, a2, a3, a4, a5] [.int 0] h := Rf_go ((stp_of c148_9).trans rfl)
theorem c148_10 : cd 148 10 = some (10, .ireturn, 1, []) := by decide +kernel
theorem x148_10 {d : Nat} {a0 a1 a2 a3 a4 a5 : Value} {s0 : Int32} {h : AHp} : Rf d 148 10 [a0, a1, a2, a3, a4, a5] [.int s0] h = some (some (.int s0), h) := Rf_end (by rw [stp_of c148_10]; simp only [stpI]; rw [if_pos (show retI (mH 148).2.2.1 s0 = true from retI_int)])
-- 149: X12_last
theorem c149_0 : cd 149 0 = some (0, .aload_n 0, 1, []) := by decide +kernel
theorem x149_0 {d : Nat} {a1 a2 a3 a4 a5 : Value} {x : Nat} {h : AHp} : Rf d 149 0 [.ref x, a1, a2, a3, a4, a5] [] h = Rf d 149 1 [.ref x, a1, a2, a3, a4, a5] [.ref x] h := Rf_go ((stp_of c149_0).trans rfl)
theorem c149_1 : cd 149 1 = some (1, .getfield 9, 3, [(12, 0)]) := by decide +kernel
theorem x149_1 {d : Nat} {a0 a1 a2 a3 a4 a5 : Value} {s0 : Nat} {h : AHp} : Rf d 149 1 [a0, a1, a2, a3, a4, a5] [.ref s0] h = if cls (h.1 s0) = 12 ∧ oKr (h.1 s0) 0 = true then Rf d 149 4 [a0, a1, a2, a3, a4, a5] [.ref (oR (h.1 s0) 0)] h else Rx d 149 1 [a0, a1, a2, a3, a4, a5] [.ref s0] h := getR c149_1
theorem c149_4 : cd 149 4 = some (4, .iconst 1, 1, []) := by decide +kernel
theorem x149_4 {d : Nat} {a0 a1 a2 a3 a4 a5 : Value} {s0 : Nat} {h : AHp} : Rf d 149 4 [a0, a1, a2, a3, a4, a5] [.ref s0] h = Rf d 149 5 [a0, a1, a2, a3, a4, a5] [.int 1, .ref s0] h := Rf_go ((stp_of c149_4).trans rfl)
theorem c149_5 : cd 149 5 = some (5, .iaload, 1, []) := by decide +kernel
theorem x149_5 {d : Nat} {a0 a1 a2 a3 a4 a5 : Value} {s0 : Int32} {s1 : Nat} {h : AHp} : Rf d 149 5 [a0, a1, a2, a3, a4, a5] [.int s0, .ref s1] h = if (aT (h.1 s1) = 0 ∨ aT (h.1 s1) = 10) ∧ inB s0 (aN (h.1 s1)) = true then Rf d 149 6 [a0, a1, a2, a3, a4, a5] [.int (aF (h.1 s1) s0.toNatClampNeg)] h else Rx d 149 5 [a0, a1, a2, a3, a4, a5] [.int s0, .ref s1] h := ldI c149_5
theorem c149_6 : cd 149 6 = some (6, .ifCond .ne 5, 3, [(11, 0)]) := by decide +kernel
theorem x149_6 {d : Nat} {a0 a1 a2 a3 a4 a5 : Value} {s0 : Int32} {h : AHp} : Rf d 149 6 [a0, a1, a2, a3, a4, a5] [.int s0] h = if s0 = 0 then Rf d 149 9 [a0, a1, a2, a3, a4, a5] [] h else Rf d 149 11 [a0, a1, a2, a3, a4, a5] [] h := Rf_brn ((stp_of c149_6).trans rfl)
theorem c149_11 : cd 149 11 = some (11, .iload_n 2, 1, []) := by decide +kernel
theorem x149_11 {d : Nat} {a0 a1 a3 a4 a5 : Value} {x : Int32} {h : AHp} : Rf d 149 11 [a0, a1, .int x, a3, a4, a5] [] h = Rf d 149 12 [a0, a1, .int x, a3, a4, a5] [.int x] h := Rf_go ((stp_of c149_11).trans rfl)
theorem c149_12 : cd 149 12 = some (12, .istore_n 3, 1, []) := by decide +kernel
theorem x149_12 {d : Nat} {a0 a1 a2 a3 a4 a5 : Value} {s0 : Int32} {h : AHp} : Rf d 149 12 [a0, a1, a2, a3, a4, a5] [.int s0] h = Rf d 149 13 [a0, a1, a2, .int s0, a4, a5] [] h := Rf_go ((stp_of c149_12).trans rfl)
theorem c149_13 : cd 149 13 = some (13, .bipush 10, 2, []) := by decide +kernel
theorem x149_13 {d : Nat} {a0 a1 a2 a3 a4 a5 : Value} {h : AHp} : Rf d 149 13 [a0, a1, a2, a3, a4, a5] [] h = Rf d 149 15 [a0, a1, a2, a3, a4, a5] [.int 10] h := Rf_go ((stp_of c149_13).trans rfl)
theorem c149_15 : cd 149 15 = some (15, .aload_n 0, 1, []) := by decide +kernel
theorem x149_15 {d : Nat} {a1 a2 a3 a4 a5 : Value} {s0 : Int32} {x : Nat} {h : AHp} : Rf d 149 15 [.ref x, a1, a2, a3, a4, a5] [.int s0] h = Rf d 149 16 [.ref x, a1, a2, a3, a4, a5] [.ref x, .int s0] h := Rf_go ((stp_of c149_15).trans rfl)
theorem c149_16 : cd 149 16 = some (16, .getfield 9, 3, [(12, 0)]) := by decide +kernel
theorem x149_16 {d : Nat} {a0 a1 a2 a3 a4 a5 : Value} {s0 : Nat} {s1 : Int32} {h : AHp} : Rf d 149 16 [a0, a1, a2, a3, a4, a5] [.ref s0, .int s1] h = if cls (h.1 s0) = 12 ∧ oKr (h.1 s0) 0 = true then Rf d 149 19 [a0, a1, a2, a3, a4, a5] [.ref (oR (h.1 s0) 0), .int s1] h else Rx d 149 16 [a0, a1, a2, a3, a4, a5] [.ref s0, .int s1] h := getR c149_16
theorem c149_19 : cd 149 19 = some (19, .iconst 1, 1, []) := by decide +kernel
theorem x149_19 {d : Nat} {a0 a1 a2 a3 a4 a5 : Value} {s0 : Nat} {s1 : Int32} {h : AHp} : Rf d 149 19 [a0, a1, a2, a3, a4, a5] [.ref s0, .int s1] h = Rf d 149 20 [a0, a1, a2, a3, a4, a5] [.int 1, .ref s0, .int s1] h := Rf_go ((stp_of c149_19).trans rfl)
theorem c149_20 : cd 149 20 = some (20, .iaload, 1, []) := by decide +kernel
theorem x149_20 {d : Nat} {a0 a1 a2 a3 a4 a5 : Value} {s0 : Int32} {s1 : Nat} {s2 : Int32} {h : AHp} : Rf d 149 20 [a0, a1, a2, a3, a4, a5] [.int s0, .ref s1, .int s2] h = if (aT (h.1 s1) = 0 ∨ aT (h.1 s1) = 10) ∧ inB s0 (aN (h.1 s1)) = true then Rf d 149 21 [a0, a1, a2, a3, a4, a5] [.int (aF (h.1 s1) s0.toNatClampNeg), .int s2] h else Rx d 149 20 [a0, a1, a2, a3, a4, a5] [.int s0, .ref s1, .int s2] h := ldI c149_20
theorem c149_21 : cd 149 21 = some (21, .iconst 1, 1, []) := by decide +kernel
theorem x149_21 {d : Nat} {a0 a1 a2 a3 a4 a5 : Value} {s0 : Int32} {s1 : Int32} {h : AHp} : Rf d 149 21 [a0, a1, a2, a3, a4, a5] [.int s0, .int s1] h = Rf d 149 22 [a0, a1, a2, a3, a4, a5] [.int 1, .int s0, .int s1] h := Rf_go ((stp_of c149_21).trans rfl)
theorem c149_22 : cd 149 22 = some (22, .isub, 1, []) := by decide +kernel
theorem x149_22 {d : Nat} {a0 a1 a2 a3 a4 a5 : Value} {s0 : Int32} {s1 : Int32} {s2 : Int32} {h : AHp} : Rf d 149 22 [a0, a1, a2, a3, a4, a5] [.int s0, .int s1, .int s2] h = Rf d 149 23 [a0, a1, a2, a3, a4, a5] [.int (s1 - s0), .int s2] h := Rf_go ((stp_of c149_22).trans rfl)
theorem c149_23 : cd 149 23 = some (23, .imul, 1, []) := by decide +kernel
theorem x149_23 {d : Nat} {a0 a1 a2 a3 a4 a5 : Value} {s0 : Int32} {s1 : Int32} {h : AHp} : Rf d 149 23 [a0, a1, a2, a3, a4, a5] [.int s0, .int s1] h = Rf d 149 24 [a0, a1, a2, a3, a4, a5] [.int (s1 * s0)] h := Rf_go ((stp_of c149_23).trans rfl)
theorem c149_24 : cd 149 24 = some (24, .istore 4, 2, []) := by decide +kernel
theorem x149_24 {d : Nat} {a0 a1 a2 a3 a4 a5 : Value} {s0 : Int32} {h : AHp} : Rf d 149 24 [a0, a1, a2, a3, a4, a5] [.int s0] h = Rf d 149 26 [a0, a1, a2, a3, .int s0, a5] [] h := Rf_go ((stp_of c149_24).trans rfl)
theorem c149_26 : cd 149 26 = some (26, .iload 4, 2, []) := by decide +kernel
theorem x149_26 {d : Nat} {a0 a1 a2 a3 a5 : Value} {x : Int32} {h : AHp} : Rf d 149 26 [a0, a1, a2, a3, .int x, a5] [] h = Rf d 149 28 [a0, a1, a2, a3, .int x, a5] [.int x] h := Rf_go ((stp_of c149_26).trans rfl)
theorem c149_28 : cd 149 28 = some (28, .istore 5, 2, []) := by decide +kernel
theorem x149_28 {d : Nat} {a0 a1 a2 a3 a4 a5 : Value} {s0 : Int32} {h : AHp} : Rf d 149 28 [a0, a1, a2, a3, a4, a5] [.int s0] h = Rf d 149 30 [a0, a1, a2, a3, a4, .int s0] [] h := Rf_go ((stp_of c149_28).trans rfl)
theorem c149_30 : cd 149 30 = some (30, .iload 5, 2, []) := by decide +kernel
theorem x149_30 {d : Nat} {a0 a1 a2 a3 a4 : Value} {x : Int32} {h : AHp} : Rf d 149 30 [a0, a1, a2, a3, a4, .int x] [] h = Rf d 149 32 [a0, a1, a2, a3, a4, .int x] [.int x] h := Rf_go ((stp_of c149_30).trans rfl)
theorem c149_32 : cd 149 32 = some (32, .iload 4, 2, []) := by decide +kernel
theorem x149_32 {d : Nat} {a0 a1 a2 a3 a5 : Value} {s0 : Int32} {x : Int32} {h : AHp} : Rf d 149 32 [a0, a1, a2, a3, .int x, a5] [.int s0] h = Rf d 149 34 [a0, a1, a2, a3, .int x, a5] [.int x, .int s0] h := Rf_go ((stp_of c149_32).trans rfl)
theorem c149_34 : cd 149 34 = some (34, .aload_n 0, 1, []) := by decide +kernel
theorem x149_34 {d : Nat} {a1 a2 a3 a4 a5 : Value} {s0 : Int32} {s1 : Int32} {x : Nat} {h : AHp} : Rf d 149 34 [.ref x, a1, a2, a3, a4, a5] [.int s0, .int s1] h = Rf d 149 35 [.ref x, a1, a2, a3, a4, a5] [.ref x, .int s0, .int s1] h := Rf_go ((stp_of c149_34).trans rfl)
theorem c149_35 : cd 149 35 = some (35, .getfield 9, 3, [(12, 0)]) := by decide +kernel
theorem x149_35 {d : Nat} {a0 a1 a2 a3 a4 a5 : Value} {s0 : Nat} {s1 : Int32} {s2 : Int32} {h : AHp} : Rf d 149 35 [a0, a1, a2, a3, a4, a5] [.ref s0, .int s1, .int s2] h = if cls (h.1 s0) = 12 ∧ oKr (h.1 s0) 0 = true then Rf d 149 38 [a0, a1, a2, a3, a4, a5] [.ref (oR (h.1 s0) 0), .int s1, .int s2] h else Rx d 149 35 [a0, a1, a2, a3, a4, a5] [.ref s0, .int s1, .int s2] h := getR c149_35
theorem c149_38 : cd 149 38 = some (38, .sipush 226, 3, []) := by decide +kernel
theorem x149_38 {d : Nat} {a0 a1 a2 a3 a4 a5 : Value} {s0 : Nat} {s1 : Int32} {s2 : Int32} {h : AHp} : Rf d 149 38 [a0, a1, a2, a3, a4, a5] [.ref s0, .int s1, .int s2] h = Rf d 149 41 [a0, a1, a2, a3, a4, a5] [.int 226, .ref s0, .int s1, .int s2] h := Rf_go ((stp_of c149_38).trans rfl)
theorem c149_41 : cd 149 41 = some (41, .aload_n 0, 1, []) := by decide +kernel
theorem x149_41 {d : Nat} {a1 a2 a3 a4 a5 : Value} {s0 : Int32} {s1 : Nat} {s2 : Int32} {s3 : Int32} {x : Nat} {h : AHp} : Rf d 149 41 [.ref x, a1, a2, a3, a4, a5] [.int s0, .ref s1, .int s2, .int s3] h = Rf d 149 42 [.ref x, a1, a2, a3, a4, a5] [.ref x, .int s0, .ref s1, .int s2, .int s3] h := Rf_go ((stp_of c149_41).trans rfl)
theorem c149_42 : cd 149 42 = some (42, .getfield 9, 3, [(12, 0)]) := by decide +kernel
theorem x149_42 {d : Nat} {a0 a1 a2 a3 a4 a5 : Value} {s0 : Nat} {s1 : Int32} {s2 : Nat} {s3 : Int32} {s4 : Int32} {h : AHp} : Rf d 149 42 [a0, a1, a2, a3, a4, a5] [.ref s0, .int s1, .ref s2, .int s3, .int s4] h = if cls (h.1 s0) = 12 ∧ oKr (h.1 s0) 0 = true then Rf d 149 45 [a0, a1, a2, a3, a4, a5] [.ref (oR (h.1 s0) 0), .int s1, .ref s2, .int s3, .int s4] h else Rx d 149 42 [a0, a1, a2, a3, a4, a5] [.ref s0, .int s1, .ref s2, .int s3, .int s4] h := getR c149_42
theorem c149_45 : cd 149 45 = some (45, .iconst 1, 1, []) := by decide +kernel
theorem x149_45 {d : Nat} {a0 a1 a2 a3 a4 a5 : Value} {s0 : Nat} {s1 : Int32} {s2 : Nat} {s3 : Int32} {s4 : Int32} {h : AHp} : Rf d 149 45 [a0, a1, a2, a3, a4, a5] [.ref s0, .int s1, .ref s2, .int s3, .int s4] h = Rf d 149 46 [a0, a1, a2, a3, a4, a5] [.int 1, .ref s0, .int s1, .ref s2, .int s3, .int s4] h := Rf_go ((stp_of c149_45).trans rfl)
theorem c149_46 : cd 149 46 = some (46, .iaload, 1, []) := by decide +kernel
theorem x149_46 {d : Nat} {a0 a1 a2 a3 a4 a5 : Value} {s0 : Int32} {s1 : Nat} {s2 : Int32} {s3 : Nat} {s4 : Int32} {s5 : Int32} {h : AHp} : Rf d 149 46 [a0, a1, a2, a3, a4, a5] [.int s0, .ref s1, .int s2, .ref s3, .int s4, .int s5] h = if (aT (h.1 s1) = 0 ∨ aT (h.1 s1) = 10) ∧ inB s0 (aN (h.1 s1)) = true then Rf d 149 47 [a0, a1, a2, a3, a4, a5] [.int (aF (h.1 s1) s0.toNatClampNeg), .int s2, .ref s3, .int s4, .int s5] h else Rx d 149 46 [a0, a1, a2, a3, a4, a5] [.int s0, .ref s1, .int s2, .ref s3, .int s4, .int s5] h := ldI c149_46
theorem c149_47 : cd 149 47 = some (47, .iadd, 1, []) := by decide +kernel
theorem x149_47 {d : Nat} {a0 a1 a2 a3 a4 a5 : Value} {s0 : Int32} {s1 : Int32} {s2 : Nat} {s3 : Int32} {s4 : Int32} {h : AHp} : Rf d 149 47 [a0, a1, a2, a3, a4, a5] [.int s0, .int s1, .ref s2, .int s3, .int s4] h = Rf d 149 48 [a0, a1, a2, a3, a4, a5] [.int (s1 + s0), .ref s2, .int s3, .int s4] h := Rf_go ((stp_of c149_47).trans rfl)
theorem c149_48 : cd 149 48 = some (48, .iconst 1, 1, []) := by decide +kernel
theorem x149_48 {d : Nat} {a0 a1 a2 a3 a4 a5 : Value} {s0 : Int32} {s1 : Nat} {s2 : Int32} {s3 : Int32} {h : AHp} : Rf d 149 48 [a0, a1, a2, a3, a4, a5] [.int s0, .ref s1, .int s2, .int s3] h = Rf d 149 49 [a0, a1, a2, a3, a4, a5] [.int 1, .int s0, .ref s1, .int s2, .int s3] h := Rf_go ((stp_of c149_48).trans rfl)
theorem c149_49 : cd 149 49 = some (49, .isub, 1, []) := by decide +kernel
theorem x149_49 {d : Nat} {a0 a1 a2 a3 a4 a5 : Value} {s0 : Int32} {s1 : Int32} {s2 : Nat} {s3 : Int32} {s4 : Int32} {h : AHp} : Rf d 149 49 [a0, a1, a2, a3, a4, a5] [.int s0, .int s1, .ref s2, .int s3, .int s4] h = Rf d 149 50 [a0, a1, a2, a3, a4, a5] [.int (s1 - s0), .ref s2, .int s3, .int s4] h := Rf_go ((stp_of c149_49).trans rfl)
theorem c149_50 : cd 149 50 = some (50, .iaload, 1, []) := by decide +kernel
theorem x149_50 {d : Nat} {a0 a1 a2 a3 a4 a5 : Value} {s0 : Int32} {s1 : Nat} {s2 : Int32} {s3 : Int32} {h : AHp} : Rf d 149 50 [a0, a1, a2, a3, a4, a5] [.int s0, .ref s1, .int s2, .int s3] h = if (aT (h.1 s1) = 0 ∨ aT (h.1 s1) = 10) ∧ inB s0 (aN (h.1 s1)) = true then Rf d 149 51 [a0, a1, a2, a3, a4, a5] [.int (aF (h.1 s1) s0.toNatClampNeg), .int s2, .int s3] h else Rx d 149 50 [a0, a1, a2, a3, a4, a5] [.int s0, .ref s1, .int s2, .int s3] h := ldI c149_50
theorem c149_51 : cd 149 51 = some (51, .iadd, 1, []) := by decide +kernel
theorem x149_51 {d : Nat} {a0 a1 a2 a3 a4 a5 : Value} {s0 : Int32} {s1 : Int32} {s2 : Int32} {h : AHp} : Rf d 149 51 [a0, a1, a2, a3, a4, a5] [.int s0, .int s1, .int s2] h = Rf d 149 52 [a0, a1, a2, a3, a4, a5] [.int (s1 + s0), .int s2] h := Rf_go ((stp_of c149_51).trans rfl)
theorem c149_52 : cd 149 52 = some (52, .if_icmp .ge 36, 3, [(88, 0)]) := by decide +kernel
theorem x149_52 {d : Nat} {a0 a1 a2 a3 a4 a5 : Value} {s0 : Int32} {s1 : Int32} {h : AHp} : Rf d 149 52 [a0, a1, a2, a3, a4, a5] [.int s0, .int s1] h = if s1 < s0 then Rf d 149 55 [a0, a1, a2, a3, a4, a5] [] h else Rf d 149 88 [a0, a1, a2, a3, a4, a5] [] h := Rf_brn ((stp_of c149_52).trans rfl)
theorem c149_88 : cd 149 88 = some (88, .iload_n 3, 1, []) := by decide +kernel
theorem x149_88 {d : Nat} {a0 a1 a2 a4 a5 : Value} {x : Int32} {h : AHp} : Rf d 149 88 [a0, a1, a2, .int x, a4, a5] [] h = Rf d 149 89 [a0, a1, a2, .int x, a4, a5] [.int x] h := Rf_go ((stp_of c149_88).trans rfl)
theorem c149_89 : cd 149 89 = some (89, .ireturn, 1, []) := by decide +kernel
theorem x149_89 {d : Nat} {a0 a1 a2 a3 a4 a5 : Value} {s0 : Int32} {h : AHp} : Rf d 149 89 [a0, a1, a2, a3, a4, a5] [.int s0] h = some (some (.int s0), h) := Rf_end (by rw [stp_of c149_89]; simp only [stpI]; rw [if_pos (show retI (mH 149).2.2.1 s0 = true from retI_int)])
theorem c149_55 : cd 149 55 = some (55, .aload_n 0, 1, []) := by decide +kernel
theorem x149_55 {d : Nat} {a1 a2 a3 a4 a5 : Value} {x : Nat} {h : AHp} : Rf d 149 55 [.ref x, a1, a2, a3, a4, a5] [] h = Rf d 149 56 [.ref x, a1, a2, a3, a4, a5] [.ref x] h := Rf_go ((stp_of c149_55).trans rfl)
theorem c149_56 : cd 149 56 = some (56, .getfield 9, 3, [(12, 0)]) := by decide +kernel
theorem x149_56 {d : Nat} {a0 a1 a2 a3 a4 a5 : Value} {s0 : Nat} {h : AHp} : Rf d 149 56 [a0, a1, a2, a3, a4, a5] [.ref s0] h = if cls (h.1 s0) = 12 ∧ oKr (h.1 s0) 0 = true then Rf d 149 59 [a0, a1, a2, a3, a4, a5] [.ref (oR (h.1 s0) 0)] h else Rx d 149 56 [a0, a1, a2, a3, a4, a5] [.ref s0] h := getR c149_56
theorem c149_59 : cd 149 59 = some (59, .sipush 231, 3, []) := by decide +kernel
theorem x149_59 {d : Nat} {a0 a1 a2 a3 a4 a5 : Value} {s0 : Nat} {h : AHp} : Rf d 149 59 [a0, a1, a2, a3, a4, a5] [.ref s0] h = Rf d 149 62 [a0, a1, a2, a3, a4, a5] [.int 231, .ref s0] h := Rf_go ((stp_of c149_59).trans rfl)
theorem c149_62 : cd 149 62 = some (62, .iload 5, 2, []) := by decide +kernel
theorem x149_62 {d : Nat} {a0 a1 a2 a3 a4 : Value} {s0 : Int32} {s1 : Nat} {x : Int32} {h : AHp} : Rf d 149 62 [a0, a1, a2, a3, a4, .int x] [.int s0, .ref s1] h = Rf d 149 64 [a0, a1, a2, a3, a4, .int x] [.int x, .int s0, .ref s1] h := Rf_go ((stp_of c149_62).trans rfl)
theorem c149_64 : cd 149 64 = some (64, .iadd, 1, []) := by decide +kernel
theorem x149_64 {d : Nat} {a0 a1 a2 a3 a4 a5 : Value} {s0 : Int32} {s1 : Int32} {s2 : Nat} {h : AHp} : Rf d 149 64 [a0, a1, a2, a3, a4, a5] [.int s0, .int s1, .ref s2] h = Rf d 149 65 [a0, a1, a2, a3, a4, a5] [.int (s1 + s0), .ref s2] h := Rf_go ((stp_of c149_64).trans rfl)
theorem c149_65 : cd 149 65 = some (65, .iaload, 1, []) := by decide +kernel
theorem x149_65 {d : Nat} {a0 a1 a2 a3 a4 a5 : Value} {s0 : Int32} {s1 : Nat} {h : AHp} : Rf d 149 65 [a0, a1, a2, a3, a4, a5] [.int s0, .ref s1] h = if (aT (h.1 s1) = 0 ∨ aT (h.1 s1) = 10) ∧ inB s0 (aN (h.1 s1)) = true then Rf d 149 66 [a0, a1, a2, a3, a4, a5] [.int (aF (h.1 s1) s0.toNatClampNeg)] h else Rx d 149 65 [a0, a1, a2, a3, a4, a5] [.int s0, .ref s1] h := ldI c149_65
theorem c149_66 : cd 149 66 = some (66, .iload_n 1, 1, []) := by decide +kernel
theorem x149_66 {d : Nat} {a0 a2 a3 a4 a5 : Value} {s0 : Int32} {x : Int32} {h : AHp} : Rf d 149 66 [a0, .int x, a2, a3, a4, a5] [.int s0] h = Rf d 149 67 [a0, .int x, a2, a3, a4, a5] [.int x, .int s0] h := Rf_go ((stp_of c149_66).trans rfl)
theorem c149_67 : cd 149 67 = some (67, .if_icmp .ne 15, 3, [(82, 0)]) := by decide +kernel
theorem x149_67 {d : Nat} {a0 a1 a2 a3 a4 a5 : Value} {s0 : Int32} {s1 : Int32} {h : AHp} : Rf d 149 67 [a0, a1, a2, a3, a4, a5] [.int s0, .int s1] h = if s1 = s0 then Rf d 149 70 [a0, a1, a2, a3, a4, a5] [] h else Rf d 149 82 [a0, a1, a2, a3, a4, a5] [] h := Rf_brn ((stp_of c149_67).trans rfl)
theorem c149_82 : cd 149 82 = some (82, .iinc 5 1, 3, []) := by decide +kernel
theorem x149_82 {d : Nat} {a0 a1 a2 a3 a4 : Value} {x : Int32} {h : AHp} : Rf d 149 82 [a0, a1, a2, a3, a4, .int x] [] h = Rf d 149 85 [a0, a1, a2, a3, a4, .int (x + 1)] [] h := Rf_go ((stp_of c149_82).trans rfl)
theorem c149_85 : cd 149 85 = some (85, .goto (-55), 3, [(30, 0)]) := by decide +kernel
theorem x149_85 {d : Nat} {a0 a1 a2 a3 a4 a5 : Value} {h : AHp} : Rf d 149 85 [a0, a1, a2, a3, a4, a5] [] h = Rf d 149 30 [a0, a1, a2, a3, a4, a5] [] h := Rf_go ((stp_of c149_85).trans rfl)
theorem c149_70 : cd 149 70 = some (70, .aload_n 0, 1, []) := by decide +kernel
theorem x149_70 {d : Nat} {a1 a2 a3 a4 a5 : Value} {x : Nat} {h : AHp} : Rf d 149 70 [.ref x, a1, a2, a3, a4, a5] [] h = Rf d 149 71 [.ref x, a1, a2, a3, a4, a5] [.ref x] h := Rf_go ((stp_of c149_70).trans rfl)
theorem c149_71 : cd 149 71 = some (71, .getfield 9, 3, [(12, 0)]) := by decide +kernel
theorem x149_71 {d : Nat} {a0 a1 a2 a3 a4 a5 : Value} {s0 : Nat} {h : AHp} : Rf d 149 71 [a0, a1, a2, a3, a4, a5] [.ref s0] h = if cls (h.1 s0) = 12 ∧ oKr (h.1 s0) 0 = true then Rf d 149 74 [a0, a1, a2, a3, a4, a5] [.ref (oR (h.1 s0) 0)] h else Rx d 149 71 [a0, a1, a2, a3, a4, a5] [.ref s0] h := getR c149_71
theorem c149_74 : cd 149 74 = some (74, .sipush 281, 3, []) := by decide +kernel
theorem x149_74 {d : Nat} {a0 a1 a2 a3 a4 a5 : Value} {s0 : Nat} {h : AHp} : Rf d 149 74 [a0, a1, a2, a3, a4, a5] [.ref s0] h = Rf d 149 77 [a0, a1, a2, a3, a4, a5] [.int 281, .ref s0] h := Rf_go ((stp_of c149_74).trans rfl)
theorem c149_77 : cd 149 77 = some (77, .iload 5, 2, []) := by decide +kernel
theorem x149_77 {d : Nat} {a0 a1 a2 a3 a4 : Value} {s0 : Int32} {s1 : Nat} {x : Int32} {h : AHp} : Rf d 149 77 [a0, a1, a2, a3, a4, .int x] [.int s0, .ref s1] h = Rf d 149 79 [a0, a1, a2, a3, a4, .int x] [.int x, .int s0, .ref s1] h := Rf_go ((stp_of c149_77).trans rfl)
theorem c149_79 : cd 149 79 = some (79, .iadd, 1, []) := by decide +kernel
theorem x149_79 {d : Nat} {a0 a1 a2 a3 a4 a5 : Value} {s0 : Int32} {s1 : Int32} {s2 : Nat} {h : AHp} : Rf d 149 79 [a0, a1, a2, a3, a4, a5] [.int s0, .int s1, .ref s2] h = Rf d 149 80 [a0, a1, a2, a3, a4, a5] [.int (s1 + s0), .ref s2] h := Rf_go ((stp_of c149_79).trans rfl)
theorem c149_80 : cd 149 80 = some (80, .iaload, 1, []) := by decide +kernel
theorem x149_80 {d : Nat} {a0 a1 a2 a3 a4 a5 : Value} {s0 : Int32} {s1 : Nat} {h : AHp} : Rf d 149 80 [a0, a1, a2, a3, a4, a5] [.int s0, .ref s1] h = if (aT (h.1 s1) = 0 ∨ aT (h.1 s1) = 10) ∧ inB s0 (aN (h.1 s1)) = true then Rf d 149 81 [a0, a1, a2, a3, a4, a5] [.int (aF (h.1 s1) s0.toNatClampNeg)] h else Rx d 149 80 [a0, a1, a2, a3, a4, a5] [.int s0, .ref s1] h := ldI c149_80
theorem c149_81 : cd 149 81 = some (81, .istore_n 3, 1, []) := by decide +kernel
theorem x149_81 {d : Nat} {a0 a1 a2 a3 a4 a5 : Value} {s0 : Int32} {h : AHp} : Rf d 149 81 [a0, a1, a2, a3, a4, a5] [.int s0] h = Rf d 149 82 [a0, a1, a2, .int s0, a4, a5] [] h := Rf_go ((stp_of c149_81).trans rfl)
theorem c149_9 : cd 149 9 = some (9, .iload_n 2, 1, []) := by decide +kernel
theorem x149_9 {d : Nat} {a0 a1 a3 a4 a5 : Value} {x : Int32} {h : AHp} : Rf d 149 9 [a0, a1, .int x, a3, a4, a5] [] h = Rf d 149 10 [a0, a1, .int x, a3, a4, a5] [.int x] h := Rf_go ((stp_of c149_9).trans rfl)
theorem c149_10 : cd 149 10 = some (10, .ireturn, 1, []) := by decide +kernel
theorem x149_10 {d : Nat} {a0 a1 a2 a3 a4 a5 : Value} {s0 : Int32} {h : AHp} : Rf d 149 10 [a0, a1, a2, a3, a4, a5] [.int s0] h = some (some (.int s0), h) := Rf_end (by rw [stp_of c149_10]; simp only [stpI]; rw [if_pos (show retI (mH 149).2.2.1 s0 = true from retI_int)])
-- 150: X12_offer
theorem c150_0 : cd 150 0 = some (0, .iconst 0, 1, []) := by decide +kernel
theorem x150_0 {d : Nat} {a0 a1 : Value} {h : AHp} : Rf d 150 0 [a0, a1] [] h = Rf d 150 1 [a0, a1] [.int 0] h := Rf_go ((stp_of c150_0).trans rfl)
theorem c150_1 : cd 150 1 = some (1, .sipush 999, 3, []) := by decide +kernel
theorem x150_1 {d : Nat} {a0 a1 : Value} {s0 : Int32} {h : AHp} : Rf d 150 1 [a0, a1] [.int s0] h = Rf d 150 4 [a0, a1] [.int 999, .int s0] h := Rf_go ((stp_of c150_1).trans rfl)
theorem c150_4 : cd 150 4 = some (4, .aload_n 0, 1, []) := by decide +kernel
theorem x150_4 {d : Nat} {a1 : Value} {s0 : Int32} {s1 : Int32} {x : Nat} {h : AHp} : Rf d 150 4 [.ref x, a1] [.int s0, .int s1] h = Rf d 150 5 [.ref x, a1] [.ref x, .int s0, .int s1] h := Rf_go ((stp_of c150_4).trans rfl)
theorem c150_5 : cd 150 5 = some (5, .getfield 9, 3, [(12, 0)]) := by decide +kernel
theorem x150_5 {d : Nat} {a0 a1 : Value} {s0 : Nat} {s1 : Int32} {s2 : Int32} {h : AHp} : Rf d 150 5 [a0, a1] [.ref s0, .int s1, .int s2] h = if cls (h.1 s0) = 12 ∧ oKr (h.1 s0) 0 = true then Rf d 150 8 [a0, a1] [.ref (oR (h.1 s0) 0), .int s1, .int s2] h else Rx d 150 5 [a0, a1] [.ref s0, .int s1, .int s2] h := getR c150_5
theorem c150_8 : cd 150 8 = some (8, .bipush 30, 2, []) := by decide +kernel
theorem x150_8 {d : Nat} {a0 a1 : Value} {s0 : Nat} {s1 : Int32} {s2 : Int32} {h : AHp} : Rf d 150 8 [a0, a1] [.ref s0, .int s1, .int s2] h = Rf d 150 10 [a0, a1] [.int 30, .ref s0, .int s1, .int s2] h := Rf_go ((stp_of c150_8).trans rfl)
theorem c150_10 : cd 150 10 = some (10, .iload_n 1, 1, []) := by decide +kernel
theorem x150_10 {d : Nat} {a0 : Value} {s0 : Int32} {s1 : Nat} {s2 : Int32} {s3 : Int32} {x : Int32} {h : AHp} : Rf d 150 10 [a0, .int x] [.int s0, .ref s1, .int s2, .int s3] h = Rf d 150 11 [a0, .int x] [.int x, .int s0, .ref s1, .int s2, .int s3] h := Rf_go ((stp_of c150_10).trans rfl)
theorem c150_11 : cd 150 11 = some (11, .iadd, 1, []) := by decide +kernel
theorem x150_11 {d : Nat} {a0 a1 : Value} {s0 : Int32} {s1 : Int32} {s2 : Nat} {s3 : Int32} {s4 : Int32} {h : AHp} : Rf d 150 11 [a0, a1] [.int s0, .int s1, .ref s2, .int s3, .int s4] h = Rf d 150 12 [a0, a1] [.int (s1 + s0), .ref s2, .int s3, .int s4] h := Rf_go ((stp_of c150_11).trans rfl)
theorem c150_12 : cd 150 12 = some (12, .iaload, 1, []) := by decide +kernel
theorem x150_12 {d : Nat} {a0 a1 : Value} {s0 : Int32} {s1 : Nat} {s2 : Int32} {s3 : Int32} {h : AHp} : Rf d 150 12 [a0, a1] [.int s0, .ref s1, .int s2, .int s3] h = if (aT (h.1 s1) = 0 ∨ aT (h.1 s1) = 10) ∧ inB s0 (aN (h.1 s1)) = true then Rf d 150 13 [a0, a1] [.int (aF (h.1 s1) s0.toNatClampNeg), .int s2, .int s3] h else Rx d 150 12 [a0, a1] [.int s0, .ref s1, .int s2, .int s3] h := ldI c150_12
theorem c150_13 : cd 150 13 = some (13, .aload_n 0, 1, []) := by decide +kernel
theorem x150_13 {d : Nat} {a1 : Value} {s0 : Int32} {s1 : Int32} {s2 : Int32} {x : Nat} {h : AHp} : Rf d 150 13 [.ref x, a1] [.int s0, .int s1, .int s2] h = Rf d 150 14 [.ref x, a1] [.ref x, .int s0, .int s1, .int s2] h := Rf_go ((stp_of c150_13).trans rfl)
theorem c150_14 : cd 150 14 = some (14, .iconst 0, 1, []) := by decide +kernel
theorem x150_14 {d : Nat} {a0 a1 : Value} {s0 : Nat} {s1 : Int32} {s2 : Int32} {s3 : Int32} {h : AHp} : Rf d 150 14 [a0, a1] [.ref s0, .int s1, .int s2, .int s3] h = Rf d 150 15 [a0, a1] [.int 0, .ref s0, .int s1, .int s2, .int s3] h := Rf_go ((stp_of c150_14).trans rfl)
theorem c150_15 : cd 150 15 = some (15, .iload_n 1, 1, []) := by decide +kernel
theorem x150_15 {d : Nat} {a0 : Value} {s0 : Int32} {s1 : Nat} {s2 : Int32} {s3 : Int32} {s4 : Int32} {x : Int32} {h : AHp} : Rf d 150 15 [a0, .int x] [.int s0, .ref s1, .int s2, .int s3, .int s4] h = Rf d 150 16 [a0, .int x] [.int x, .int s0, .ref s1, .int s2, .int s3, .int s4] h := Rf_go ((stp_of c150_15).trans rfl)
theorem c150_16 : cd 150 16 = some (16, .invokevirtual 110, 3, [(12, 148)]) := by decide +kernel
theorem xc150_16 {d : Nat} {a0 a1 : Value} {s0 : Int32} {s1 : Int32} {s2 : Nat} {s3 : Int32} {s4 : Int32} {s5 : Int32} {h : AHp} {h1 : AHp} {v : Int32} (hr : cls (h.1 s2) = 12) (hq : Rf d 148 0 [.ref s2, .int s1, .int s0, noV, noV, noV] [] h = some (some (.int v), h1)) : Rf (d + 1) 150 16 [a0, a1] [.int s0, .int s1, .ref s2, .int s3, .int s4, .int s5] h = Rf (d + 1) 150 19 [a0, a1] [.int v, .int s3, .int s4, .int s5] h1 := clV (c := 148) (as := [.int s1, .int s0]) c150_16 rfl (by simp [isV]) (by rw [hr]; rfl) hq
theorem c150_19 : cd 150 19 = some (19, .iadd, 1, []) := by decide +kernel
theorem x150_19 {d : Nat} {a0 a1 : Value} {s0 : Int32} {s1 : Int32} {s2 : Int32} {s3 : Int32} {h : AHp} : Rf d 150 19 [a0, a1] [.int s0, .int s1, .int s2, .int s3] h = Rf d 150 20 [a0, a1] [.int (s1 + s0), .int s2, .int s3] h := Rf_go ((stp_of c150_19).trans rfl)
theorem c150_20 : cd 150 20 = some (20, .aload_n 0, 1, []) := by decide +kernel
theorem x150_20 {d : Nat} {a1 : Value} {s0 : Int32} {s1 : Int32} {s2 : Int32} {x : Nat} {h : AHp} : Rf d 150 20 [.ref x, a1] [.int s0, .int s1, .int s2] h = Rf d 150 21 [.ref x, a1] [.ref x, .int s0, .int s1, .int s2] h := Rf_go ((stp_of c150_20).trans rfl)
theorem c150_21 : cd 150 21 = some (21, .iconst 1, 1, []) := by decide +kernel
theorem x150_21 {d : Nat} {a0 a1 : Value} {s0 : Nat} {s1 : Int32} {s2 : Int32} {s3 : Int32} {h : AHp} : Rf d 150 21 [a0, a1] [.ref s0, .int s1, .int s2, .int s3] h = Rf d 150 22 [a0, a1] [.int 1, .ref s0, .int s1, .int s2, .int s3] h := Rf_go ((stp_of c150_21).trans rfl)
theorem c150_22 : cd 150 22 = some (22, .iload_n 1, 1, []) := by decide +kernel
theorem x150_22 {d : Nat} {a0 : Value} {s0 : Int32} {s1 : Nat} {s2 : Int32} {s3 : Int32} {s4 : Int32} {x : Int32} {h : AHp} : Rf d 150 22 [a0, .int x] [.int s0, .ref s1, .int s2, .int s3, .int s4] h = Rf d 150 23 [a0, .int x] [.int x, .int s0, .ref s1, .int s2, .int s3, .int s4] h := Rf_go ((stp_of c150_22).trans rfl)
theorem c150_23 : cd 150 23 = some (23, .invokevirtual 110, 3, [(12, 148)]) := by decide +kernel
theorem xc150_23 {d : Nat} {a0 a1 : Value} {s0 : Int32} {s1 : Int32} {s2 : Nat} {s3 : Int32} {s4 : Int32} {s5 : Int32} {h : AHp} {h1 : AHp} {v : Int32} (hr : cls (h.1 s2) = 12) (hq : Rf d 148 0 [.ref s2, .int s1, .int s0, noV, noV, noV] [] h = some (some (.int v), h1)) : Rf (d + 1) 150 23 [a0, a1] [.int s0, .int s1, .ref s2, .int s3, .int s4, .int s5] h = Rf (d + 1) 150 26 [a0, a1] [.int v, .int s3, .int s4, .int s5] h1 := clV (c := 148) (as := [.int s1, .int s0]) c150_23 rfl (by simp [isV]) (by rw [hr]; rfl) hq
theorem c150_26 : cd 150 26 = some (26, .isub, 1, []) := by decide +kernel
theorem x150_26 {d : Nat} {a0 a1 : Value} {s0 : Int32} {s1 : Int32} {s2 : Int32} {s3 : Int32} {h : AHp} : Rf d 150 26 [a0, a1] [.int s0, .int s1, .int s2, .int s3] h = Rf d 150 27 [a0, a1] [.int (s1 - s0), .int s2, .int s3] h := Rf_go ((stp_of c150_26).trans rfl)
theorem c150_27 : cd 150 27 = some (27, .invokestatic 113, 3, [(0, 202)]) := by decide +kernel
theorem xc150_27 {d : Nat} {a0 a1 : Value} {s0 : Int32} {s1 : Int32} {s2 : Int32} {h : AHp} {h1 : AHp} {v : Int32} (hq : Rf d 202 0 [.int s1, .int s0] [] h = some (some (.int v), h1)) : Rf (d + 1) 150 27 [a0, a1] [.int s0, .int s1, .int s2] h = Rf (d + 1) 150 30 [a0, a1] [.int v, .int s2] h1 := clS (as := [.int s1, .int s0]) c150_27 rfl rfl (by simp [isV]) hq
theorem c150_30 : cd 150 30 = some (30, .invokestatic 118, 3, [(0, 201)]) := by decide +kernel
theorem xc150_30 {d : Nat} {a0 a1 : Value} {s0 : Int32} {s1 : Int32} {h : AHp} {h1 : AHp} {v : Int32} (hq : Rf d 201 0 [.int s1, .int s0] [] h = some (some (.int v), h1)) : Rf (d + 1) 150 30 [a0, a1] [.int s0, .int s1] h = Rf (d + 1) 150 33 [a0, a1] [.int v] h1 := clS (as := [.int s1, .int s0]) c150_30 rfl rfl (by simp [isV]) hq
theorem c150_33 : cd 150 33 = some (33, .ireturn, 1, []) := by decide +kernel
theorem x150_33 {d : Nat} {a0 a1 : Value} {s0 : Int32} {h : AHp} : Rf d 150 33 [a0, a1] [.int s0] h = some (some (.int s0), h) := Rf_end (by rw [stp_of c150_33]; simp only [stpI]; rw [if_pos (show retI (mH 150).2.2.1 s0 = true from retI_int)])
-- 151: X12_wish
theorem c151_0 : cd 151 0 = some (0, .aload_n 0, 1, []) := by decide +kernel
theorem x151_0 {d : Nat} {a1 : Value} {x : Nat} {h : AHp} : Rf d 151 0 [.ref x, a1] [] h = Rf d 151 1 [.ref x, a1] [.ref x] h := Rf_go ((stp_of c151_0).trans rfl)
theorem c151_1 : cd 151 1 = some (1, .iconst 2, 1, []) := by decide +kernel
theorem x151_1 {d : Nat} {a0 a1 : Value} {s0 : Nat} {h : AHp} : Rf d 151 1 [a0, a1] [.ref s0] h = Rf d 151 2 [a0, a1] [.int 2, .ref s0] h := Rf_go ((stp_of c151_1).trans rfl)
theorem c151_2 : cd 151 2 = some (2, .iload_n 1, 1, []) := by decide +kernel
theorem x151_2 {d : Nat} {a0 : Value} {s0 : Int32} {s1 : Nat} {x : Int32} {h : AHp} : Rf d 151 2 [a0, .int x] [.int s0, .ref s1] h = Rf d 151 3 [a0, .int x] [.int x, .int s0, .ref s1] h := Rf_go ((stp_of c151_2).trans rfl)
theorem c151_3 : cd 151 3 = some (3, .invokevirtual 110, 3, [(12, 148)]) := by decide +kernel
theorem xc151_3 {d : Nat} {a0 a1 : Value} {s0 : Int32} {s1 : Int32} {s2 : Nat} {h : AHp} {h1 : AHp} {v : Int32} (hr : cls (h.1 s2) = 12) (hq : Rf d 148 0 [.ref s2, .int s1, .int s0, noV, noV, noV] [] h = some (some (.int v), h1)) : Rf (d + 1) 151 3 [a0, a1] [.int s0, .int s1, .ref s2] h = Rf (d + 1) 151 6 [a0, a1] [.int v] h1 := clV (c := 148) (as := [.int s1, .int s0]) c151_3 rfl (by simp [isV]) (by rw [hr]; rfl) hq
theorem c151_6 : cd 151 6 = some (6, .ireturn, 1, []) := by decide +kernel
theorem x151_6 {d : Nat} {a0 a1 : Value} {s0 : Int32} {h : AHp} : Rf d 151 6 [a0, a1] [.int s0] h = some (some (.int s0), h) := Rf_end (by rw [stp_of c151_6]; simp only [stpI]; rw [if_pos (show retI (mH 151).2.2.1 s0 = true from retI_int)])
-- 152: X12_leave
theorem c152_0 : cd 152 0 = some (0, .aload_n 0, 1, []) := by decide +kernel
theorem x152_0 {d : Nat} {x : Nat} {h : AHp} : Rf d 152 0 [.ref x] [] h = Rf d 152 1 [.ref x] [.ref x] h := Rf_go ((stp_of c152_0).trans rfl)
theorem c152_1 : cd 152 1 = some (1, .iconst 3, 1, []) := by decide +kernel
theorem x152_1 {d : Nat} {a0 : Value} {s0 : Nat} {h : AHp} : Rf d 152 1 [a0] [.ref s0] h = Rf d 152 2 [a0] [.int 3, .ref s0] h := Rf_go ((stp_of c152_1).trans rfl)
theorem c152_2 : cd 152 2 = some (2, .bipush 20, 2, []) := by decide +kernel
theorem x152_2 {d : Nat} {a0 : Value} {s0 : Int32} {s1 : Nat} {h : AHp} : Rf d 152 2 [a0] [.int s0, .ref s1] h = Rf d 152 4 [a0] [.int 20, .int s0, .ref s1] h := Rf_go ((stp_of c152_2).trans rfl)
theorem c152_4 : cd 152 4 = some (4, .invokevirtual 121, 3, [(12, 149)]) := by decide +kernel
theorem xc152_4 {d : Nat} {a0 : Value} {s0 : Int32} {s1 : Int32} {s2 : Nat} {h : AHp} {h1 : AHp} {v : Int32} (hr : cls (h.1 s2) = 12) (hq : Rf d 149 0 [.ref s2, .int s1, .int s0, noV, noV, noV] [] h = some (some (.int v), h1)) : Rf (d + 1) 152 4 [a0] [.int s0, .int s1, .ref s2] h = Rf (d + 1) 152 7 [a0] [.int v] h1 := clV (c := 149) (as := [.int s1, .int s0]) c152_4 rfl (by simp [isV]) (by rw [hr]; rfl) hq
theorem c152_7 : cd 152 7 = some (7, .ireturn, 1, []) := by decide +kernel
theorem x152_7 {d : Nat} {a0 : Value} {s0 : Int32} {h : AHp} : Rf d 152 7 [a0] [.int s0] h = some (some (.int s0), h) := Rf_end (by rw [stp_of c152_7]; simp only [stpI]; rw [if_pos (show retI (mH 152).2.2.1 s0 = true from retI_int)])
-- 153: X12_rise
theorem c153_0 : cd 153 0 = some (0, .aload_n 0, 1, []) := by decide +kernel
theorem x153_0 {d : Nat} {x : Nat} {h : AHp} : Rf d 153 0 [.ref x] [] h = Rf d 153 1 [.ref x] [.ref x] h := Rf_go ((stp_of c153_0).trans rfl)
theorem c153_1 : cd 153 1 = some (1, .iconst 4, 1, []) := by decide +kernel
theorem x153_1 {d : Nat} {a0 : Value} {s0 : Nat} {h : AHp} : Rf d 153 1 [a0] [.ref s0] h = Rf d 153 2 [a0] [.int 4, .ref s0] h := Rf_go ((stp_of c153_1).trans rfl)
theorem c153_2 : cd 153 2 = some (2, .iconst 5, 1, []) := by decide +kernel
theorem x153_2 {d : Nat} {a0 : Value} {s0 : Int32} {s1 : Nat} {h : AHp} : Rf d 153 2 [a0] [.int s0, .ref s1] h = Rf d 153 3 [a0] [.int 5, .int s0, .ref s1] h := Rf_go ((stp_of c153_2).trans rfl)
theorem c153_3 : cd 153 3 = some (3, .invokevirtual 121, 3, [(12, 149)]) := by decide +kernel
theorem xc153_3 {d : Nat} {a0 : Value} {s0 : Int32} {s1 : Int32} {s2 : Nat} {h : AHp} {h1 : AHp} {v : Int32} (hr : cls (h.1 s2) = 12) (hq : Rf d 149 0 [.ref s2, .int s1, .int s0, noV, noV, noV] [] h = some (some (.int v), h1)) : Rf (d + 1) 153 3 [a0] [.int s0, .int s1, .ref s2] h = Rf (d + 1) 153 6 [a0] [.int v] h1 := clV (c := 149) (as := [.int s1, .int s0]) c153_3 rfl (by simp [isV]) (by rw [hr]; rfl) hq
theorem c153_6 : cd 153 6 = some (6, .ireturn, 1, []) := by decide +kernel
theorem x153_6 {d : Nat} {a0 : Value} {s0 : Int32} {h : AHp} : Rf d 153 6 [a0] [.int s0] h = some (some (.int s0), h) := Rf_end (by rw [stp_of c153_6]; simp only [stpI]; rw [if_pos (show retI (mH 153).2.2.1 s0 = true from retI_int)])
-- 154: X12_gap
theorem c154_0 : cd 154 0 = some (0, .iconst 0, 1, []) := by decide +kernel
theorem x154_0 {d : Nat} {a0 a1 a2 a3 a4 : Value} {h : AHp} : Rf d 154 0 [a0, a1, a2, a3, a4] [] h = Rf d 154 1 [a0, a1, a2, a3, a4] [.int 0] h := Rf_go ((stp_of c154_0).trans rfl)
theorem c154_1 : cd 154 1 = some (1, .istore_n 1, 1, []) := by decide +kernel
theorem x154_1 {d : Nat} {a0 a1 a2 a3 a4 : Value} {s0 : Int32} {h : AHp} : Rf d 154 1 [a0, a1, a2, a3, a4] [.int s0] h = Rf d 154 2 [a0, .int s0, a2, a3, a4] [] h := Rf_go ((stp_of c154_1).trans rfl)
theorem c154_2 : cd 154 2 = some (2, .iconst 0, 1, []) := by decide +kernel
theorem x154_2 {d : Nat} {a0 a1 a2 a3 a4 : Value} {h : AHp} : Rf d 154 2 [a0, a1, a2, a3, a4] [] h = Rf d 154 3 [a0, a1, a2, a3, a4] [.int 0] h := Rf_go ((stp_of c154_2).trans rfl)
theorem c154_3 : cd 154 3 = some (3, .istore_n 2, 1, []) := by decide +kernel
theorem x154_3 {d : Nat} {a0 a1 a2 a3 a4 : Value} {s0 : Int32} {h : AHp} : Rf d 154 3 [a0, a1, a2, a3, a4] [.int s0] h = Rf d 154 4 [a0, a1, .int s0, a3, a4] [] h := Rf_go ((stp_of c154_3).trans rfl)
theorem c154_4 : cd 154 4 = some (4, .iconst 0, 1, []) := by decide +kernel
theorem x154_4 {d : Nat} {a0 a1 a2 a3 a4 : Value} {h : AHp} : Rf d 154 4 [a0, a1, a2, a3, a4] [] h = Rf d 154 5 [a0, a1, a2, a3, a4] [.int 0] h := Rf_go ((stp_of c154_4).trans rfl)
theorem c154_5 : cd 154 5 = some (5, .istore_n 3, 1, []) := by decide +kernel
theorem x154_5 {d : Nat} {a0 a1 a2 a3 a4 : Value} {s0 : Int32} {h : AHp} : Rf d 154 5 [a0, a1, a2, a3, a4] [.int s0] h = Rf d 154 6 [a0, a1, a2, .int s0, a4] [] h := Rf_go ((stp_of c154_5).trans rfl)
theorem c154_6 : cd 154 6 = some (6, .iconst 0, 1, []) := by decide +kernel
theorem x154_6 {d : Nat} {a0 a1 a2 a3 a4 : Value} {h : AHp} : Rf d 154 6 [a0, a1, a2, a3, a4] [] h = Rf d 154 7 [a0, a1, a2, a3, a4] [.int 0] h := Rf_go ((stp_of c154_6).trans rfl)
theorem c154_7 : cd 154 7 = some (7, .istore 4, 2, []) := by decide +kernel
theorem x154_7 {d : Nat} {a0 a1 a2 a3 a4 : Value} {s0 : Int32} {h : AHp} : Rf d 154 7 [a0, a1, a2, a3, a4] [.int s0] h = Rf d 154 9 [a0, a1, a2, a3, .int s0] [] h := Rf_go ((stp_of c154_7).trans rfl)
theorem c154_9 : cd 154 9 = some (9, .iload 4, 2, []) := by decide +kernel
theorem x154_9 {d : Nat} {a0 a1 a2 a3 : Value} {x : Int32} {h : AHp} : Rf d 154 9 [a0, a1, a2, a3, .int x] [] h = Rf d 154 11 [a0, a1, a2, a3, .int x] [.int x] h := Rf_go ((stp_of c154_9).trans rfl)
theorem c154_11 : cd 154 11 = some (11, .aload_n 0, 1, []) := by decide +kernel
theorem x154_11 {d : Nat} {a1 a2 a3 a4 : Value} {s0 : Int32} {x : Nat} {h : AHp} : Rf d 154 11 [.ref x, a1, a2, a3, a4] [.int s0] h = Rf d 154 12 [.ref x, a1, a2, a3, a4] [.ref x, .int s0] h := Rf_go ((stp_of c154_11).trans rfl)
theorem c154_12 : cd 154 12 = some (12, .getfield 9, 3, [(12, 0)]) := by decide +kernel
theorem x154_12 {d : Nat} {a0 a1 a2 a3 a4 : Value} {s0 : Nat} {s1 : Int32} {h : AHp} : Rf d 154 12 [a0, a1, a2, a3, a4] [.ref s0, .int s1] h = if cls (h.1 s0) = 12 ∧ oKr (h.1 s0) 0 = true then Rf d 154 15 [a0, a1, a2, a3, a4] [.ref (oR (h.1 s0) 0), .int s1] h else Rx d 154 12 [a0, a1, a2, a3, a4] [.ref s0, .int s1] h := getR c154_12
theorem c154_15 : cd 154 15 = some (15, .iconst 0, 1, []) := by decide +kernel
theorem x154_15 {d : Nat} {a0 a1 a2 a3 a4 : Value} {s0 : Nat} {s1 : Int32} {h : AHp} : Rf d 154 15 [a0, a1, a2, a3, a4] [.ref s0, .int s1] h = Rf d 154 16 [a0, a1, a2, a3, a4] [.int 0, .ref s0, .int s1] h := Rf_go ((stp_of c154_15).trans rfl)
theorem c154_16 : cd 154 16 = some (16, .iaload, 1, []) := by decide +kernel
theorem x154_16 {d : Nat} {a0 a1 a2 a3 a4 : Value} {s0 : Int32} {s1 : Nat} {s2 : Int32} {h : AHp} : Rf d 154 16 [a0, a1, a2, a3, a4] [.int s0, .ref s1, .int s2] h = if (aT (h.1 s1) = 0 ∨ aT (h.1 s1) = 10) ∧ inB s0 (aN (h.1 s1)) = true then Rf d 154 17 [a0, a1, a2, a3, a4] [.int (aF (h.1 s1) s0.toNatClampNeg), .int s2] h else Rx d 154 16 [a0, a1, a2, a3, a4] [.int s0, .ref s1, .int s2] h := ldI c154_16
theorem c154_17 : cd 154 17 = some (17, .if_icmp .ge 54, 3, [(71, 0)]) := by decide +kernel
theorem x154_17 {d : Nat} {a0 a1 a2 a3 a4 : Value} {s0 : Int32} {s1 : Int32} {h : AHp} : Rf d 154 17 [a0, a1, a2, a3, a4] [.int s0, .int s1] h = if s1 < s0 then Rf d 154 20 [a0, a1, a2, a3, a4] [] h else Rf d 154 71 [a0, a1, a2, a3, a4] [] h := Rf_brn ((stp_of c154_17).trans rfl)
theorem c154_71 : cd 154 71 = some (71, .aload_n 0, 1, []) := by decide +kernel
theorem x154_71 {d : Nat} {a1 a2 a3 a4 : Value} {x : Nat} {h : AHp} : Rf d 154 71 [.ref x, a1, a2, a3, a4] [] h = Rf d 154 72 [.ref x, a1, a2, a3, a4] [.ref x] h := Rf_go ((stp_of c154_71).trans rfl)
theorem c154_72 : cd 154 72 = some (72, .getfield 9, 3, [(12, 0)]) := by decide +kernel
theorem x154_72 {d : Nat} {a0 a1 a2 a3 a4 : Value} {s0 : Nat} {h : AHp} : Rf d 154 72 [a0, a1, a2, a3, a4] [.ref s0] h = if cls (h.1 s0) = 12 ∧ oKr (h.1 s0) 0 = true then Rf d 154 75 [a0, a1, a2, a3, a4] [.ref (oR (h.1 s0) 0)] h else Rx d 154 72 [a0, a1, a2, a3, a4] [.ref s0] h := getR c154_72
theorem c154_75 : cd 154 75 = some (75, .iconst 0, 1, []) := by decide +kernel
theorem x154_75 {d : Nat} {a0 a1 a2 a3 a4 : Value} {s0 : Nat} {h : AHp} : Rf d 154 75 [a0, a1, a2, a3, a4] [.ref s0] h = Rf d 154 76 [a0, a1, a2, a3, a4] [.int 0, .ref s0] h := Rf_go ((stp_of c154_75).trans rfl)
theorem c154_76 : cd 154 76 = some (76, .iaload, 1, []) := by decide +kernel
theorem x154_76 {d : Nat} {a0 a1 a2 a3 a4 : Value} {s0 : Int32} {s1 : Nat} {h : AHp} : Rf d 154 76 [a0, a1, a2, a3, a4] [.int s0, .ref s1] h = if (aT (h.1 s1) = 0 ∨ aT (h.1 s1) = 10) ∧ inB s0 (aN (h.1 s1)) = true then Rf d 154 77 [a0, a1, a2, a3, a4] [.int (aF (h.1 s1) s0.toNatClampNeg)] h else Rx d 154 76 [a0, a1, a2, a3, a4] [.int s0, .ref s1] h := ldI c154_76
theorem c154_77 : cd 154 77 = some (77, .iload_n 1, 1, []) := by decide +kernel
theorem x154_77 {d : Nat} {a0 a2 a3 a4 : Value} {s0 : Int32} {x : Int32} {h : AHp} : Rf d 154 77 [a0, .int x, a2, a3, a4] [.int s0] h = Rf d 154 78 [a0, .int x, a2, a3, a4] [.int x, .int s0] h := Rf_go ((stp_of c154_77).trans rfl)
theorem c154_78 : cd 154 78 = some (78, .isub, 1, []) := by decide +kernel
theorem x154_78 {d : Nat} {a0 a1 a2 a3 a4 : Value} {s0 : Int32} {s1 : Int32} {h : AHp} : Rf d 154 78 [a0, a1, a2, a3, a4] [.int s0, .int s1] h = Rf d 154 79 [a0, a1, a2, a3, a4] [.int (s1 - s0)] h := Rf_go ((stp_of c154_78).trans rfl)
theorem c154_79 : cd 154 79 = some (79, .istore 4, 2, []) := by decide +kernel
theorem x154_79 {d : Nat} {a0 a1 a2 a3 a4 : Value} {s0 : Int32} {h : AHp} : Rf d 154 79 [a0, a1, a2, a3, a4] [.int s0] h = Rf d 154 81 [a0, a1, a2, a3, .int s0] [] h := Rf_go ((stp_of c154_79).trans rfl)
theorem c154_81 : cd 154 81 = some (81, .iload_n 1, 1, []) := by decide +kernel
theorem x154_81 {d : Nat} {a0 a2 a3 a4 : Value} {x : Int32} {h : AHp} : Rf d 154 81 [a0, .int x, a2, a3, a4] [] h = Rf d 154 82 [a0, .int x, a2, a3, a4] [.int x] h := Rf_go ((stp_of c154_81).trans rfl)
theorem c154_82 : cd 154 82 = some (82, .ifCond .eq 8, 3, [(90, 0)]) := by decide +kernel
theorem x154_82 {d : Nat} {a0 a1 a2 a3 a4 : Value} {s0 : Int32} {h : AHp} : Rf d 154 82 [a0, a1, a2, a3, a4] [.int s0] h = if s0 = 0 then Rf d 154 90 [a0, a1, a2, a3, a4] [] h else Rf d 154 85 [a0, a1, a2, a3, a4] [] h := Rf_brd ((stp_of c154_82).trans rfl)
theorem c154_90 : cd 154 90 = some (90, .iconst 0, 1, []) := by decide +kernel
theorem x154_90 {d : Nat} {a0 a1 a2 a3 a4 : Value} {h : AHp} : Rf d 154 90 [a0, a1, a2, a3, a4] [] h = Rf d 154 91 [a0, a1, a2, a3, a4] [.int 0] h := Rf_go ((stp_of c154_90).trans rfl)
theorem c154_91 : cd 154 91 = some (91, .goto 13, 3, [(104, 0)]) := by decide +kernel
theorem x154_91 {d : Nat} {a0 a1 a2 a3 a4 : Value} {s0 : Int32} {h : AHp} : Rf d 154 91 [a0, a1, a2, a3, a4] [.int s0] h = Rf d 154 104 [a0, a1, a2, a3, a4] [.int s0] h := Rf_go ((stp_of c154_91).trans rfl)
theorem c154_104 : cd 154 104 = some (104, .ireturn, 1, []) := by decide +kernel
theorem x154_104 {d : Nat} {a0 a1 a2 a3 a4 : Value} {s0 : Int32} {h : AHp} : Rf d 154 104 [a0, a1, a2, a3, a4] [.int s0] h = some (some (.int s0), h) := Rf_end (by rw [stp_of c154_104]; simp only [stpI]; rw [if_pos (show retI (mH 154).2.2.1 s0 = true from retI_int)])
theorem c154_85 : cd 154 85 = some (85, .iload 4, 2, []) := by decide +kernel
theorem x154_85 {d : Nat} {a0 a1 a2 a3 : Value} {x : Int32} {h : AHp} : Rf d 154 85 [a0, a1, a2, a3, .int x] [] h = Rf d 154 87 [a0, a1, a2, a3, .int x] [.int x] h := Rf_go ((stp_of c154_85).trans rfl)
theorem c154_87 : cd 154 87 = some (87, .ifCond .ne 7, 3, [(94, 0)]) := by decide +kernel
theorem x154_87 {d : Nat} {a0 a1 a2 a3 a4 : Value} {s0 : Int32} {h : AHp} : Rf d 154 87 [a0, a1, a2, a3, a4] [.int s0] h = if s0 = 0 then Rf d 154 90 [a0, a1, a2, a3, a4] [] h else Rf d 154 94 [a0, a1, a2, a3, a4] [] h := Rf_brn ((stp_of c154_87).trans rfl)
theorem c154_94 : cd 154 94 = some (94, .iload_n 2, 1, []) := by decide +kernel
theorem x154_94 {d : Nat} {a0 a1 a3 a4 : Value} {x : Int32} {h : AHp} : Rf d 154 94 [a0, a1, .int x, a3, a4] [] h = Rf d 154 95 [a0, a1, .int x, a3, a4] [.int x] h := Rf_go ((stp_of c154_94).trans rfl)
theorem c154_95 : cd 154 95 = some (95, .iload_n 1, 1, []) := by decide +kernel
theorem x154_95 {d : Nat} {a0 a2 a3 a4 : Value} {s0 : Int32} {x : Int32} {h : AHp} : Rf d 154 95 [a0, .int x, a2, a3, a4] [.int s0] h = Rf d 154 96 [a0, .int x, a2, a3, a4] [.int x, .int s0] h := Rf_go ((stp_of c154_95).trans rfl)
theorem c154_96 : cd 154 96 = some (96, .idiv, 1, []) := by decide +kernel
theorem x154_96 {d : Nat} {a0 a1 a2 a3 a4 : Value} {s0 : Int32} {s1 : Int32} {h : AHp} : Rf d 154 96 [a0, a1, a2, a3, a4] [.int s0, .int s1] h = if ¬ s0 = 0 then Rf d 154 97 [a0, a1, a2, a3, a4] [.int (s1 / s0)] h else Rx d 154 96 [a0, a1, a2, a3, a4] [.int s0, .int s1] h := divE c154_96 (fun _ _ _ => rfl)
theorem c154_97 : cd 154 97 = some (97, .iload_n 3, 1, []) := by decide +kernel
theorem x154_97 {d : Nat} {a0 a1 a2 a4 : Value} {s0 : Int32} {x : Int32} {h : AHp} : Rf d 154 97 [a0, a1, a2, .int x, a4] [.int s0] h = Rf d 154 98 [a0, a1, a2, .int x, a4] [.int x, .int s0] h := Rf_go ((stp_of c154_97).trans rfl)
theorem c154_98 : cd 154 98 = some (98, .iload_n 2, 1, []) := by decide +kernel
theorem x154_98 {d : Nat} {a0 a1 a3 a4 : Value} {s0 : Int32} {s1 : Int32} {x : Int32} {h : AHp} : Rf d 154 98 [a0, a1, .int x, a3, a4] [.int s0, .int s1] h = Rf d 154 99 [a0, a1, .int x, a3, a4] [.int x, .int s0, .int s1] h := Rf_go ((stp_of c154_98).trans rfl)
theorem c154_99 : cd 154 99 = some (99, .isub, 1, []) := by decide +kernel
theorem x154_99 {d : Nat} {a0 a1 a2 a3 a4 : Value} {s0 : Int32} {s1 : Int32} {s2 : Int32} {h : AHp} : Rf d 154 99 [a0, a1, a2, a3, a4] [.int s0, .int s1, .int s2] h = Rf d 154 100 [a0, a1, a2, a3, a4] [.int (s1 - s0), .int s2] h := Rf_go ((stp_of c154_99).trans rfl)
theorem c154_100 : cd 154 100 = some (100, .iload 4, 2, []) := by decide +kernel
theorem x154_100 {d : Nat} {a0 a1 a2 a3 : Value} {s0 : Int32} {s1 : Int32} {x : Int32} {h : AHp} : Rf d 154 100 [a0, a1, a2, a3, .int x] [.int s0, .int s1] h = Rf d 154 102 [a0, a1, a2, a3, .int x] [.int x, .int s0, .int s1] h := Rf_go ((stp_of c154_100).trans rfl)
theorem c154_102 : cd 154 102 = some (102, .idiv, 1, []) := by decide +kernel
theorem x154_102 {d : Nat} {a0 a1 a2 a3 a4 : Value} {s0 : Int32} {s1 : Int32} {s2 : Int32} {h : AHp} : Rf d 154 102 [a0, a1, a2, a3, a4] [.int s0, .int s1, .int s2] h = if ¬ s0 = 0 then Rf d 154 103 [a0, a1, a2, a3, a4] [.int (s1 / s0), .int s2] h else Rx d 154 102 [a0, a1, a2, a3, a4] [.int s0, .int s1, .int s2] h := divE c154_102 (fun _ _ _ => rfl)
theorem c154_103 : cd 154 103 = some (103, .isub, 1, []) := by decide +kernel
theorem x154_103 {d : Nat} {a0 a1 a2 a3 a4 : Value} {s0 : Int32} {s1 : Int32} {h : AHp} : Rf d 154 103 [a0, a1, a2, a3, a4] [.int s0, .int s1] h = Rf d 154 104 [a0, a1, a2, a3, a4] [.int (s1 - s0)] h := Rf_go ((stp_of c154_103).trans rfl)
theorem c154_20 : cd 154 20 = some (20, .iload_n 3, 1, []) := by decide +kernel
theorem x154_20 {d : Nat} {a0 a1 a2 a4 : Value} {x : Int32} {h : AHp} : Rf d 154 20 [a0, a1, a2, .int x, a4] [] h = Rf d 154 21 [a0, a1, a2, .int x, a4] [.int x] h := Rf_go ((stp_of c154_20).trans rfl)
theorem c154_21 : cd 154 21 = some (21, .aload_n 0, 1, []) := by decide +kernel
theorem x154_21 {d : Nat} {a1 a2 a3 a4 : Value} {s0 : Int32} {x : Nat} {h : AHp} : Rf d 154 21 [.ref x, a1, a2, a3, a4] [.int s0] h = Rf d 154 22 [.ref x, a1, a2, a3, a4] [.ref x, .int s0] h := Rf_go ((stp_of c154_21).trans rfl)
theorem c154_22 : cd 154 22 = some (22, .getfield 9, 3, [(12, 0)]) := by decide +kernel
theorem x154_22 {d : Nat} {a0 a1 a2 a3 a4 : Value} {s0 : Nat} {s1 : Int32} {h : AHp} : Rf d 154 22 [a0, a1, a2, a3, a4] [.ref s0, .int s1] h = if cls (h.1 s0) = 12 ∧ oKr (h.1 s0) 0 = true then Rf d 154 25 [a0, a1, a2, a3, a4] [.ref (oR (h.1 s0) 0), .int s1] h else Rx d 154 22 [a0, a1, a2, a3, a4] [.ref s0, .int s1] h := getR c154_22
theorem c154_25 : cd 154 25 = some (25, .bipush 20, 2, []) := by decide +kernel
theorem x154_25 {d : Nat} {a0 a1 a2 a3 a4 : Value} {s0 : Nat} {s1 : Int32} {h : AHp} : Rf d 154 25 [a0, a1, a2, a3, a4] [.ref s0, .int s1] h = Rf d 154 27 [a0, a1, a2, a3, a4] [.int 20, .ref s0, .int s1] h := Rf_go ((stp_of c154_25).trans rfl)
theorem c154_27 : cd 154 27 = some (27, .iload 4, 2, []) := by decide +kernel
theorem x154_27 {d : Nat} {a0 a1 a2 a3 : Value} {s0 : Int32} {s1 : Nat} {s2 : Int32} {x : Int32} {h : AHp} : Rf d 154 27 [a0, a1, a2, a3, .int x] [.int s0, .ref s1, .int s2] h = Rf d 154 29 [a0, a1, a2, a3, .int x] [.int x, .int s0, .ref s1, .int s2] h := Rf_go ((stp_of c154_27).trans rfl)
theorem c154_29 : cd 154 29 = some (29, .iadd, 1, []) := by decide +kernel
theorem x154_29 {d : Nat} {a0 a1 a2 a3 a4 : Value} {s0 : Int32} {s1 : Int32} {s2 : Nat} {s3 : Int32} {h : AHp} : Rf d 154 29 [a0, a1, a2, a3, a4] [.int s0, .int s1, .ref s2, .int s3] h = Rf d 154 30 [a0, a1, a2, a3, a4] [.int (s1 + s0), .ref s2, .int s3] h := Rf_go ((stp_of c154_29).trans rfl)
theorem c154_30 : cd 154 30 = some (30, .iaload, 1, []) := by decide +kernel
theorem x154_30 {d : Nat} {a0 a1 a2 a3 a4 : Value} {s0 : Int32} {s1 : Nat} {s2 : Int32} {h : AHp} : Rf d 154 30 [a0, a1, a2, a3, a4] [.int s0, .ref s1, .int s2] h = if (aT (h.1 s1) = 0 ∨ aT (h.1 s1) = 10) ∧ inB s0 (aN (h.1 s1)) = true then Rf d 154 31 [a0, a1, a2, a3, a4] [.int (aF (h.1 s1) s0.toNatClampNeg), .int s2] h else Rx d 154 30 [a0, a1, a2, a3, a4] [.int s0, .ref s1, .int s2] h := ldI c154_30
theorem c154_31 : cd 154 31 = some (31, .iadd, 1, []) := by decide +kernel
theorem x154_31 {d : Nat} {a0 a1 a2 a3 a4 : Value} {s0 : Int32} {s1 : Int32} {h : AHp} : Rf d 154 31 [a0, a1, a2, a3, a4] [.int s0, .int s1] h = Rf d 154 32 [a0, a1, a2, a3, a4] [.int (s1 + s0)] h := Rf_go ((stp_of c154_31).trans rfl)
theorem c154_32 : cd 154 32 = some (32, .istore_n 3, 1, []) := by decide +kernel
theorem x154_32 {d : Nat} {a0 a1 a2 a3 a4 : Value} {s0 : Int32} {h : AHp} : Rf d 154 32 [a0, a1, a2, a3, a4] [.int s0] h = Rf d 154 33 [a0, a1, a2, .int s0, a4] [] h := Rf_go ((stp_of c154_32).trans rfl)
theorem c154_33 : cd 154 33 = some (33, .aload_n 0, 1, []) := by decide +kernel
theorem x154_33 {d : Nat} {a1 a2 a3 a4 : Value} {x : Nat} {h : AHp} : Rf d 154 33 [.ref x, a1, a2, a3, a4] [] h = Rf d 154 34 [.ref x, a1, a2, a3, a4] [.ref x] h := Rf_go ((stp_of c154_33).trans rfl)
theorem c154_34 : cd 154 34 = some (34, .getfield 9, 3, [(12, 0)]) := by decide +kernel
theorem x154_34 {d : Nat} {a0 a1 a2 a3 a4 : Value} {s0 : Nat} {h : AHp} : Rf d 154 34 [a0, a1, a2, a3, a4] [.ref s0] h = if cls (h.1 s0) = 12 ∧ oKr (h.1 s0) 0 = true then Rf d 154 37 [a0, a1, a2, a3, a4] [.ref (oR (h.1 s0) 0)] h else Rx d 154 34 [a0, a1, a2, a3, a4] [.ref s0] h := getR c154_34
theorem c154_37 : cd 154 37 = some (37, .bipush 40, 2, []) := by decide +kernel
theorem x154_37 {d : Nat} {a0 a1 a2 a3 a4 : Value} {s0 : Nat} {h : AHp} : Rf d 154 37 [a0, a1, a2, a3, a4] [.ref s0] h = Rf d 154 39 [a0, a1, a2, a3, a4] [.int 40, .ref s0] h := Rf_go ((stp_of c154_37).trans rfl)
theorem c154_39 : cd 154 39 = some (39, .iload 4, 2, []) := by decide +kernel
theorem x154_39 {d : Nat} {a0 a1 a2 a3 : Value} {s0 : Int32} {s1 : Nat} {x : Int32} {h : AHp} : Rf d 154 39 [a0, a1, a2, a3, .int x] [.int s0, .ref s1] h = Rf d 154 41 [a0, a1, a2, a3, .int x] [.int x, .int s0, .ref s1] h := Rf_go ((stp_of c154_39).trans rfl)
theorem c154_41 : cd 154 41 = some (41, .iadd, 1, []) := by decide +kernel
theorem x154_41 {d : Nat} {a0 a1 a2 a3 a4 : Value} {s0 : Int32} {s1 : Int32} {s2 : Nat} {h : AHp} : Rf d 154 41 [a0, a1, a2, a3, a4] [.int s0, .int s1, .ref s2] h = Rf d 154 42 [a0, a1, a2, a3, a4] [.int (s1 + s0), .ref s2] h := Rf_go ((stp_of c154_41).trans rfl)
theorem c154_42 : cd 154 42 = some (42, .iaload, 1, []) := by decide +kernel
theorem x154_42 {d : Nat} {a0 a1 a2 a3 a4 : Value} {s0 : Int32} {s1 : Nat} {h : AHp} : Rf d 154 42 [a0, a1, a2, a3, a4] [.int s0, .ref s1] h = if (aT (h.1 s1) = 0 ∨ aT (h.1 s1) = 10) ∧ inB s0 (aN (h.1 s1)) = true then Rf d 154 43 [a0, a1, a2, a3, a4] [.int (aF (h.1 s1) s0.toNatClampNeg)] h else Rx d 154 42 [a0, a1, a2, a3, a4] [.int s0, .ref s1] h := ldI c154_42
theorem c154_43 : cd 154 43 = some (43, .ifCond .eq 6, 3, [(49, 0)]) := by decide +kernel
theorem x154_43 {d : Nat} {a0 a1 a2 a3 a4 : Value} {s0 : Int32} {h : AHp} : Rf d 154 43 [a0, a1, a2, a3, a4] [.int s0] h = if s0 = 0 then Rf d 154 49 [a0, a1, a2, a3, a4] [] h else Rf d 154 46 [a0, a1, a2, a3, a4] [] h := Rf_brd ((stp_of c154_43).trans rfl)
theorem c154_49 : cd 154 49 = some (49, .iinc 1 1, 3, []) := by decide +kernel
theorem x154_49 {d : Nat} {a0 a2 a3 a4 : Value} {x : Int32} {h : AHp} : Rf d 154 49 [a0, .int x, a2, a3, a4] [] h = Rf d 154 52 [a0, .int (x + 1), a2, a3, a4] [] h := Rf_go ((stp_of c154_49).trans rfl)
theorem c154_52 : cd 154 52 = some (52, .iload_n 2, 1, []) := by decide +kernel
theorem x154_52 {d : Nat} {a0 a1 a3 a4 : Value} {x : Int32} {h : AHp} : Rf d 154 52 [a0, a1, .int x, a3, a4] [] h = Rf d 154 53 [a0, a1, .int x, a3, a4] [.int x] h := Rf_go ((stp_of c154_52).trans rfl)
theorem c154_53 : cd 154 53 = some (53, .aload_n 0, 1, []) := by decide +kernel
theorem x154_53 {d : Nat} {a1 a2 a3 a4 : Value} {s0 : Int32} {x : Nat} {h : AHp} : Rf d 154 53 [.ref x, a1, a2, a3, a4] [.int s0] h = Rf d 154 54 [.ref x, a1, a2, a3, a4] [.ref x, .int s0] h := Rf_go ((stp_of c154_53).trans rfl)
theorem c154_54 : cd 154 54 = some (54, .getfield 9, 3, [(12, 0)]) := by decide +kernel
theorem x154_54 {d : Nat} {a0 a1 a2 a3 a4 : Value} {s0 : Nat} {s1 : Int32} {h : AHp} : Rf d 154 54 [a0, a1, a2, a3, a4] [.ref s0, .int s1] h = if cls (h.1 s0) = 12 ∧ oKr (h.1 s0) 0 = true then Rf d 154 57 [a0, a1, a2, a3, a4] [.ref (oR (h.1 s0) 0), .int s1] h else Rx d 154 54 [a0, a1, a2, a3, a4] [.ref s0, .int s1] h := getR c154_54
theorem c154_57 : cd 154 57 = some (57, .bipush 20, 2, []) := by decide +kernel
theorem x154_57 {d : Nat} {a0 a1 a2 a3 a4 : Value} {s0 : Nat} {s1 : Int32} {h : AHp} : Rf d 154 57 [a0, a1, a2, a3, a4] [.ref s0, .int s1] h = Rf d 154 59 [a0, a1, a2, a3, a4] [.int 20, .ref s0, .int s1] h := Rf_go ((stp_of c154_57).trans rfl)
theorem c154_59 : cd 154 59 = some (59, .iload 4, 2, []) := by decide +kernel
theorem x154_59 {d : Nat} {a0 a1 a2 a3 : Value} {s0 : Int32} {s1 : Nat} {s2 : Int32} {x : Int32} {h : AHp} : Rf d 154 59 [a0, a1, a2, a3, .int x] [.int s0, .ref s1, .int s2] h = Rf d 154 61 [a0, a1, a2, a3, .int x] [.int x, .int s0, .ref s1, .int s2] h := Rf_go ((stp_of c154_59).trans rfl)
theorem c154_61 : cd 154 61 = some (61, .iadd, 1, []) := by decide +kernel
theorem x154_61 {d : Nat} {a0 a1 a2 a3 a4 : Value} {s0 : Int32} {s1 : Int32} {s2 : Nat} {s3 : Int32} {h : AHp} : Rf d 154 61 [a0, a1, a2, a3, a4] [.int s0, .int s1, .ref s2, .int s3] h = Rf d 154 62 [a0, a1, a2, a3, a4] [.int (s1 + s0), .ref s2, .int s3] h := Rf_go ((stp_of c154_61).trans rfl)
theorem c154_62 : cd 154 62 = some (62, .iaload, 1, []) := by decide +kernel
theorem x154_62 {d : Nat} {a0 a1 a2 a3 a4 : Value} {s0 : Int32} {s1 : Nat} {s2 : Int32} {h : AHp} : Rf d 154 62 [a0, a1, a2, a3, a4] [.int s0, .ref s1, .int s2] h = if (aT (h.1 s1) = 0 ∨ aT (h.1 s1) = 10) ∧ inB s0 (aN (h.1 s1)) = true then Rf d 154 63 [a0, a1, a2, a3, a4] [.int (aF (h.1 s1) s0.toNatClampNeg), .int s2] h else Rx d 154 62 [a0, a1, a2, a3, a4] [.int s0, .ref s1, .int s2] h := ldI c154_62
theorem c154_63 : cd 154 63 = some (63, .iadd, 1, []) := by decide +kernel
theorem x154_63 {d : Nat} {a0 a1 a2 a3 a4 : Value} {s0 : Int32} {s1 : Int32} {h : AHp} : Rf d 154 63 [a0, a1, a2, a3, a4] [.int s0, .int s1] h = Rf d 154 64 [a0, a1, a2, a3, a4] [.int (s1 + s0)] h := Rf_go ((stp_of c154_63).trans rfl)
theorem c154_64 : cd 154 64 = some (64, .istore_n 2, 1, []) := by decide +kernel
theorem x154_64 {d : Nat} {a0 a1 a2 a3 a4 : Value} {s0 : Int32} {h : AHp} : Rf d 154 64 [a0, a1, a2, a3, a4] [.int s0] h = Rf d 154 65 [a0, a1, .int s0, a3, a4] [] h := Rf_go ((stp_of c154_64).trans rfl)
theorem c154_65 : cd 154 65 = some (65, .iinc 4 1, 3, []) := by decide +kernel
theorem x154_65 {d : Nat} {a0 a1 a2 a3 : Value} {x : Int32} {h : AHp} : Rf d 154 65 [a0, a1, a2, a3, .int x] [] h = Rf d 154 68 [a0, a1, a2, a3, .int (x + 1)] [] h := Rf_go ((stp_of c154_65).trans rfl)
theorem c154_68 : cd 154 68 = some (68, .goto (-59), 3, [(9, 0)]) := by decide +kernel
theorem x154_68 {d : Nat} {a0 a1 a2 a3 a4 : Value} {h : AHp} : Rf d 154 68 [a0, a1, a2, a3, a4] [] h = Rf d 154 9 [a0, a1, a2, a3, a4] [] h := Rf_go ((stp_of c154_68).trans rfl)
theorem c154_46 : cd 154 46 = some (46, .goto 19, 3, [(65, 0)]) := by decide +kernel
theorem x154_46 {d : Nat} {a0 a1 a2 a3 a4 : Value} {h : AHp} : Rf d 154 46 [a0, a1, a2, a3, a4] [] h = Rf d 154 65 [a0, a1, a2, a3, a4] [] h := Rf_go ((stp_of c154_46).trans rfl)
-- 155: X12_pays
theorem c155_0 : cd 155 0 = some (0, .iconst 0, 1, []) := by decide +kernel
theorem x155_0 {d : Nat} {a0 a1 a2 : Value} {h : AHp} : Rf d 155 0 [a0, a1, a2] [] h = Rf d 155 1 [a0, a1, a2] [.int 0] h := Rf_go ((stp_of c155_0).trans rfl)
theorem c155_1 : cd 155 1 = some (1, .istore_n 1, 1, []) := by decide +kernel
theorem x155_1 {d : Nat} {a0 a1 a2 : Value} {s0 : Int32} {h : AHp} : Rf d 155 1 [a0, a1, a2] [.int s0] h = Rf d 155 2 [a0, .int s0, a2] [] h := Rf_go ((stp_of c155_1).trans rfl)
theorem c155_2 : cd 155 2 = some (2, .iconst 0, 1, []) := by decide +kernel
theorem x155_2 {d : Nat} {a0 a1 a2 : Value} {h : AHp} : Rf d 155 2 [a0, a1, a2] [] h = Rf d 155 3 [a0, a1, a2] [.int 0] h := Rf_go ((stp_of c155_2).trans rfl)
theorem c155_3 : cd 155 3 = some (3, .istore_n 2, 1, []) := by decide +kernel
theorem x155_3 {d : Nat} {a0 a1 a2 : Value} {s0 : Int32} {h : AHp} : Rf d 155 3 [a0, a1, a2] [.int s0] h = Rf d 155 4 [a0, a1, .int s0] [] h := Rf_go ((stp_of c155_3).trans rfl)
theorem c155_4 : cd 155 4 = some (4, .iload_n 2, 1, []) := by decide +kernel
theorem x155_4 {d : Nat} {a0 a1 : Value} {x : Int32} {h : AHp} : Rf d 155 4 [a0, a1, .int x] [] h = Rf d 155 5 [a0, a1, .int x] [.int x] h := Rf_go ((stp_of c155_4).trans rfl)
theorem c155_5 : cd 155 5 = some (5, .aload_n 0, 1, []) := by decide +kernel
theorem x155_5 {d : Nat} {a1 a2 : Value} {s0 : Int32} {x : Nat} {h : AHp} : Rf d 155 5 [.ref x, a1, a2] [.int s0] h = Rf d 155 6 [.ref x, a1, a2] [.ref x, .int s0] h := Rf_go ((stp_of c155_5).trans rfl)
theorem c155_6 : cd 155 6 = some (6, .getfield 9, 3, [(12, 0)]) := by decide +kernel
theorem x155_6 {d : Nat} {a0 a1 a2 : Value} {s0 : Nat} {s1 : Int32} {h : AHp} : Rf d 155 6 [a0, a1, a2] [.ref s0, .int s1] h = if cls (h.1 s0) = 12 ∧ oKr (h.1 s0) 0 = true then Rf d 155 9 [a0, a1, a2] [.ref (oR (h.1 s0) 0), .int s1] h else Rx d 155 6 [a0, a1, a2] [.ref s0, .int s1] h := getR c155_6
theorem c155_9 : cd 155 9 = some (9, .iconst 0, 1, []) := by decide +kernel
theorem x155_9 {d : Nat} {a0 a1 a2 : Value} {s0 : Nat} {s1 : Int32} {h : AHp} : Rf d 155 9 [a0, a1, a2] [.ref s0, .int s1] h = Rf d 155 10 [a0, a1, a2] [.int 0, .ref s0, .int s1] h := Rf_go ((stp_of c155_9).trans rfl)
theorem c155_10 : cd 155 10 = some (10, .iaload, 1, []) := by decide +kernel
theorem x155_10 {d : Nat} {a0 a1 a2 : Value} {s0 : Int32} {s1 : Nat} {s2 : Int32} {h : AHp} : Rf d 155 10 [a0, a1, a2] [.int s0, .ref s1, .int s2] h = if (aT (h.1 s1) = 0 ∨ aT (h.1 s1) = 10) ∧ inB s0 (aN (h.1 s1)) = true then Rf d 155 11 [a0, a1, a2] [.int (aF (h.1 s1) s0.toNatClampNeg), .int s2] h else Rx d 155 10 [a0, a1, a2] [.int s0, .ref s1, .int s2] h := ldI c155_10
theorem c155_11 : cd 155 11 = some (11, .if_icmp .ge 21, 3, [(32, 0)]) := by decide +kernel
theorem x155_11 {d : Nat} {a0 a1 a2 : Value} {s0 : Int32} {s1 : Int32} {h : AHp} : Rf d 155 11 [a0, a1, a2] [.int s0, .int s1] h = if s1 < s0 then Rf d 155 14 [a0, a1, a2] [] h else Rf d 155 32 [a0, a1, a2] [] h := Rf_brn ((stp_of c155_11).trans rfl)
theorem c155_32 : cd 155 32 = some (32, .iload_n 1, 1, []) := by decide +kernel
theorem x155_32 {d : Nat} {a0 a2 : Value} {x : Int32} {h : AHp} : Rf d 155 32 [a0, .int x, a2] [] h = Rf d 155 33 [a0, .int x, a2] [.int x] h := Rf_go ((stp_of c155_32).trans rfl)
theorem c155_33 : cd 155 33 = some (33, .ireturn, 1, []) := by decide +kernel
theorem x155_33 {d : Nat} {a0 a1 a2 : Value} {s0 : Int32} {h : AHp} : Rf d 155 33 [a0, a1, a2] [.int s0] h = some (some (.int s0), h) := Rf_end (by rw [stp_of c155_33]; simp only [stpI]; rw [if_pos (show retI (mH 155).2.2.1 s0 = true from retI_int)])
theorem c155_14 : cd 155 14 = some (14, .iload_n 1, 1, []) := by decide +kernel
theorem x155_14 {d : Nat} {a0 a2 : Value} {x : Int32} {h : AHp} : Rf d 155 14 [a0, .int x, a2] [] h = Rf d 155 15 [a0, .int x, a2] [.int x] h := Rf_go ((stp_of c155_14).trans rfl)
theorem c155_15 : cd 155 15 = some (15, .aload_n 0, 1, []) := by decide +kernel
theorem x155_15 {d : Nat} {a1 a2 : Value} {s0 : Int32} {x : Nat} {h : AHp} : Rf d 155 15 [.ref x, a1, a2] [.int s0] h = Rf d 155 16 [.ref x, a1, a2] [.ref x, .int s0] h := Rf_go ((stp_of c155_15).trans rfl)
theorem c155_16 : cd 155 16 = some (16, .getfield 9, 3, [(12, 0)]) := by decide +kernel
theorem x155_16 {d : Nat} {a0 a1 a2 : Value} {s0 : Nat} {s1 : Int32} {h : AHp} : Rf d 155 16 [a0, a1, a2] [.ref s0, .int s1] h = if cls (h.1 s0) = 12 ∧ oKr (h.1 s0) 0 = true then Rf d 155 19 [a0, a1, a2] [.ref (oR (h.1 s0) 0), .int s1] h else Rx d 155 16 [a0, a1, a2] [.ref s0, .int s1] h := getR c155_16
theorem c155_19 : cd 155 19 = some (19, .bipush 20, 2, []) := by decide +kernel
theorem x155_19 {d : Nat} {a0 a1 a2 : Value} {s0 : Nat} {s1 : Int32} {h : AHp} : Rf d 155 19 [a0, a1, a2] [.ref s0, .int s1] h = Rf d 155 21 [a0, a1, a2] [.int 20, .ref s0, .int s1] h := Rf_go ((stp_of c155_19).trans rfl)
theorem c155_21 : cd 155 21 = some (21, .iload_n 2, 1, []) := by decide +kernel
theorem x155_21 {d : Nat} {a0 a1 : Value} {s0 : Int32} {s1 : Nat} {s2 : Int32} {x : Int32} {h : AHp} : Rf d 155 21 [a0, a1, .int x] [.int s0, .ref s1, .int s2] h = Rf d 155 22 [a0, a1, .int x] [.int x, .int s0, .ref s1, .int s2] h := Rf_go ((stp_of c155_21).trans rfl)
theorem c155_22 : cd 155 22 = some (22, .iadd, 1, []) := by decide +kernel
theorem x155_22 {d : Nat} {a0 a1 a2 : Value} {s0 : Int32} {s1 : Int32} {s2 : Nat} {s3 : Int32} {h : AHp} : Rf d 155 22 [a0, a1, a2] [.int s0, .int s1, .ref s2, .int s3] h = Rf d 155 23 [a0, a1, a2] [.int (s1 + s0), .ref s2, .int s3] h := Rf_go ((stp_of c155_22).trans rfl)
theorem c155_23 : cd 155 23 = some (23, .iaload, 1, []) := by decide +kernel
theorem x155_23 {d : Nat} {a0 a1 a2 : Value} {s0 : Int32} {s1 : Nat} {s2 : Int32} {h : AHp} : Rf d 155 23 [a0, a1, a2] [.int s0, .ref s1, .int s2] h = if (aT (h.1 s1) = 0 ∨ aT (h.1 s1) = 10) ∧ inB s0 (aN (h.1 s1)) = true then Rf d 155 24 [a0, a1, a2] [.int (aF (h.1 s1) s0.toNatClampNeg), .int s2] h else Rx d 155 23 [a0, a1, a2] [.int s0, .ref s1, .int s2] h := ldI c155_23
theorem c155_24 : cd 155 24 = some (24, .iadd, 1, []) := by decide +kernel
theorem x155_24 {d : Nat} {a0 a1 a2 : Value} {s0 : Int32} {s1 : Int32} {h : AHp} : Rf d 155 24 [a0, a1, a2] [.int s0, .int s1] h = Rf d 155 25 [a0, a1, a2] [.int (s1 + s0)] h := Rf_go ((stp_of c155_24).trans rfl)
theorem c155_25 : cd 155 25 = some (25, .istore_n 1, 1, []) := by decide +kernel
theorem x155_25 {d : Nat} {a0 a1 a2 : Value} {s0 : Int32} {h : AHp} : Rf d 155 25 [a0, a1, a2] [.int s0] h = Rf d 155 26 [a0, .int s0, a2] [] h := Rf_go ((stp_of c155_25).trans rfl)
theorem c155_26 : cd 155 26 = some (26, .iinc 2 1, 3, []) := by decide +kernel
theorem x155_26 {d : Nat} {a0 a1 : Value} {x : Int32} {h : AHp} : Rf d 155 26 [a0, a1, .int x] [] h = Rf d 155 29 [a0, a1, .int (x + 1)] [] h := Rf_go ((stp_of c155_26).trans rfl)
theorem c155_29 : cd 155 29 = some (29, .goto (-25), 3, [(4, 0)]) := by decide +kernel
theorem x155_29 {d : Nat} {a0 a1 a2 : Value} {h : AHp} : Rf d 155 29 [a0, a1, a2] [] h = Rf d 155 4 [a0, a1, a2] [] h := Rf_go ((stp_of c155_29).trans rfl)
-- 156: X12_told
theorem c156_0 : cd 156 0 = some (0, .iload_n 1, 1, []) := by decide +kernel
theorem x156_0 {d : Nat} {a0 : Value} {x : Int32} {h : AHp} : Rf d 156 0 [a0, .int x] [] h = Rf d 156 1 [a0, .int x] [.int x] h := Rf_go ((stp_of c156_0).trans rfl)
theorem c156_1 : cd 156 1 = some (1, .tableswitch 74 0 5 #[39, 44, 49, 56, 64, 69], 39, [(0, 75), (0, 40), (1, 45), (2, 50), (3, 57), (4, 65), (5, 70)]) := by decide +kernel
theorem x156_1 {d : Nat} {a0 a1 : Value} {s0 : Int32} {h : AHp} : Rf d 156 1 [a0, a1] [.int s0] h = if s0 = 0 then Rf d 156 40 [a0, a1] [] h else (if s0 = 1 then Rf d 156 45 [a0, a1] [] h else (if s0 = 2 then Rf d 156 50 [a0, a1] [] h else (if s0 = 3 then Rf d 156 57 [a0, a1] [] h else (if s0 = 4 then Rf d 156 65 [a0, a1] [] h else (if s0 = 5 then Rf d 156 70 [a0, a1] [] h else (Rf d 156 75 [a0, a1] [] h)))))) := (swE (e := 75) c156_1 rfl).trans (by simp only [List.drop, swT, Rf_ite]; rfl)
theorem c156_70 : cd 156 70 = some (70, .aload_n 0, 1, []) := by decide +kernel
theorem x156_70 {d : Nat} {a1 : Value} {x : Nat} {h : AHp} : Rf d 156 70 [.ref x, a1] [] h = Rf d 156 71 [.ref x, a1] [.ref x] h := Rf_go ((stp_of c156_70).trans rfl)
theorem c156_71 : cd 156 71 = some (71, .invokevirtual 133, 3, [(12, 155)]) := by decide +kernel
theorem xc156_71 {d : Nat} {a0 a1 : Value} {s0 : Nat} {h : AHp} {h1 : AHp} {v : Int32} (hr : cls (h.1 s0) = 12) (hq : Rf d 155 0 [.ref s0, noV, noV] [] h = some (some (.int v), h1)) : Rf (d + 1) 156 71 [a0, a1] [.ref s0] h = Rf (d + 1) 156 74 [a0, a1] [.int v] h1 := clV (c := 155) (as := []) c156_71 rfl (by simp [isV]) (by rw [hr]; rfl) hq
theorem c156_74 : cd 156 74 = some (74, .ireturn, 1, []) := by decide +kernel
theorem x156_74 {d : Nat} {a0 a1 : Value} {s0 : Int32} {h : AHp} : Rf d 156 74 [a0, a1] [.int s0] h = some (some (.int s0), h) := Rf_end (by rw [stp_of c156_74]; simp only [stpI]; rw [if_pos (show retI (mH 156).2.2.1 s0 = true from retI_int)])
theorem c156_65 : cd 156 65 = some (65, .aload_n 0, 1, []) := by decide +kernel
theorem x156_65 {d : Nat} {a1 : Value} {x : Nat} {h : AHp} : Rf d 156 65 [.ref x, a1] [] h = Rf d 156 66 [.ref x, a1] [.ref x] h := Rf_go ((stp_of c156_65).trans rfl)
theorem c156_66 : cd 156 66 = some (66, .invokevirtual 130, 3, [(12, 154)]) := by decide +kernel
theorem xc156_66 {d : Nat} {a0 a1 : Value} {s0 : Nat} {h : AHp} {h1 : AHp} {v : Int32} (hr : cls (h.1 s0) = 12) (hq : Rf d 154 0 [.ref s0, noV, noV, noV, noV] [] h = some (some (.int v), h1)) : Rf (d + 1) 156 66 [a0, a1] [.ref s0] h = Rf (d + 1) 156 69 [a0, a1] [.int v] h1 := clV (c := 154) (as := []) c156_66 rfl (by simp [isV]) (by rw [hr]; rfl) hq
theorem c156_69 : cd 156 69 = some (69, .ireturn, 1, []) := by decide +kernel
theorem x156_69 {d : Nat} {a0 a1 : Value} {s0 : Int32} {h : AHp} : Rf d 156 69 [a0, a1] [.int s0] h = some (some (.int s0), h) := Rf_end (by rw [stp_of c156_69]; simp only [stpI]; rw [if_pos (show retI (mH 156).2.2.1 s0 = true from retI_int)])
theorem c156_57 : cd 156 57 = some (57, .aload_n 0, 1, []) := by decide +kernel
theorem x156_57 {d : Nat} {a1 : Value} {x : Nat} {h : AHp} : Rf d 156 57 [.ref x, a1] [] h = Rf d 156 58 [.ref x, a1] [.ref x] h := Rf_go ((stp_of c156_57).trans rfl)
theorem c156_58 : cd 156 58 = some (58, .getfield 9, 3, [(12, 0)]) := by decide +kernel
theorem x156_58 {d : Nat} {a0 a1 : Value} {s0 : Nat} {h : AHp} : Rf d 156 58 [a0, a1] [.ref s0] h = if cls (h.1 s0) = 12 ∧ oKr (h.1 s0) 0 = true then Rf d 156 61 [a0, a1] [.ref (oR (h.1 s0) 0)] h else Rx d 156 58 [a0, a1] [.ref s0] h := getR c156_58
theorem c156_61 : cd 156 61 = some (61, .bipush 6, 2, []) := by decide +kernel
theorem x156_61 {d : Nat} {a0 a1 : Value} {s0 : Nat} {h : AHp} : Rf d 156 61 [a0, a1] [.ref s0] h = Rf d 156 63 [a0, a1] [.int 6, .ref s0] h := Rf_go ((stp_of c156_61).trans rfl)
theorem c156_63 : cd 156 63 = some (63, .iaload, 1, []) := by decide +kernel
theorem x156_63 {d : Nat} {a0 a1 : Value} {s0 : Int32} {s1 : Nat} {h : AHp} : Rf d 156 63 [a0, a1] [.int s0, .ref s1] h = if (aT (h.1 s1) = 0 ∨ aT (h.1 s1) = 10) ∧ inB s0 (aN (h.1 s1)) = true then Rf d 156 64 [a0, a1] [.int (aF (h.1 s1) s0.toNatClampNeg)] h else Rx d 156 63 [a0, a1] [.int s0, .ref s1] h := ldI c156_63
theorem c156_64 : cd 156 64 = some (64, .ireturn, 1, []) := by decide +kernel
theorem x156_64 {d : Nat} {a0 a1 : Value} {s0 : Int32} {h : AHp} : Rf d 156 64 [a0, a1] [.int s0] h = some (some (.int s0), h) := Rf_end (by rw [stp_of c156_64]; simp only [stpI]; rw [if_pos (show retI (mH 156).2.2.1 s0 = true from retI_int)])
theorem c156_50 : cd 156 50 = some (50, .aload_n 0, 1, []) := by decide +kernel
theorem x156_50 {d : Nat} {a1 : Value} {x : Nat} {h : AHp} : Rf d 156 50 [.ref x, a1] [] h = Rf d 156 51 [.ref x, a1] [.ref x] h := Rf_go ((stp_of c156_50).trans rfl)
theorem c156_51 : cd 156 51 = some (51, .getfield 9, 3, [(12, 0)]) := by decide +kernel
theorem x156_51 {d : Nat} {a0 a1 : Value} {s0 : Nat} {h : AHp} : Rf d 156 51 [a0, a1] [.ref s0] h = if cls (h.1 s0) = 12 ∧ oKr (h.1 s0) 0 = true then Rf d 156 54 [a0, a1] [.ref (oR (h.1 s0) 0)] h else Rx d 156 51 [a0, a1] [.ref s0] h := getR c156_51
theorem c156_54 : cd 156 54 = some (54, .iconst 5, 1, []) := by decide +kernel
theorem x156_54 {d : Nat} {a0 a1 : Value} {s0 : Nat} {h : AHp} : Rf d 156 54 [a0, a1] [.ref s0] h = Rf d 156 55 [a0, a1] [.int 5, .ref s0] h := Rf_go ((stp_of c156_54).trans rfl)
theorem c156_55 : cd 156 55 = some (55, .iaload, 1, []) := by decide +kernel
theorem x156_55 {d : Nat} {a0 a1 : Value} {s0 : Int32} {s1 : Nat} {h : AHp} : Rf d 156 55 [a0, a1] [.int s0, .ref s1] h = if (aT (h.1 s1) = 0 ∨ aT (h.1 s1) = 10) ∧ inB s0 (aN (h.1 s1)) = true then Rf d 156 56 [a0, a1] [.int (aF (h.1 s1) s0.toNatClampNeg)] h else Rx d 156 55 [a0, a1] [.int s0, .ref s1] h := ldI c156_55
theorem c156_56 : cd 156 56 = some (56, .ireturn, 1, []) := by decide +kernel
theorem x156_56 {d : Nat} {a0 a1 : Value} {s0 : Int32} {h : AHp} : Rf d 156 56 [a0, a1] [.int s0] h = some (some (.int s0), h) := Rf_end (by rw [stp_of c156_56]; simp only [stpI]; rw [if_pos (show retI (mH 156).2.2.1 s0 = true from retI_int)])
theorem c156_45 : cd 156 45 = some (45, .aload_n 0, 1, []) := by decide +kernel
theorem x156_45 {d : Nat} {a1 : Value} {x : Nat} {h : AHp} : Rf d 156 45 [.ref x, a1] [] h = Rf d 156 46 [.ref x, a1] [.ref x] h := Rf_go ((stp_of c156_45).trans rfl)
theorem c156_46 : cd 156 46 = some (46, .invokevirtual 127, 3, [(12, 153)]) := by decide +kernel
theorem xc156_46 {d : Nat} {a0 a1 : Value} {s0 : Nat} {h : AHp} {h1 : AHp} {v : Int32} (hr : cls (h.1 s0) = 12) (hq : Rf d 153 0 [.ref s0] [] h = some (some (.int v), h1)) : Rf (d + 1) 156 46 [a0, a1] [.ref s0] h = Rf (d + 1) 156 49 [a0, a1] [.int v] h1 := clV (c := 153) (as := []) c156_46 rfl (by simp [isV]) (by rw [hr]; rfl) hq
theorem c156_49 : cd 156 49 = some (49, .ireturn, 1, []) := by decide +kernel
theorem x156_49 {d : Nat} {a0 a1 : Value} {s0 : Int32} {h : AHp} : Rf d 156 49 [a0, a1] [.int s0] h = some (some (.int s0), h) := Rf_end (by rw [stp_of c156_49]; simp only [stpI]; rw [if_pos (show retI (mH 156).2.2.1 s0 = true from retI_int)])
theorem c156_40 : cd 156 40 = some (40, .aload_n 0, 1, []) := by decide +kernel
theorem x156_40 {d : Nat} {a1 : Value} {x : Nat} {h : AHp} : Rf d 156 40 [.ref x, a1] [] h = Rf d 156 41 [.ref x, a1] [.ref x] h := Rf_go ((stp_of c156_40).trans rfl)
theorem c156_41 : cd 156 41 = some (41, .invokevirtual 124, 3, [(12, 152)]) := by decide +kernel
theorem xc156_41 {d : Nat} {a0 a1 : Value} {s0 : Nat} {h : AHp} {h1 : AHp} {v : Int32} (hr : cls (h.1 s0) = 12) (hq : Rf d 152 0 [.ref s0] [] h = some (some (.int v), h1)) : Rf (d + 1) 156 41 [a0, a1] [.ref s0] h = Rf (d + 1) 156 44 [a0, a1] [.int v] h1 := clV (c := 152) (as := []) c156_41 rfl (by simp [isV]) (by rw [hr]; rfl) hq
theorem c156_44 : cd 156 44 = some (44, .ireturn, 1, []) := by decide +kernel
theorem x156_44 {d : Nat} {a0 a1 : Value} {s0 : Int32} {h : AHp} : Rf d 156 44 [a0, a1] [.int s0] h = some (some (.int s0), h) := Rf_end (by rw [stp_of c156_44]; simp only [stpI]; rw [if_pos (show retI (mH 156).2.2.1 s0 = true from retI_int)])
theorem c156_75 : cd 156 75 = some (75, .sipush (-10001), 3, []) := by decide +kernel
theorem x156_75 {d : Nat} {a0 a1 : Value} {h : AHp} : Rf d 156 75 [a0, a1] [] h = Rf d 156 78 [a0, a1] [.int (-10001)] h := Rf_go ((stp_of c156_75).trans rfl)
theorem c156_78 : cd 156 78 = some (78, .ireturn, 1, []) := by decide +kernel
theorem x156_78 {d : Nat} {a0 a1 : Value} {s0 : Int32} {h : AHp} : Rf d 156 78 [a0, a1] [.int s0] h = some (some (.int s0), h) := Rf_end (by rw [stp_of c156_78]; simp only [stpI]; rw [if_pos (show retI (mH 156).2.2.1 s0 = true from retI_int)])
-- 157: X12_sits
theorem c157_0 : cd 157 0 = some (0, .iconst 0, 1, []) := by decide +kernel
theorem x157_0 {d : Nat} {a0 a1 a2 : Value} {h : AHp} : Rf d 157 0 [a0, a1, a2] [] h = Rf d 157 1 [a0, a1, a2] [.int 0] h := Rf_go ((stp_of c157_0).trans rfl)
theorem c157_1 : cd 157 1 = some (1, .istore_n 2, 1, []) := by decide +kernel
theorem x157_1 {d : Nat} {a0 a1 a2 : Value} {s0 : Int32} {h : AHp} : Rf d 157 1 [a0, a1, a2] [.int s0] h = Rf d 157 2 [a0, a1, .int s0] [] h := Rf_go ((stp_of c157_1).trans rfl)
theorem c157_2 : cd 157 2 = some (2, .iload_n 2, 1, []) := by decide +kernel
theorem x157_2 {d : Nat} {a0 a1 : Value} {x : Int32} {h : AHp} : Rf d 157 2 [a0, a1, .int x] [] h = Rf d 157 3 [a0, a1, .int x] [.int x] h := Rf_go ((stp_of c157_2).trans rfl)
theorem c157_3 : cd 157 3 = some (3, .aload_n 0, 1, []) := by decide +kernel
theorem x157_3 {d : Nat} {a1 a2 : Value} {s0 : Int32} {x : Nat} {h : AHp} : Rf d 157 3 [.ref x, a1, a2] [.int s0] h = Rf d 157 4 [.ref x, a1, a2] [.ref x, .int s0] h := Rf_go ((stp_of c157_3).trans rfl)
theorem c157_4 : cd 157 4 = some (4, .getfield 9, 3, [(12, 0)]) := by decide +kernel
theorem x157_4 {d : Nat} {a0 a1 a2 : Value} {s0 : Nat} {s1 : Int32} {h : AHp} : Rf d 157 4 [a0, a1, a2] [.ref s0, .int s1] h = if cls (h.1 s0) = 12 ∧ oKr (h.1 s0) 0 = true then Rf d 157 7 [a0, a1, a2] [.ref (oR (h.1 s0) 0), .int s1] h else Rx d 157 4 [a0, a1, a2] [.ref s0, .int s1] h := getR c157_4
theorem c157_7 : cd 157 7 = some (7, .iconst 0, 1, []) := by decide +kernel
theorem x157_7 {d : Nat} {a0 a1 a2 : Value} {s0 : Nat} {s1 : Int32} {h : AHp} : Rf d 157 7 [a0, a1, a2] [.ref s0, .int s1] h = Rf d 157 8 [a0, a1, a2] [.int 0, .ref s0, .int s1] h := Rf_go ((stp_of c157_7).trans rfl)
theorem c157_8 : cd 157 8 = some (8, .iaload, 1, []) := by decide +kernel
theorem x157_8 {d : Nat} {a0 a1 a2 : Value} {s0 : Int32} {s1 : Nat} {s2 : Int32} {h : AHp} : Rf d 157 8 [a0, a1, a2] [.int s0, .ref s1, .int s2] h = if (aT (h.1 s1) = 0 ∨ aT (h.1 s1) = 10) ∧ inB s0 (aN (h.1 s1)) = true then Rf d 157 9 [a0, a1, a2] [.int (aF (h.1 s1) s0.toNatClampNeg), .int s2] h else Rx d 157 8 [a0, a1, a2] [.int s0, .ref s1, .int s2] h := ldI c157_8
theorem c157_9 : cd 157 9 = some (9, .if_icmp .ge 24, 3, [(33, 0)]) := by decide +kernel
theorem x157_9 {d : Nat} {a0 a1 a2 : Value} {s0 : Int32} {s1 : Int32} {h : AHp} : Rf d 157 9 [a0, a1, a2] [.int s0, .int s1] h = if s1 < s0 then Rf d 157 12 [a0, a1, a2] [] h else Rf d 157 33 [a0, a1, a2] [] h := Rf_brn ((stp_of c157_9).trans rfl)
theorem c157_33 : cd 157 33 = some (33, .iconst (-1), 1, []) := by decide +kernel
theorem x157_33 {d : Nat} {a0 a1 a2 : Value} {h : AHp} : Rf d 157 33 [a0, a1, a2] [] h = Rf d 157 34 [a0, a1, a2] [.int (-1)] h := Rf_go ((stp_of c157_33).trans rfl)
theorem c157_34 : cd 157 34 = some (34, .ireturn, 1, []) := by decide +kernel
theorem x157_34 {d : Nat} {a0 a1 a2 : Value} {s0 : Int32} {h : AHp} : Rf d 157 34 [a0, a1, a2] [.int s0] h = some (some (.int s0), h) := Rf_end (by rw [stp_of c157_34]; simp only [stpI]; rw [if_pos (show retI (mH 157).2.2.1 s0 = true from retI_int)])
theorem c157_12 : cd 157 12 = some (12, .aload_n 0, 1, []) := by decide +kernel
theorem x157_12 {d : Nat} {a1 a2 : Value} {x : Nat} {h : AHp} : Rf d 157 12 [.ref x, a1, a2] [] h = Rf d 157 13 [.ref x, a1, a2] [.ref x] h := Rf_go ((stp_of c157_12).trans rfl)
theorem c157_13 : cd 157 13 = some (13, .getfield 9, 3, [(12, 0)]) := by decide +kernel
theorem x157_13 {d : Nat} {a0 a1 a2 : Value} {s0 : Nat} {h : AHp} : Rf d 157 13 [a0, a1, a2] [.ref s0] h = if cls (h.1 s0) = 12 ∧ oKr (h.1 s0) 0 = true then Rf d 157 16 [a0, a1, a2] [.ref (oR (h.1 s0) 0)] h else Rx d 157 13 [a0, a1, a2] [.ref s0] h := getR c157_13
theorem c157_16 : cd 157 16 = some (16, .bipush 10, 2, []) := by decide +kernel
theorem x157_16 {d : Nat} {a0 a1 a2 : Value} {s0 : Nat} {h : AHp} : Rf d 157 16 [a0, a1, a2] [.ref s0] h = Rf d 157 18 [a0, a1, a2] [.int 10, .ref s0] h := Rf_go ((stp_of c157_16).trans rfl)
theorem c157_18 : cd 157 18 = some (18, .iload_n 2, 1, []) := by decide +kernel
theorem x157_18 {d : Nat} {a0 a1 : Value} {s0 : Int32} {s1 : Nat} {x : Int32} {h : AHp} : Rf d 157 18 [a0, a1, .int x] [.int s0, .ref s1] h = Rf d 157 19 [a0, a1, .int x] [.int x, .int s0, .ref s1] h := Rf_go ((stp_of c157_18).trans rfl)
theorem c157_19 : cd 157 19 = some (19, .iadd, 1, []) := by decide +kernel
theorem x157_19 {d : Nat} {a0 a1 a2 : Value} {s0 : Int32} {s1 : Int32} {s2 : Nat} {h : AHp} : Rf d 157 19 [a0, a1, a2] [.int s0, .int s1, .ref s2] h = Rf d 157 20 [a0, a1, a2] [.int (s1 + s0), .ref s2] h := Rf_go ((stp_of c157_19).trans rfl)
theorem c157_20 : cd 157 20 = some (20, .iaload, 1, []) := by decide +kernel
theorem x157_20 {d : Nat} {a0 a1 a2 : Value} {s0 : Int32} {s1 : Nat} {h : AHp} : Rf d 157 20 [a0, a1, a2] [.int s0, .ref s1] h = if (aT (h.1 s1) = 0 ∨ aT (h.1 s1) = 10) ∧ inB s0 (aN (h.1 s1)) = true then Rf d 157 21 [a0, a1, a2] [.int (aF (h.1 s1) s0.toNatClampNeg)] h else Rx d 157 20 [a0, a1, a2] [.int s0, .ref s1] h := ldI c157_20
theorem c157_21 : cd 157 21 = some (21, .iload_n 1, 1, []) := by decide +kernel
theorem x157_21 {d : Nat} {a0 a2 : Value} {s0 : Int32} {x : Int32} {h : AHp} : Rf d 157 21 [a0, .int x, a2] [.int s0] h = Rf d 157 22 [a0, .int x, a2] [.int x, .int s0] h := Rf_go ((stp_of c157_21).trans rfl)
theorem c157_22 : cd 157 22 = some (22, .if_icmp .ne 5, 3, [(27, 0)]) := by decide +kernel
theorem x157_22 {d : Nat} {a0 a1 a2 : Value} {s0 : Int32} {s1 : Int32} {h : AHp} : Rf d 157 22 [a0, a1, a2] [.int s0, .int s1] h = if s1 = s0 then Rf d 157 25 [a0, a1, a2] [] h else Rf d 157 27 [a0, a1, a2] [] h := Rf_brn ((stp_of c157_22).trans rfl)
theorem c157_27 : cd 157 27 = some (27, .iinc 2 1, 3, []) := by decide +kernel
theorem x157_27 {d : Nat} {a0 a1 : Value} {x : Int32} {h : AHp} : Rf d 157 27 [a0, a1, .int x] [] h = Rf d 157 30 [a0, a1, .int (x + 1)] [] h := Rf_go ((stp_of c157_27).trans rfl)
theorem c157_30 : cd 157 30 = some (30, .goto (-28), 3, [(2, 0)]) := by decide +kernel
theorem x157_30 {d : Nat} {a0 a1 a2 : Value} {h : AHp} : Rf d 157 30 [a0, a1, a2] [] h = Rf d 157 2 [a0, a1, a2] [] h := Rf_go ((stp_of c157_30).trans rfl)
theorem c157_25 : cd 157 25 = some (25, .iload_n 2, 1, []) := by decide +kernel
theorem x157_25 {d : Nat} {a0 a1 : Value} {x : Int32} {h : AHp} : Rf d 157 25 [a0, a1, .int x] [] h = Rf d 157 26 [a0, a1, .int x] [.int x] h := Rf_go ((stp_of c157_25).trans rfl)
theorem c157_26 : cd 157 26 = some (26, .ireturn, 1, []) := by decide +kernel
theorem x157_26 {d : Nat} {a0 a1 a2 : Value} {s0 : Int32} {h : AHp} : Rf d 157 26 [a0, a1, a2] [.int s0] h = some (some (.int s0), h) := Rf_end (by rw [stp_of c157_26]; simp only [stpI]; rw [if_pos (show retI (mH 157).2.2.1 s0 = true from retI_int)])
-- 158: X12_worker
theorem c158_0 : cd 158 0 = some (0, .iload_n 1, 1, []) := by decide +kernel
theorem x158_0 {d : Nat} {a0 a2 a3 a4 a5 : Value} {x : Int32} {h : AHp} : Rf d 158 0 [a0, .int x, a2, a3, a4, a5] [] h = Rf d 158 1 [a0, .int x, a2, a3, a4, a5] [.int x] h := Rf_go ((stp_of c158_0).trans rfl)
theorem c158_1 : cd 158 1 = some (1, .iconst 0, 1, []) := by decide +kernel
theorem x158_1 {d : Nat} {a0 a1 a2 a3 a4 a5 : Value} {s0 : Int32} {h : AHp} : Rf d 158 1 [a0, a1, a2, a3, a4, a5] [.int s0] h = Rf d 158 2 [a0, a1, a2, a3, a4, a5] [.int 0, .int s0] h := Rf_go ((stp_of c158_1).trans rfl)
theorem c158_2 : cd 158 2 = some (2, .bipush 9, 2, []) := by decide +kernel
theorem x158_2 {d : Nat} {a0 a1 a2 a3 a4 a5 : Value} {s0 : Int32} {s1 : Int32} {h : AHp} : Rf d 158 2 [a0, a1, a2, a3, a4, a5] [.int s0, .int s1] h = Rf d 158 4 [a0, a1, a2, a3, a4, a5] [.int 9, .int s0, .int s1] h := Rf_go ((stp_of c158_2).trans rfl)
theorem c158_4 : cd 158 4 = some (4, .invokestatic 31, 3, [(0, 131)]) := by decide +kernel
theorem xc158_4 {d : Nat} {a0 a1 a2 a3 a4 a5 : Value} {s0 : Int32} {s1 : Int32} {s2 : Int32} {h : AHp} {h1 : AHp} {v : Int32} (hq : Rf d 131 0 [.int s2, .int s1, .int s0] [] h = some (some (.int v), h1)) : Rf (d + 1) 158 4 [a0, a1, a2, a3, a4, a5] [.int s0, .int s1, .int s2] h = Rf (d + 1) 158 7 [a0, a1, a2, a3, a4, a5] [.int v] h1 := clS (as := [.int s2, .int s1, .int s0]) c158_4 rfl rfl (by simp [isV]) hq
theorem c158_7 : cd 158 7 = some (7, .ifCond .eq 13, 3, [(20, 0)]) := by decide +kernel
theorem x158_7 {d : Nat} {a0 a1 a2 a3 a4 a5 : Value} {s0 : Int32} {h : AHp} : Rf d 158 7 [a0, a1, a2, a3, a4, a5] [.int s0] h = if s0 = 0 then Rf d 158 20 [a0, a1, a2, a3, a4, a5] [] h else Rf d 158 10 [a0, a1, a2, a3, a4, a5] [] h := Rf_brd ((stp_of c158_7).trans rfl)
theorem c158_20 : cd 158 20 = some (20, .iconst (-1), 1, []) := by decide +kernel
theorem x158_20 {d : Nat} {a0 a1 a2 a3 a4 a5 : Value} {h : AHp} : Rf d 158 20 [a0, a1, a2, a3, a4, a5] [] h = Rf d 158 21 [a0, a1, a2, a3, a4, a5] [.int (-1)] h := Rf_go ((stp_of c158_20).trans rfl)
theorem c158_21 : cd 158 21 = some (21, .ireturn, 1, []) := by decide +kernel
theorem x158_21 {d : Nat} {a0 a1 a2 a3 a4 a5 : Value} {s0 : Int32} {h : AHp} : Rf d 158 21 [a0, a1, a2, a3, a4, a5] [.int s0] h = some (some (.int s0), h) := Rf_end (by rw [stp_of c158_21]; simp only [stpI]; rw [if_pos (show retI (mH 158).2.2.1 s0 = true from retI_int)])
theorem c158_10 : cd 158 10 = some (10, .iload 4, 2, []) := by decide +kernel
theorem x158_10 {d : Nat} {a0 a1 a2 a3 a5 : Value} {x : Int32} {h : AHp} : Rf d 158 10 [a0, a1, a2, a3, .int x, a5] [] h = Rf d 158 12 [a0, a1, a2, a3, .int x, a5] [.int x] h := Rf_go ((stp_of c158_10).trans rfl)
theorem c158_12 : cd 158 12 = some (12, .iconst 0, 1, []) := by decide +kernel
theorem x158_12 {d : Nat} {a0 a1 a2 a3 a4 a5 : Value} {s0 : Int32} {h : AHp} : Rf d 158 12 [a0, a1, a2, a3, a4, a5] [.int s0] h = Rf d 158 13 [a0, a1, a2, a3, a4, a5] [.int 0, .int s0] h := Rf_go ((stp_of c158_12).trans rfl)
theorem c158_13 : cd 158 13 = some (13, .iconst 1, 1, []) := by decide +kernel
theorem x158_13 {d : Nat} {a0 a1 a2 a3 a4 a5 : Value} {s0 : Int32} {s1 : Int32} {h : AHp} : Rf d 158 13 [a0, a1, a2, a3, a4, a5] [.int s0, .int s1] h = Rf d 158 14 [a0, a1, a2, a3, a4, a5] [.int 1, .int s0, .int s1] h := Rf_go ((stp_of c158_13).trans rfl)
theorem c158_14 : cd 158 14 = some (14, .invokestatic 31, 3, [(0, 131)]) := by decide +kernel
theorem xc158_14 {d : Nat} {a0 a1 a2 a3 a4 a5 : Value} {s0 : Int32} {s1 : Int32} {s2 : Int32} {h : AHp} {h1 : AHp} {v : Int32} (hq : Rf d 131 0 [.int s2, .int s1, .int s0] [] h = some (some (.int v), h1)) : Rf (d + 1) 158 14 [a0, a1, a2, a3, a4, a5] [.int s0, .int s1, .int s2] h = Rf (d + 1) 158 17 [a0, a1, a2, a3, a4, a5] [.int v] h1 := clS (as := [.int s2, .int s1, .int s0]) c158_14 rfl rfl (by simp [isV]) hq
theorem c158_17 : cd 158 17 = some (17, .ifCond .ne 5, 3, [(22, 0)]) := by decide +kernel
theorem x158_17 {d : Nat} {a0 a1 a2 a3 a4 a5 : Value} {s0 : Int32} {h : AHp} : Rf d 158 17 [a0, a1, a2, a3, a4, a5] [.int s0] h = if s0 = 0 then Rf d 158 20 [a0, a1, a2, a3, a4, a5] [] h else Rf d 158 22 [a0, a1, a2, a3, a4, a5] [] h := Rf_brn ((stp_of c158_17).trans rfl)
theorem c158_22 : cd 158 22 = some (22, .iload_n 2, 1, []) := by decide +kernel
theorem x158_22 {d : Nat} {a0 a1 a3 a4 a5 : Value} {x : Int32} {h : AHp} : Rf d 158 22 [a0, a1, .int x, a3, a4, a5] [] h = Rf d 158 23 [a0, a1, .int x, a3, a4, a5] [.int x] h := Rf_go ((stp_of c158_22).trans rfl)
theorem c158_23 : cd 158 23 = some (23, .iconst 0, 1, []) := by decide +kernel
theorem x158_23 {d : Nat} {a0 a1 a2 a3 a4 a5 : Value} {s0 : Int32} {h : AHp} : Rf d 158 23 [a0, a1, a2, a3, a4, a5] [.int s0] h = Rf d 158 24 [a0, a1, a2, a3, a4, a5] [.int 0, .int s0] h := Rf_go ((stp_of c158_23).trans rfl)
theorem c158_24 : cd 158 24 = some (24, .sipush 999, 3, []) := by decide +kernel
theorem x158_24 {d : Nat} {a0 a1 a2 a3 a4 a5 : Value} {s0 : Int32} {s1 : Int32} {h : AHp} : Rf d 158 24 [a0, a1, a2, a3, a4, a5] [.int s0, .int s1] h = Rf d 158 27 [a0, a1, a2, a3, a4, a5] [.int 999, .int s0, .int s1] h := Rf_go ((stp_of c158_24).trans rfl)
theorem c158_27 : cd 158 27 = some (27, .invokestatic 31, 3, [(0, 131)]) := by decide +kernel
theorem xc158_27 {d : Nat} {a0 a1 a2 a3 a4 a5 : Value} {s0 : Int32} {s1 : Int32} {s2 : Int32} {h : AHp} {h1 : AHp} {v : Int32} (hq : Rf d 131 0 [.int s2, .int s1, .int s0] [] h = some (some (.int v), h1)) : Rf (d + 1) 158 27 [a0, a1, a2, a3, a4, a5] [.int s0, .int s1, .int s2] h = Rf (d + 1) 158 30 [a0, a1, a2, a3, a4, a5] [.int v] h1 := clS (as := [.int s2, .int s1, .int s0]) c158_27 rfl rfl (by simp [isV]) hq
theorem c158_30 : cd 158 30 = some (30, .ifCond .eq 14, 3, [(44, 0)]) := by decide +kernel
theorem x158_30 {d : Nat} {a0 a1 a2 a3 a4 a5 : Value} {s0 : Int32} {h : AHp} : Rf d 158 30 [a0, a1, a2, a3, a4, a5] [.int s0] h = if s0 = 0 then Rf d 158 44 [a0, a1, a2, a3, a4, a5] [] h else Rf d 158 33 [a0, a1, a2, a3, a4, a5] [] h := Rf_brd ((stp_of c158_30).trans rfl)
theorem c158_44 : cd 158 44 = some (44, .bipush (-2), 2, []) := by decide +kernel
theorem x158_44 {d : Nat} {a0 a1 a2 a3 a4 a5 : Value} {h : AHp} : Rf d 158 44 [a0, a1, a2, a3, a4, a5] [] h = Rf d 158 46 [a0, a1, a2, a3, a4, a5] [.int (-2)] h := Rf_go ((stp_of c158_44).trans rfl)
theorem c158_46 : cd 158 46 = some (46, .ireturn, 1, []) := by decide +kernel
theorem x158_46 {d : Nat} {a0 a1 a2 a3 a4 a5 : Value} {s0 : Int32} {h : AHp} : Rf d 158 46 [a0, a1, a2, a3, a4, a5] [.int s0] h = some (some (.int s0), h) := Rf_end (by rw [stp_of c158_46]; simp only [stpI]; rw [if_pos (show retI (mH 158).2.2.1 s0 = true from retI_int)])
theorem c158_33 : cd 158 33 = some (33, .iload_n 3, 1, []) := by decide +kernel
theorem x158_33 {d : Nat} {a0 a1 a2 a4 a5 : Value} {x : Int32} {h : AHp} : Rf d 158 33 [a0, a1, a2, .int x, a4, a5] [] h = Rf d 158 34 [a0, a1, a2, .int x, a4, a5] [.int x] h := Rf_go ((stp_of c158_33).trans rfl)
theorem c158_34 : cd 158 34 = some (34, .iconst 0, 1, []) := by decide +kernel
theorem x158_34 {d : Nat} {a0 a1 a2 a3 a4 a5 : Value} {s0 : Int32} {h : AHp} : Rf d 158 34 [a0, a1, a2, a3, a4, a5] [.int s0] h = Rf d 158 35 [a0, a1, a2, a3, a4, a5] [.int 0, .int s0] h := Rf_go ((stp_of c158_34).trans rfl)
theorem c158_35 : cd 158 35 = some (35, .sipush 999, 3, []) := by decide +kernel
theorem x158_35 {d : Nat} {a0 a1 a2 a3 a4 a5 : Value} {s0 : Int32} {s1 : Int32} {h : AHp} : Rf d 158 35 [a0, a1, a2, a3, a4, a5] [.int s0, .int s1] h = Rf d 158 38 [a0, a1, a2, a3, a4, a5] [.int 999, .int s0, .int s1] h := Rf_go ((stp_of c158_35).trans rfl)
theorem c158_38 : cd 158 38 = some (38, .invokestatic 31, 3, [(0, 131)]) := by decide +kernel
theorem xc158_38 {d : Nat} {a0 a1 a2 a3 a4 a5 : Value} {s0 : Int32} {s1 : Int32} {s2 : Int32} {h : AHp} {h1 : AHp} {v : Int32} (hq : Rf d 131 0 [.int s2, .int s1, .int s0] [] h = some (some (.int v), h1)) : Rf (d + 1) 158 38 [a0, a1, a2, a3, a4, a5] [.int s0, .int s1, .int s2] h = Rf (d + 1) 158 41 [a0, a1, a2, a3, a4, a5] [.int v] h1 := clS (as := [.int s2, .int s1, .int s0]) c158_38 rfl rfl (by simp [isV]) hq
theorem c158_41 : cd 158 41 = some (41, .ifCond .ne 6, 3, [(47, 0)]) := by decide +kernel
theorem x158_41 {d : Nat} {a0 a1 a2 a3 a4 a5 : Value} {s0 : Int32} {h : AHp} : Rf d 158 41 [a0, a1, a2, a3, a4, a5] [.int s0] h = if s0 = 0 then Rf d 158 44 [a0, a1, a2, a3, a4, a5] [] h else Rf d 158 47 [a0, a1, a2, a3, a4, a5] [] h := Rf_brn ((stp_of c158_41).trans rfl)
theorem c158_47 : cd 158 47 = some (47, .aload_n 0, 1, []) := by decide +kernel
theorem x158_47 {d : Nat} {a1 a2 a3 a4 a5 : Value} {x : Nat} {h : AHp} : Rf d 158 47 [.ref x, a1, a2, a3, a4, a5] [] h = Rf d 158 48 [.ref x, a1, a2, a3, a4, a5] [.ref x] h := Rf_go ((stp_of c158_47).trans rfl)
theorem c158_48 : cd 158 48 = some (48, .iload_n 1, 1, []) := by decide +kernel
theorem x158_48 {d : Nat} {a0 a2 a3 a4 a5 : Value} {s0 : Nat} {x : Int32} {h : AHp} : Rf d 158 48 [a0, .int x, a2, a3, a4, a5] [.ref s0] h = Rf d 158 49 [a0, .int x, a2, a3, a4, a5] [.int x, .ref s0] h := Rf_go ((stp_of c158_48).trans rfl)
theorem c158_49 : cd 158 49 = some (49, .invokevirtual 136, 3, [(12, 157)]) := by decide +kernel
theorem xc158_49 {d : Nat} {a0 a1 a2 a3 a4 a5 : Value} {s0 : Int32} {s1 : Nat} {h : AHp} {h1 : AHp} {v : Int32} (hr : cls (h.1 s1) = 12) (hq : Rf d 157 0 [.ref s1, .int s0, noV] [] h = some (some (.int v), h1)) : Rf (d + 1) 158 49 [a0, a1, a2, a3, a4, a5] [.int s0, .ref s1] h = Rf (d + 1) 158 52 [a0, a1, a2, a3, a4, a5] [.int v] h1 := clV (c := 157) (as := [.int s0]) c158_49 rfl (by simp [isV]) (by rw [hr]; rfl) hq
theorem c158_52 : cd 158 52 = some (52, .ifCond .lt 6, 3, [(58, 0)]) := by decide +kernel
theorem x158_52 {d : Nat} {a0 a1 a2 a3 a4 a5 : Value} {s0 : Int32} {h : AHp} : Rf d 158 52 [a0, a1, a2, a3, a4, a5] [.int s0] h = if s0 < 0 then Rf d 158 58 [a0, a1, a2, a3, a4, a5] [] h else Rf d 158 55 [a0, a1, a2, a3, a4, a5] [] h := Rf_brd ((stp_of c158_52).trans rfl)
theorem c158_58 : cd 158 58 = some (58, .aload_n 0, 1, []) := by decide +kernel
theorem x158_58 {d : Nat} {a1 a2 a3 a4 a5 : Value} {x : Nat} {h : AHp} : Rf d 158 58 [.ref x, a1, a2, a3, a4, a5] [] h = Rf d 158 59 [.ref x, a1, a2, a3, a4, a5] [.ref x] h := Rf_go ((stp_of c158_58).trans rfl)
theorem c158_59 : cd 158 59 = some (59, .getfield 9, 3, [(12, 0)]) := by decide +kernel
theorem x158_59 {d : Nat} {a0 a1 a2 a3 a4 a5 : Value} {s0 : Nat} {h : AHp} : Rf d 158 59 [a0, a1, a2, a3, a4, a5] [.ref s0] h = if cls (h.1 s0) = 12 ∧ oKr (h.1 s0) 0 = true then Rf d 158 62 [a0, a1, a2, a3, a4, a5] [.ref (oR (h.1 s0) 0)] h else Rx d 158 59 [a0, a1, a2, a3, a4, a5] [.ref s0] h := getR c158_59
theorem c158_62 : cd 158 62 = some (62, .iconst 0, 1, []) := by decide +kernel
theorem x158_62 {d : Nat} {a0 a1 a2 a3 a4 a5 : Value} {s0 : Nat} {h : AHp} : Rf d 158 62 [a0, a1, a2, a3, a4, a5] [.ref s0] h = Rf d 158 63 [a0, a1, a2, a3, a4, a5] [.int 0, .ref s0] h := Rf_go ((stp_of c158_62).trans rfl)
theorem c158_63 : cd 158 63 = some (63, .iaload, 1, []) := by decide +kernel
theorem x158_63 {d : Nat} {a0 a1 a2 a3 a4 a5 : Value} {s0 : Int32} {s1 : Nat} {h : AHp} : Rf d 158 63 [a0, a1, a2, a3, a4, a5] [.int s0, .ref s1] h = if (aT (h.1 s1) = 0 ∨ aT (h.1 s1) = 10) ∧ inB s0 (aN (h.1 s1)) = true then Rf d 158 64 [a0, a1, a2, a3, a4, a5] [.int (aF (h.1 s1) s0.toNatClampNeg)] h else Rx d 158 63 [a0, a1, a2, a3, a4, a5] [.int s0, .ref s1] h := ldI c158_63
theorem c158_64 : cd 158 64 = some (64, .istore 5, 2, []) := by decide +kernel
theorem x158_64 {d : Nat} {a0 a1 a2 a3 a4 a5 : Value} {s0 : Int32} {h : AHp} : Rf d 158 64 [a0, a1, a2, a3, a4, a5] [.int s0] h = Rf d 158 66 [a0, a1, a2, a3, a4, .int s0] [] h := Rf_go ((stp_of c158_64).trans rfl)
theorem c158_66 : cd 158 66 = some (66, .iload 5, 2, []) := by decide +kernel
theorem x158_66 {d : Nat} {a0 a1 a2 a3 a4 : Value} {x : Int32} {h : AHp} : Rf d 158 66 [a0, a1, a2, a3, a4, .int x] [] h = Rf d 158 68 [a0, a1, a2, a3, a4, .int x] [.int x] h := Rf_go ((stp_of c158_66).trans rfl)
theorem c158_68 : cd 158 68 = some (68, .bipush 10, 2, []) := by decide +kernel
theorem x158_68 {d : Nat} {a0 a1 a2 a3 a4 a5 : Value} {s0 : Int32} {h : AHp} : Rf d 158 68 [a0, a1, a2, a3, a4, a5] [.int s0] h = Rf d 158 70 [a0, a1, a2, a3, a4, a5] [.int 10, .int s0] h := Rf_go ((stp_of c158_68).trans rfl)
theorem c158_70 : cd 158 70 = some (70, .if_icmp .ne 6, 3, [(76, 0)]) := by decide +kernel
theorem x158_70 {d : Nat} {a0 a1 a2 a3 a4 a5 : Value} {s0 : Int32} {s1 : Int32} {h : AHp} : Rf d 158 70 [a0, a1, a2, a3, a4, a5] [.int s0, .int s1] h = if s1 = s0 then Rf d 158 73 [a0, a1, a2, a3, a4, a5] [] h else Rf d 158 76 [a0, a1, a2, a3, a4, a5] [] h := Rf_brn ((stp_of c158_70).trans rfl)
theorem c158_76 : cd 158 76 = some (76, .aload_n 0, 1, []) := by decide +kernel
theorem x158_76 {d : Nat} {a1 a2 a3 a4 a5 : Value} {x : Nat} {h : AHp} : Rf d 158 76 [.ref x, a1, a2, a3, a4, a5] [] h = Rf d 158 77 [.ref x, a1, a2, a3, a4, a5] [.ref x] h := Rf_go ((stp_of c158_76).trans rfl)
theorem c158_77 : cd 158 77 = some (77, .getfield 9, 3, [(12, 0)]) := by decide +kernel
theorem x158_77 {d : Nat} {a0 a1 a2 a3 a4 a5 : Value} {s0 : Nat} {h : AHp} : Rf d 158 77 [a0, a1, a2, a3, a4, a5] [.ref s0] h = if cls (h.1 s0) = 12 ∧ oKr (h.1 s0) 0 = true then Rf d 158 80 [a0, a1, a2, a3, a4, a5] [.ref (oR (h.1 s0) 0)] h else Rx d 158 77 [a0, a1, a2, a3, a4, a5] [.ref s0] h := getR c158_77
theorem c158_80 : cd 158 80 = some (80, .bipush 10, 2, []) := by decide +kernel
theorem x158_80 {d : Nat} {a0 a1 a2 a3 a4 a5 : Value} {s0 : Nat} {h : AHp} : Rf d 158 80 [a0, a1, a2, a3, a4, a5] [.ref s0] h = Rf d 158 82 [a0, a1, a2, a3, a4, a5] [.int 10, .ref s0] h := Rf_go ((stp_of c158_80).trans rfl)
theorem c158_82 : cd 158 82 = some (82, .iload 5, 2, []) := by decide +kernel
theorem x158_82 {d : Nat} {a0 a1 a2 a3 a4 : Value} {s0 : Int32} {s1 : Nat} {x : Int32} {h : AHp} : Rf d 158 82 [a0, a1, a2, a3, a4, .int x] [.int s0, .ref s1] h = Rf d 158 84 [a0, a1, a2, a3, a4, .int x] [.int x, .int s0, .ref s1] h := Rf_go ((stp_of c158_82).trans rfl)
theorem c158_84 : cd 158 84 = some (84, .iadd, 1, []) := by decide +kernel
theorem x158_84 {d : Nat} {a0 a1 a2 a3 a4 a5 : Value} {s0 : Int32} {s1 : Int32} {s2 : Nat} {h : AHp} : Rf d 158 84 [a0, a1, a2, a3, a4, a5] [.int s0, .int s1, .ref s2] h = Rf d 158 85 [a0, a1, a2, a3, a4, a5] [.int (s1 + s0), .ref s2] h := Rf_go ((stp_of c158_84).trans rfl)
theorem c158_85 : cd 158 85 = some (85, .iload_n 1, 1, []) := by decide +kernel
theorem x158_85 {d : Nat} {a0 a2 a3 a4 a5 : Value} {s0 : Int32} {s1 : Nat} {x : Int32} {h : AHp} : Rf d 158 85 [a0, .int x, a2, a3, a4, a5] [.int s0, .ref s1] h = Rf d 158 86 [a0, .int x, a2, a3, a4, a5] [.int x, .int s0, .ref s1] h := Rf_go ((stp_of c158_85).trans rfl)
theorem c158_86 : cd 158 86 = some (86, .iastore, 1, []) := by decide +kernel
theorem x158_86 {d : Nat} {a0 a1 a2 a3 a4 a5 : Value} {s0 : Int32} {s1 : Int32} {s2 : Nat} {h : AHp} : Rf d 158 86 [a0, a1, a2, a3, a4, a5] [.int s0, .int s1, .ref s2] h = if aT (h.1 s2) = 0 ∧ inB s1 (aN (h.1 s2)) = true then Rf d 158 87 [a0, a1, a2, a3, a4, a5] [] (hset h s2 (.inl (0, aN (h.1 s2), .inl (upd (aF (h.1 s2)) s1.toNatClampNeg s0)))) else Rx d 158 86 [a0, a1, a2, a3, a4, a5] [.int s0, .int s1, .ref s2] h := stI c158_86
theorem c158_87 : cd 158 87 = some (87, .aload_n 0, 1, []) := by decide +kernel
theorem x158_87 {d : Nat} {a1 a2 a3 a4 a5 : Value} {x : Nat} {h : AHp} : Rf d 158 87 [.ref x, a1, a2, a3, a4, a5] [] h = Rf d 158 88 [.ref x, a1, a2, a3, a4, a5] [.ref x] h := Rf_go ((stp_of c158_87).trans rfl)
theorem c158_88 : cd 158 88 = some (88, .getfield 9, 3, [(12, 0)]) := by decide +kernel
theorem x158_88 {d : Nat} {a0 a1 a2 a3 a4 a5 : Value} {s0 : Nat} {h : AHp} : Rf d 158 88 [a0, a1, a2, a3, a4, a5] [.ref s0] h = if cls (h.1 s0) = 12 ∧ oKr (h.1 s0) 0 = true then Rf d 158 91 [a0, a1, a2, a3, a4, a5] [.ref (oR (h.1 s0) 0)] h else Rx d 158 88 [a0, a1, a2, a3, a4, a5] [.ref s0] h := getR c158_88
theorem c158_91 : cd 158 91 = some (91, .bipush 20, 2, []) := by decide +kernel
theorem x158_91 {d : Nat} {a0 a1 a2 a3 a4 a5 : Value} {s0 : Nat} {h : AHp} : Rf d 158 91 [a0, a1, a2, a3, a4, a5] [.ref s0] h = Rf d 158 93 [a0, a1, a2, a3, a4, a5] [.int 20, .ref s0] h := Rf_go ((stp_of c158_91).trans rfl)
theorem c158_93 : cd 158 93 = some (93, .iload 5, 2, []) := by decide +kernel
theorem x158_93 {d : Nat} {a0 a1 a2 a3 a4 : Value} {s0 : Int32} {s1 : Nat} {x : Int32} {h : AHp} : Rf d 158 93 [a0, a1, a2, a3, a4, .int x] [.int s0, .ref s1] h = Rf d 158 95 [a0, a1, a2, a3, a4, .int x] [.int x, .int s0, .ref s1] h := Rf_go ((stp_of c158_93).trans rfl)
theorem c158_95 : cd 158 95 = some (95, .iadd, 1, []) := by decide +kernel
theorem x158_95 {d : Nat} {a0 a1 a2 a3 a4 a5 : Value} {s0 : Int32} {s1 : Int32} {s2 : Nat} {h : AHp} : Rf d 158 95 [a0, a1, a2, a3, a4, a5] [.int s0, .int s1, .ref s2] h = Rf d 158 96 [a0, a1, a2, a3, a4, a5] [.int (s1 + s0), .ref s2] h := Rf_go ((stp_of c158_95).trans rfl)
theorem c158_96 : cd 158 96 = some (96, .iload_n 2, 1, []) := by decide +kernel
theorem x158_96 {d : Nat} {a0 a1 a3 a4 a5 : Value} {s0 : Int32} {s1 : Nat} {x : Int32} {h : AHp} : Rf d 158 96 [a0, a1, .int x, a3, a4, a5] [.int s0, .ref s1] h = Rf d 158 97 [a0, a1, .int x, a3, a4, a5] [.int x, .int s0, .ref s1] h := Rf_go ((stp_of c158_96).trans rfl)
theorem c158_97 : cd 158 97 = some (97, .iastore, 1, []) := by decide +kernel
theorem x158_97 {d : Nat} {a0 a1 a2 a3 a4 a5 : Value} {s0 : Int32} {s1 : Int32} {s2 : Nat} {h : AHp} : Rf d 158 97 [a0, a1, a2, a3, a4, a5] [.int s0, .int s1, .ref s2] h = if aT (h.1 s2) = 0 ∧ inB s1 (aN (h.1 s2)) = true then Rf d 158 98 [a0, a1, a2, a3, a4, a5] [] (hset h s2 (.inl (0, aN (h.1 s2), .inl (upd (aF (h.1 s2)) s1.toNatClampNeg s0)))) else Rx d 158 97 [a0, a1, a2, a3, a4, a5] [.int s0, .int s1, .ref s2] h := stI c158_97
theorem c158_98 : cd 158 98 = some (98, .aload_n 0, 1, []) := by decide +kernel
theorem x158_98 {d : Nat} {a1 a2 a3 a4 a5 : Value} {x : Nat} {h : AHp} : Rf d 158 98 [.ref x, a1, a2, a3, a4, a5] [] h = Rf d 158 99 [.ref x, a1, a2, a3, a4, a5] [.ref x] h := Rf_go ((stp_of c158_98).trans rfl)
theorem c158_99 : cd 158 99 = some (99, .getfield 9, 3, [(12, 0)]) := by decide +kernel
theorem x158_99 {d : Nat} {a0 a1 a2 a3 a4 a5 : Value} {s0 : Nat} {h : AHp} : Rf d 158 99 [a0, a1, a2, a3, a4, a5] [.ref s0] h = if cls (h.1 s0) = 12 ∧ oKr (h.1 s0) 0 = true then Rf d 158 102 [a0, a1, a2, a3, a4, a5] [.ref (oR (h.1 s0) 0)] h else Rx d 158 99 [a0, a1, a2, a3, a4, a5] [.ref s0] h := getR c158_99
theorem c158_102 : cd 158 102 = some (102, .bipush 30, 2, []) := by decide +kernel
theorem x158_102 {d : Nat} {a0 a1 a2 a3 a4 a5 : Value} {s0 : Nat} {h : AHp} : Rf d 158 102 [a0, a1, a2, a3, a4, a5] [.ref s0] h = Rf d 158 104 [a0, a1, a2, a3, a4, a5] [.int 30, .ref s0] h := Rf_go ((stp_of c158_102).trans rfl)
theorem c158_104 : cd 158 104 = some (104, .iload 5, 2, []) := by decide +kernel
theorem x158_104 {d : Nat} {a0 a1 a2 a3 a4 : Value} {s0 : Int32} {s1 : Nat} {x : Int32} {h : AHp} : Rf d 158 104 [a0, a1, a2, a3, a4, .int x] [.int s0, .ref s1] h = Rf d 158 106 [a0, a1, a2, a3, a4, .int x] [.int x, .int s0, .ref s1] h := Rf_go ((stp_of c158_104).trans rfl)
theorem c158_106 : cd 158 106 = some (106, .iadd, 1, []) := by decide +kernel
theorem x158_106 {d : Nat} {a0 a1 a2 a3 a4 a5 : Value} {s0 : Int32} {s1 : Int32} {s2 : Nat} {h : AHp} : Rf d 158 106 [a0, a1, a2, a3, a4, a5] [.int s0, .int s1, .ref s2] h = Rf d 158 107 [a0, a1, a2, a3, a4, a5] [.int (s1 + s0), .ref s2] h := Rf_go ((stp_of c158_106).trans rfl)
theorem c158_107 : cd 158 107 = some (107, .iload_n 3, 1, []) := by decide +kernel
theorem x158_107 {d : Nat} {a0 a1 a2 a4 a5 : Value} {s0 : Int32} {s1 : Nat} {x : Int32} {h : AHp} : Rf d 158 107 [a0, a1, a2, .int x, a4, a5] [.int s0, .ref s1] h = Rf d 158 108 [a0, a1, a2, .int x, a4, a5] [.int x, .int s0, .ref s1] h := Rf_go ((stp_of c158_107).trans rfl)
theorem c158_108 : cd 158 108 = some (108, .iastore, 1, []) := by decide +kernel
theorem x158_108 {d : Nat} {a0 a1 a2 a3 a4 a5 : Value} {s0 : Int32} {s1 : Int32} {s2 : Nat} {h : AHp} : Rf d 158 108 [a0, a1, a2, a3, a4, a5] [.int s0, .int s1, .ref s2] h = if aT (h.1 s2) = 0 ∧ inB s1 (aN (h.1 s2)) = true then Rf d 158 109 [a0, a1, a2, a3, a4, a5] [] (hset h s2 (.inl (0, aN (h.1 s2), .inl (upd (aF (h.1 s2)) s1.toNatClampNeg s0)))) else Rx d 158 108 [a0, a1, a2, a3, a4, a5] [.int s0, .int s1, .ref s2] h := stI c158_108
theorem c158_109 : cd 158 109 = some (109, .aload_n 0, 1, []) := by decide +kernel
theorem x158_109 {d : Nat} {a1 a2 a3 a4 a5 : Value} {x : Nat} {h : AHp} : Rf d 158 109 [.ref x, a1, a2, a3, a4, a5] [] h = Rf d 158 110 [.ref x, a1, a2, a3, a4, a5] [.ref x] h := Rf_go ((stp_of c158_109).trans rfl)
theorem c158_110 : cd 158 110 = some (110, .getfield 9, 3, [(12, 0)]) := by decide +kernel
theorem x158_110 {d : Nat} {a0 a1 a2 a3 a4 a5 : Value} {s0 : Nat} {h : AHp} : Rf d 158 110 [a0, a1, a2, a3, a4, a5] [.ref s0] h = if cls (h.1 s0) = 12 ∧ oKr (h.1 s0) 0 = true then Rf d 158 113 [a0, a1, a2, a3, a4, a5] [.ref (oR (h.1 s0) 0)] h else Rx d 158 110 [a0, a1, a2, a3, a4, a5] [.ref s0] h := getR c158_110
theorem c158_113 : cd 158 113 = some (113, .bipush 40, 2, []) := by decide +kernel
theorem x158_113 {d : Nat} {a0 a1 a2 a3 a4 a5 : Value} {s0 : Nat} {h : AHp} : Rf d 158 113 [a0, a1, a2, a3, a4, a5] [.ref s0] h = Rf d 158 115 [a0, a1, a2, a3, a4, a5] [.int 40, .ref s0] h := Rf_go ((stp_of c158_113).trans rfl)
theorem c158_115 : cd 158 115 = some (115, .iload 5, 2, []) := by decide +kernel
theorem x158_115 {d : Nat} {a0 a1 a2 a3 a4 : Value} {s0 : Int32} {s1 : Nat} {x : Int32} {h : AHp} : Rf d 158 115 [a0, a1, a2, a3, a4, .int x] [.int s0, .ref s1] h = Rf d 158 117 [a0, a1, a2, a3, a4, .int x] [.int x, .int s0, .ref s1] h := Rf_go ((stp_of c158_115).trans rfl)
theorem c158_117 : cd 158 117 = some (117, .iadd, 1, []) := by decide +kernel
theorem x158_117 {d : Nat} {a0 a1 a2 a3 a4 a5 : Value} {s0 : Int32} {s1 : Int32} {s2 : Nat} {h : AHp} : Rf d 158 117 [a0, a1, a2, a3, a4, a5] [.int s0, .int s1, .ref s2] h = Rf d 158 118 [a0, a1, a2, a3, a4, a5] [.int (s1 + s0), .ref s2] h := Rf_go ((stp_of c158_117).trans rfl)
theorem c158_118 : cd 158 118 = some (118, .iload 4, 2, []) := by decide +kernel
theorem x158_118 {d : Nat} {a0 a1 a2 a3 a5 : Value} {s0 : Int32} {s1 : Nat} {x : Int32} {h : AHp} : Rf d 158 118 [a0, a1, a2, a3, .int x, a5] [.int s0, .ref s1] h = Rf d 158 120 [a0, a1, a2, a3, .int x, a5] [.int x, .int s0, .ref s1] h := Rf_go ((stp_of c158_118).trans rfl)
theorem c158_120 : cd 158 120 = some (120, .iastore, 1, []) := by decide +kernel
theorem x158_120 {d : Nat} {a0 a1 a2 a3 a4 a5 : Value} {s0 : Int32} {s1 : Int32} {s2 : Nat} {h : AHp} : Rf d 158 120 [a0, a1, a2, a3, a4, a5] [.int s0, .int s1, .ref s2] h = if aT (h.1 s2) = 0 ∧ inB s1 (aN (h.1 s2)) = true then Rf d 158 121 [a0, a1, a2, a3, a4, a5] [] (hset h s2 (.inl (0, aN (h.1 s2), .inl (upd (aF (h.1 s2)) s1.toNatClampNeg s0)))) else Rx d 158 120 [a0, a1, a2, a3, a4, a5] [.int s0, .int s1, .ref s2] h := stI c158_120
theorem c158_121 : cd 158 121 = some (121, .aload_n 0, 1, []) := by decide +kernel
theorem x158_121 {d : Nat} {a1 a2 a3 a4 a5 : Value} {x : Nat} {h : AHp} : Rf d 158 121 [.ref x, a1, a2, a3, a4, a5] [] h = Rf d 158 122 [.ref x, a1, a2, a3, a4, a5] [.ref x] h := Rf_go ((stp_of c158_121).trans rfl)
theorem c158_122 : cd 158 122 = some (122, .getfield 9, 3, [(12, 0)]) := by decide +kernel
theorem x158_122 {d : Nat} {a0 a1 a2 a3 a4 a5 : Value} {s0 : Nat} {h : AHp} : Rf d 158 122 [a0, a1, a2, a3, a4, a5] [.ref s0] h = if cls (h.1 s0) = 12 ∧ oKr (h.1 s0) 0 = true then Rf d 158 125 [a0, a1, a2, a3, a4, a5] [.ref (oR (h.1 s0) 0)] h else Rx d 158 122 [a0, a1, a2, a3, a4, a5] [.ref s0] h := getR c158_122
theorem c158_125 : cd 158 125 = some (125, .bipush 50, 2, []) := by decide +kernel
theorem x158_125 {d : Nat} {a0 a1 a2 a3 a4 a5 : Value} {s0 : Nat} {h : AHp} : Rf d 158 125 [a0, a1, a2, a3, a4, a5] [.ref s0] h = Rf d 158 127 [a0, a1, a2, a3, a4, a5] [.int 50, .ref s0] h := Rf_go ((stp_of c158_125).trans rfl)
theorem c158_127 : cd 158 127 = some (127, .iload 5, 2, []) := by decide +kernel
theorem x158_127 {d : Nat} {a0 a1 a2 a3 a4 : Value} {s0 : Int32} {s1 : Nat} {x : Int32} {h : AHp} : Rf d 158 127 [a0, a1, a2, a3, a4, .int x] [.int s0, .ref s1] h = Rf d 158 129 [a0, a1, a2, a3, a4, .int x] [.int x, .int s0, .ref s1] h := Rf_go ((stp_of c158_127).trans rfl)
theorem c158_129 : cd 158 129 = some (129, .iadd, 1, []) := by decide +kernel
theorem x158_129 {d : Nat} {a0 a1 a2 a3 a4 a5 : Value} {s0 : Int32} {s1 : Int32} {s2 : Nat} {h : AHp} : Rf d 158 129 [a0, a1, a2, a3, a4, a5] [.int s0, .int s1, .ref s2] h = Rf d 158 130 [a0, a1, a2, a3, a4, a5] [.int (s1 + s0), .ref s2] h := Rf_go ((stp_of c158_129).trans rfl)
theorem c158_130 : cd 158 130 = some (130, .iconst (-1), 1, []) := by decide +kernel
theorem x158_130 {d : Nat} {a0 a1 a2 a3 a4 a5 : Value} {s0 : Int32} {s1 : Nat} {h : AHp} : Rf d 158 130 [a0, a1, a2, a3, a4, a5] [.int s0, .ref s1] h = Rf d 158 131 [a0, a1, a2, a3, a4, a5] [.int (-1), .int s0, .ref s1] h := Rf_go ((stp_of c158_130).trans rfl)
theorem c158_131 : cd 158 131 = some (131, .iastore, 1, []) := by decide +kernel
theorem x158_131 {d : Nat} {a0 a1 a2 a3 a4 a5 : Value} {s0 : Int32} {s1 : Int32} {s2 : Nat} {h : AHp} : Rf d 158 131 [a0, a1, a2, a3, a4, a5] [.int s0, .int s1, .ref s2] h = if aT (h.1 s2) = 0 ∧ inB s1 (aN (h.1 s2)) = true then Rf d 158 132 [a0, a1, a2, a3, a4, a5] [] (hset h s2 (.inl (0, aN (h.1 s2), .inl (upd (aF (h.1 s2)) s1.toNatClampNeg s0)))) else Rx d 158 131 [a0, a1, a2, a3, a4, a5] [.int s0, .int s1, .ref s2] h := stI c158_131
theorem c158_132 : cd 158 132 = some (132, .aload_n 0, 1, []) := by decide +kernel
theorem x158_132 {d : Nat} {a1 a2 a3 a4 a5 : Value} {x : Nat} {h : AHp} : Rf d 158 132 [.ref x, a1, a2, a3, a4, a5] [] h = Rf d 158 133 [.ref x, a1, a2, a3, a4, a5] [.ref x] h := Rf_go ((stp_of c158_132).trans rfl)
theorem c158_133 : cd 158 133 = some (133, .getfield 9, 3, [(12, 0)]) := by decide +kernel
theorem x158_133 {d : Nat} {a0 a1 a2 a3 a4 a5 : Value} {s0 : Nat} {h : AHp} : Rf d 158 133 [a0, a1, a2, a3, a4, a5] [.ref s0] h = if cls (h.1 s0) = 12 ∧ oKr (h.1 s0) 0 = true then Rf d 158 136 [a0, a1, a2, a3, a4, a5] [.ref (oR (h.1 s0) 0)] h else Rx d 158 133 [a0, a1, a2, a3, a4, a5] [.ref s0] h := getR c158_133
theorem c158_136 : cd 158 136 = some (136, .bipush 60, 2, []) := by decide +kernel
theorem x158_136 {d : Nat} {a0 a1 a2 a3 a4 a5 : Value} {s0 : Nat} {h : AHp} : Rf d 158 136 [a0, a1, a2, a3, a4, a5] [.ref s0] h = Rf d 158 138 [a0, a1, a2, a3, a4, a5] [.int 60, .ref s0] h := Rf_go ((stp_of c158_136).trans rfl)
theorem c158_138 : cd 158 138 = some (138, .iload 5, 2, []) := by decide +kernel
theorem x158_138 {d : Nat} {a0 a1 a2 a3 a4 : Value} {s0 : Int32} {s1 : Nat} {x : Int32} {h : AHp} : Rf d 158 138 [a0, a1, a2, a3, a4, .int x] [.int s0, .ref s1] h = Rf d 158 140 [a0, a1, a2, a3, a4, .int x] [.int x, .int s0, .ref s1] h := Rf_go ((stp_of c158_138).trans rfl)
theorem c158_140 : cd 158 140 = some (140, .iadd, 1, []) := by decide +kernel
theorem x158_140 {d : Nat} {a0 a1 a2 a3 a4 a5 : Value} {s0 : Int32} {s1 : Int32} {s2 : Nat} {h : AHp} : Rf d 158 140 [a0, a1, a2, a3, a4, a5] [.int s0, .int s1, .ref s2] h = Rf d 158 141 [a0, a1, a2, a3, a4, a5] [.int (s1 + s0), .ref s2] h := Rf_go ((stp_of c158_140).trans rfl)
theorem c158_141 : cd 158 141 = some (141, .iconst 0, 1, []) := by decide +kernel
theorem x158_141 {d : Nat} {a0 a1 a2 a3 a4 a5 : Value} {s0 : Int32} {s1 : Nat} {h : AHp} : Rf d 158 141 [a0, a1, a2, a3, a4, a5] [.int s0, .ref s1] h = Rf d 158 142 [a0, a1, a2, a3, a4, a5] [.int 0, .int s0, .ref s1] h := Rf_go ((stp_of c158_141).trans rfl)
theorem c158_142 : cd 158 142 = some (142, .iastore, 1, []) := by decide +kernel
theorem x158_142 {d : Nat} {a0 a1 a2 a3 a4 a5 : Value} {s0 : Int32} {s1 : Int32} {s2 : Nat} {h : AHp} : Rf d 158 142 [a0, a1, a2, a3, a4, a5] [.int s0, .int s1, .ref s2] h = if aT (h.1 s2) = 0 ∧ inB s1 (aN (h.1 s2)) = true then Rf d 158 143 [a0, a1, a2, a3, a4, a5] [] (hset h s2 (.inl (0, aN (h.1 s2), .inl (upd (aF (h.1 s2)) s1.toNatClampNeg s0)))) else Rx d 158 142 [a0, a1, a2, a3, a4, a5] [.int s0, .int s1, .ref s2] h := stI c158_142
theorem c158_143 : cd 158 143 = some (143, .aload_n 0, 1, []) := by decide +kernel
theorem x158_143 {d : Nat} {a1 a2 a3 a4 a5 : Value} {x : Nat} {h : AHp} : Rf d 158 143 [.ref x, a1, a2, a3, a4, a5] [] h = Rf d 158 144 [.ref x, a1, a2, a3, a4, a5] [.ref x] h := Rf_go ((stp_of c158_143).trans rfl)
theorem c158_144 : cd 158 144 = some (144, .getfield 9, 3, [(12, 0)]) := by decide +kernel
theorem x158_144 {d : Nat} {a0 a1 a2 a3 a4 a5 : Value} {s0 : Nat} {h : AHp} : Rf d 158 144 [a0, a1, a2, a3, a4, a5] [.ref s0] h = if cls (h.1 s0) = 12 ∧ oKr (h.1 s0) 0 = true then Rf d 158 147 [a0, a1, a2, a3, a4, a5] [.ref (oR (h.1 s0) 0)] h else Rx d 158 144 [a0, a1, a2, a3, a4, a5] [.ref s0] h := getR c158_144
theorem c158_147 : cd 158 147 = some (147, .bipush 70, 2, []) := by decide +kernel
theorem x158_147 {d : Nat} {a0 a1 a2 a3 a4 a5 : Value} {s0 : Nat} {h : AHp} : Rf d 158 147 [a0, a1, a2, a3, a4, a5] [.ref s0] h = Rf d 158 149 [a0, a1, a2, a3, a4, a5] [.int 70, .ref s0] h := Rf_go ((stp_of c158_147).trans rfl)
theorem c158_149 : cd 158 149 = some (149, .iload 5, 2, []) := by decide +kernel
theorem x158_149 {d : Nat} {a0 a1 a2 a3 a4 : Value} {s0 : Int32} {s1 : Nat} {x : Int32} {h : AHp} : Rf d 158 149 [a0, a1, a2, a3, a4, .int x] [.int s0, .ref s1] h = Rf d 158 151 [a0, a1, a2, a3, a4, .int x] [.int x, .int s0, .ref s1] h := Rf_go ((stp_of c158_149).trans rfl)
theorem c158_151 : cd 158 151 = some (151, .iadd, 1, []) := by decide +kernel
theorem x158_151 {d : Nat} {a0 a1 a2 a3 a4 a5 : Value} {s0 : Int32} {s1 : Int32} {s2 : Nat} {h : AHp} : Rf d 158 151 [a0, a1, a2, a3, a4, a5] [.int s0, .int s1, .ref s2] h = Rf d 158 152 [a0, a1, a2, a3, a4, a5] [.int (s1 + s0), .ref s2] h := Rf_go ((stp_of c158_151).trans rfl)
theorem c158_152 : cd 158 152 = some (152, .iconst 0, 1, []) := by decide +kernel
theorem x158_152 {d : Nat} {a0 a1 a2 a3 a4 a5 : Value} {s0 : Int32} {s1 : Nat} {h : AHp} : Rf d 158 152 [a0, a1, a2, a3, a4, a5] [.int s0, .ref s1] h = Rf d 158 153 [a0, a1, a2, a3, a4, a5] [.int 0, .int s0, .ref s1] h := Rf_go ((stp_of c158_152).trans rfl)
theorem c158_153 : cd 158 153 = some (153, .iastore, 1, []) := by decide +kernel
theorem x158_153 {d : Nat} {a0 a1 a2 a3 a4 a5 : Value} {s0 : Int32} {s1 : Int32} {s2 : Nat} {h : AHp} : Rf d 158 153 [a0, a1, a2, a3, a4, a5] [.int s0, .int s1, .ref s2] h = if aT (h.1 s2) = 0 ∧ inB s1 (aN (h.1 s2)) = true then Rf d 158 154 [a0, a1, a2, a3, a4, a5] [] (hset h s2 (.inl (0, aN (h.1 s2), .inl (upd (aF (h.1 s2)) s1.toNatClampNeg s0)))) else Rx d 158 153 [a0, a1, a2, a3, a4, a5] [.int s0, .int s1, .ref s2] h := stI c158_153
theorem c158_154 : cd 158 154 = some (154, .aload_n 0, 1, []) := by decide +kernel
theorem x158_154 {d : Nat} {a1 a2 a3 a4 a5 : Value} {x : Nat} {h : AHp} : Rf d 158 154 [.ref x, a1, a2, a3, a4, a5] [] h = Rf d 158 155 [.ref x, a1, a2, a3, a4, a5] [.ref x] h := Rf_go ((stp_of c158_154).trans rfl)
theorem c158_155 : cd 158 155 = some (155, .getfield 9, 3, [(12, 0)]) := by decide +kernel
theorem x158_155 {d : Nat} {a0 a1 a2 a3 a4 a5 : Value} {s0 : Nat} {h : AHp} : Rf d 158 155 [a0, a1, a2, a3, a4, a5] [.ref s0] h = if cls (h.1 s0) = 12 ∧ oKr (h.1 s0) 0 = true then Rf d 158 158 [a0, a1, a2, a3, a4, a5] [.ref (oR (h.1 s0) 0)] h else Rx d 158 155 [a0, a1, a2, a3, a4, a5] [.ref s0] h := getR c158_155
theorem c158_158 : cd 158 158 = some (158, .iconst 0, 1, []) := by decide +kernel
theorem x158_158 {d : Nat} {a0 a1 a2 a3 a4 a5 : Value} {s0 : Nat} {h : AHp} : Rf d 158 158 [a0, a1, a2, a3, a4, a5] [.ref s0] h = Rf d 158 159 [a0, a1, a2, a3, a4, a5] [.int 0, .ref s0] h := Rf_go ((stp_of c158_158).trans rfl)
theorem c158_159 : cd 158 159 = some (159, .dup2, 1, []) := by decide +kernel
theorem x158_159 {d : Nat} {a0 a1 a2 a3 a4 a5 : Value} {s0 : Int32} {s1 : Nat} {h : AHp} : Rf d 158 159 [a0, a1, a2, a3, a4, a5] [.int s0, .ref s1] h = Rf d 158 160 [a0, a1, a2, a3, a4, a5] [.int s0, .ref s1, .int s0, .ref s1] h := Rf_go ((stp_of c158_159).trans rfl)
theorem c158_160 : cd 158 160 = some (160, .iaload, 1, []) := by decide +kernel
theorem x158_160 {d : Nat} {a0 a1 a2 a3 a4 a5 : Value} {s0 : Int32} {s1 : Nat} {s2 : Int32} {s3 : Nat} {h : AHp} : Rf d 158 160 [a0, a1, a2, a3, a4, a5] [.int s0, .ref s1, .int s2, .ref s3] h = if (aT (h.1 s1) = 0 ∨ aT (h.1 s1) = 10) ∧ inB s0 (aN (h.1 s1)) = true then Rf d 158 161 [a0, a1, a2, a3, a4, a5] [.int (aF (h.1 s1) s0.toNatClampNeg), .int s2, .ref s3] h else Rx d 158 160 [a0, a1, a2, a3, a4, a5] [.int s0, .ref s1, .int s2, .ref s3] h := ldI c158_160
theorem c158_161 : cd 158 161 = some (161, .dup_x2, 1, []) := by decide +kernel
theorem x158_161 {d : Nat} {a0 a1 a2 a3 a4 a5 : Value} {s0 : Int32} {s1 : Int32} {s2 : Nat} {h : AHp} : Rf d 158 161 [a0, a1, a2, a3, a4, a5] [.int s0, .int s1, .ref s2] h = Rf d 158 162 [a0, a1, a2, a3, a4, a5] [.int s0, .int s1, .ref s2, .int s0] h := Rf_go ((stp_of c158_161).trans rfl)
theorem c158_162 : cd 158 162 = some (162, .iconst 1, 1, []) := by decide +kernel
theorem x158_162 {d : Nat} {a0 a1 a2 a3 a4 a5 : Value} {s0 : Int32} {s1 : Int32} {s2 : Nat} {s3 : Int32} {h : AHp} : Rf d 158 162 [a0, a1, a2, a3, a4, a5] [.int s0, .int s1, .ref s2, .int s3] h = Rf d 158 163 [a0, a1, a2, a3, a4, a5] [.int 1, .int s0, .int s1, .ref s2, .int s3] h := Rf_go ((stp_of c158_162).trans rfl)
theorem c158_163 : cd 158 163 = some (163, .iadd, 1, []) := by decide +kernel
theorem x158_163 {d : Nat} {a0 a1 a2 a3 a4 a5 : Value} {s0 : Int32} {s1 : Int32} {s2 : Int32} {s3 : Nat} {s4 : Int32} {h : AHp} : Rf d 158 163 [a0, a1, a2, a3, a4, a5] [.int s0, .int s1, .int s2, .ref s3, .int s4] h = Rf d 158 164 [a0, a1, a2, a3, a4, a5] [.int (s1 + s0), .int s2, .ref s3, .int s4] h := Rf_go ((stp_of c158_163).trans rfl)
theorem c158_164 : cd 158 164 = some (164, .iastore, 1, []) := by decide +kernel
theorem x158_164 {d : Nat} {a0 a1 a2 a3 a4 a5 : Value} {s0 : Int32} {s1 : Int32} {s2 : Nat} {s3 : Int32} {h : AHp} : Rf d 158 164 [a0, a1, a2, a3, a4, a5] [.int s0, .int s1, .ref s2, .int s3] h = if aT (h.1 s2) = 0 ∧ inB s1 (aN (h.1 s2)) = true then Rf d 158 165 [a0, a1, a2, a3, a4, a5] [.int s3] (hset h s2 (.inl (0, aN (h.1 s2), .inl (upd (aF (h.1 s2)) s1.toNatClampNeg s0)))) else Rx d 158 164 [a0, a1, a2, a3, a4, a5] [.int s0, .int s1, .ref s2, .int s3] h := stI c158_164
theorem c158_165 : cd 158 165 = some (165, .ireturn, 1, []) := by decide +kernel
theorem x158_165 {d : Nat} {a0 a1 a2 a3 a4 a5 : Value} {s0 : Int32} {h : AHp} : Rf d 158 165 [a0, a1, a2, a3, a4, a5] [.int s0] h = some (some (.int s0), h) := Rf_end (by rw [stp_of c158_165]; simp only [stpI]; rw [if_pos (show retI (mH 158).2.2.1 s0 = true from retI_int)])
theorem c158_73 : cd 158 73 = some (73, .bipush (-4), 2, []) := by decide +kernel
theorem x158_73 {d : Nat} {a0 a1 a2 a3 a4 a5 : Value} {h : AHp} : Rf d 158 73 [a0, a1, a2, a3, a4, a5] [] h = Rf d 158 75 [a0, a1, a2, a3, a4, a5] [.int (-4)] h := Rf_go ((stp_of c158_73).trans rfl)
theorem c158_75 : cd 158 75 = some (75, .ireturn, 1, []) := by decide +kernel
theorem x158_75 {d : Nat} {a0 a1 a2 a3 a4 a5 : Value} {s0 : Int32} {h : AHp} : Rf d 158 75 [a0, a1, a2, a3, a4, a5] [.int s0] h = some (some (.int s0), h) := Rf_end (by rw [stp_of c158_75]; simp only [stpI]; rw [if_pos (show retI (mH 158).2.2.1 s0 = true from retI_int)])
theorem c158_55 : cd 158 55 = some (55, .bipush (-3), 2, []) := by decide +kernel
theorem x158_55 {d : Nat} {a0 a1 a2 a3 a4 a5 : Value} {h : AHp} : Rf d 158 55 [a0, a1, a2, a3, a4, a5] [] h = Rf d 158 57 [a0, a1, a2, a3, a4, a5] [.int (-3)] h := Rf_go ((stp_of c158_55).trans rfl)
theorem c158_57 : cd 158 57 = some (57, .ireturn, 1, []) := by decide +kernel
theorem x158_57 {d : Nat} {a0 a1 a2 a3 a4 a5 : Value} {s0 : Int32} {h : AHp} : Rf d 158 57 [a0, a1, a2, a3, a4, a5] [.int s0] h = some (some (.int s0), h) := Rf_end (by rw [stp_of c158_57]; simp only [stpI]; rw [if_pos (show retI (mH 158).2.2.1 s0 = true from retI_int)])
-- 159: X12_knowing
theorem c159_0 : cd 159 0 = some (0, .aload_n 0, 1, []) := by decide +kernel
theorem x159_0 {d : Nat} {a1 a2 a3 a4 : Value} {x : Nat} {h : AHp} : Rf d 159 0 [.ref x, a1, a2, a3, a4] [] h = Rf d 159 1 [.ref x, a1, a2, a3, a4] [.ref x] h := Rf_go ((stp_of c159_0).trans rfl)
theorem c159_1 : cd 159 1 = some (1, .iload_n 1, 1, []) := by decide +kernel
theorem x159_1 {d : Nat} {a0 a2 a3 a4 : Value} {s0 : Nat} {x : Int32} {h : AHp} : Rf d 159 1 [a0, .int x, a2, a3, a4] [.ref s0] h = Rf d 159 2 [a0, .int x, a2, a3, a4] [.int x, .ref s0] h := Rf_go ((stp_of c159_1).trans rfl)
theorem c159_2 : cd 159 2 = some (2, .invokevirtual 140, 3, [(12, 132)]) := by decide +kernel
theorem xc159_2 {d : Nat} {a0 a1 a2 a3 a4 : Value} {s0 : Int32} {s1 : Nat} {h : AHp} {h1 : AHp} {v : Int32} (hr : cls (h.1 s1) = 12) (hq : Rf d 132 0 [.ref s1, .int s0] [] h = some (some (.int v), h1)) : Rf (d + 1) 159 2 [a0, a1, a2, a3, a4] [.int s0, .ref s1] h = Rf (d + 1) 159 5 [a0, a1, a2, a3, a4] [.int v] h1 := clV (c := 132) (as := [.int s0]) c159_2 rfl (by simp [isV]) (by rw [hr]; rfl) hq
theorem c159_5 : cd 159 5 = some (5, .ifCond .eq 13, 3, [(18, 0)]) := by decide +kernel
theorem x159_5 {d : Nat} {a0 a1 a2 a3 a4 : Value} {s0 : Int32} {h : AHp} : Rf d 159 5 [a0, a1, a2, a3, a4] [.int s0] h = if s0 = 0 then Rf d 159 18 [a0, a1, a2, a3, a4] [] h else Rf d 159 8 [a0, a1, a2, a3, a4] [] h := Rf_brd ((stp_of c159_5).trans rfl)
theorem c159_18 : cd 159 18 = some (18, .iconst (-1), 1, []) := by decide +kernel
theorem x159_18 {d : Nat} {a0 a1 a2 a3 a4 : Value} {h : AHp} : Rf d 159 18 [a0, a1, a2, a3, a4] [] h = Rf d 159 19 [a0, a1, a2, a3, a4] [.int (-1)] h := Rf_go ((stp_of c159_18).trans rfl)
theorem c159_19 : cd 159 19 = some (19, .ireturn, 1, []) := by decide +kernel
theorem x159_19 {d : Nat} {a0 a1 a2 a3 a4 : Value} {s0 : Int32} {h : AHp} : Rf d 159 19 [a0, a1, a2, a3, a4] [.int s0] h = some (some (.int s0), h) := Rf_end (by rw [stp_of c159_19]; simp only [stpI]; rw [if_pos (show retI (mH 159).2.2.1 s0 = true from retI_int)])
theorem c159_8 : cd 159 8 = some (8, .iload_n 2, 1, []) := by decide +kernel
theorem x159_8 {d : Nat} {a0 a1 a3 a4 : Value} {x : Int32} {h : AHp} : Rf d 159 8 [a0, a1, .int x, a3, a4] [] h = Rf d 159 9 [a0, a1, .int x, a3, a4] [.int x] h := Rf_go ((stp_of c159_8).trans rfl)
theorem c159_9 : cd 159 9 = some (9, .iconst 0, 1, []) := by decide +kernel
theorem x159_9 {d : Nat} {a0 a1 a2 a3 a4 : Value} {s0 : Int32} {h : AHp} : Rf d 159 9 [a0, a1, a2, a3, a4] [.int s0] h = Rf d 159 10 [a0, a1, a2, a3, a4] [.int 0, .int s0] h := Rf_go ((stp_of c159_9).trans rfl)
theorem c159_10 : cd 159 10 = some (10, .bipush 6, 2, []) := by decide +kernel
theorem x159_10 {d : Nat} {a0 a1 a2 a3 a4 : Value} {s0 : Int32} {s1 : Int32} {h : AHp} : Rf d 159 10 [a0, a1, a2, a3, a4] [.int s0, .int s1] h = Rf d 159 12 [a0, a1, a2, a3, a4] [.int 6, .int s0, .int s1] h := Rf_go ((stp_of c159_10).trans rfl)
theorem c159_12 : cd 159 12 = some (12, .invokestatic 31, 3, [(0, 131)]) := by decide +kernel
theorem xc159_12 {d : Nat} {a0 a1 a2 a3 a4 : Value} {s0 : Int32} {s1 : Int32} {s2 : Int32} {h : AHp} {h1 : AHp} {v : Int32} (hq : Rf d 131 0 [.int s2, .int s1, .int s0] [] h = some (some (.int v), h1)) : Rf (d + 1) 159 12 [a0, a1, a2, a3, a4] [.int s0, .int s1, .int s2] h = Rf (d + 1) 159 15 [a0, a1, a2, a3, a4] [.int v] h1 := clS (as := [.int s2, .int s1, .int s0]) c159_12 rfl rfl (by simp [isV]) hq
theorem c159_15 : cd 159 15 = some (15, .ifCond .ne 5, 3, [(20, 0)]) := by decide +kernel
theorem x159_15 {d : Nat} {a0 a1 a2 a3 a4 : Value} {s0 : Int32} {h : AHp} : Rf d 159 15 [a0, a1, a2, a3, a4] [.int s0] h = if s0 = 0 then Rf d 159 18 [a0, a1, a2, a3, a4] [] h else Rf d 159 20 [a0, a1, a2, a3, a4] [] h := Rf_brn ((stp_of c159_15).trans rfl)
theorem c159_20 : cd 159 20 = some (20, .iload_n 3, 1, []) := by decide +kernel
theorem x159_20 {d : Nat} {a0 a1 a2 a4 : Value} {x : Int32} {h : AHp} : Rf d 159 20 [a0, a1, a2, .int x, a4] [] h = Rf d 159 21 [a0, a1, a2, .int x, a4] [.int x] h := Rf_go ((stp_of c159_20).trans rfl)
theorem c159_21 : cd 159 21 = some (21, .iconst 0, 1, []) := by decide +kernel
theorem x159_21 {d : Nat} {a0 a1 a2 a3 a4 : Value} {s0 : Int32} {h : AHp} : Rf d 159 21 [a0, a1, a2, a3, a4] [.int s0] h = Rf d 159 22 [a0, a1, a2, a3, a4] [.int 0, .int s0] h := Rf_go ((stp_of c159_21).trans rfl)
theorem c159_22 : cd 159 22 = some (22, .bipush 9, 2, []) := by decide +kernel
theorem x159_22 {d : Nat} {a0 a1 a2 a3 a4 : Value} {s0 : Int32} {s1 : Int32} {h : AHp} : Rf d 159 22 [a0, a1, a2, a3, a4] [.int s0, .int s1] h = Rf d 159 24 [a0, a1, a2, a3, a4] [.int 9, .int s0, .int s1] h := Rf_go ((stp_of c159_22).trans rfl)
theorem c159_24 : cd 159 24 = some (24, .invokestatic 31, 3, [(0, 131)]) := by decide +kernel
theorem xc159_24 {d : Nat} {a0 a1 a2 a3 a4 : Value} {s0 : Int32} {s1 : Int32} {s2 : Int32} {h : AHp} {h1 : AHp} {v : Int32} (hq : Rf d 131 0 [.int s2, .int s1, .int s0] [] h = some (some (.int v), h1)) : Rf (d + 1) 159 24 [a0, a1, a2, a3, a4] [.int s0, .int s1, .int s2] h = Rf (d + 1) 159 27 [a0, a1, a2, a3, a4] [.int v] h1 := clS (as := [.int s2, .int s1, .int s0]) c159_24 rfl rfl (by simp [isV]) hq
theorem c159_27 : cd 159 27 = some (27, .ifCond .ne 6, 3, [(33, 0)]) := by decide +kernel
theorem x159_27 {d : Nat} {a0 a1 a2 a3 a4 : Value} {s0 : Int32} {h : AHp} : Rf d 159 27 [a0, a1, a2, a3, a4] [.int s0] h = if s0 = 0 then Rf d 159 30 [a0, a1, a2, a3, a4] [] h else Rf d 159 33 [a0, a1, a2, a3, a4] [] h := Rf_brn ((stp_of c159_27).trans rfl)
theorem c159_33 : cd 159 33 = some (33, .aload_n 0, 1, []) := by decide +kernel
theorem x159_33 {d : Nat} {a1 a2 a3 a4 : Value} {x : Nat} {h : AHp} : Rf d 159 33 [.ref x, a1, a2, a3, a4] [] h = Rf d 159 34 [.ref x, a1, a2, a3, a4] [.ref x] h := Rf_go ((stp_of c159_33).trans rfl)
theorem c159_34 : cd 159 34 = some (34, .getfield 9, 3, [(12, 0)]) := by decide +kernel
theorem x159_34 {d : Nat} {a0 a1 a2 a3 a4 : Value} {s0 : Nat} {h : AHp} : Rf d 159 34 [a0, a1, a2, a3, a4] [.ref s0] h = if cls (h.1 s0) = 12 ∧ oKr (h.1 s0) 0 = true then Rf d 159 37 [a0, a1, a2, a3, a4] [.ref (oR (h.1 s0) 0)] h else Rx d 159 34 [a0, a1, a2, a3, a4] [.ref s0] h := getR c159_34
theorem c159_37 : cd 159 37 = some (37, .bipush 60, 2, []) := by decide +kernel
theorem x159_37 {d : Nat} {a0 a1 a2 a3 a4 : Value} {s0 : Nat} {h : AHp} : Rf d 159 37 [a0, a1, a2, a3, a4] [.ref s0] h = Rf d 159 39 [a0, a1, a2, a3, a4] [.int 60, .ref s0] h := Rf_go ((stp_of c159_37).trans rfl)
theorem c159_39 : cd 159 39 = some (39, .iload_n 1, 1, []) := by decide +kernel
theorem x159_39 {d : Nat} {a0 a2 a3 a4 : Value} {s0 : Int32} {s1 : Nat} {x : Int32} {h : AHp} : Rf d 159 39 [a0, .int x, a2, a3, a4] [.int s0, .ref s1] h = Rf d 159 40 [a0, .int x, a2, a3, a4] [.int x, .int s0, .ref s1] h := Rf_go ((stp_of c159_39).trans rfl)
theorem c159_40 : cd 159 40 = some (40, .iadd, 1, []) := by decide +kernel
theorem x159_40 {d : Nat} {a0 a1 a2 a3 a4 : Value} {s0 : Int32} {s1 : Int32} {s2 : Nat} {h : AHp} : Rf d 159 40 [a0, a1, a2, a3, a4] [.int s0, .int s1, .ref s2] h = Rf d 159 41 [a0, a1, a2, a3, a4] [.int (s1 + s0), .ref s2] h := Rf_go ((stp_of c159_40).trans rfl)
theorem c159_41 : cd 159 41 = some (41, .iaload, 1, []) := by decide +kernel
theorem x159_41 {d : Nat} {a0 a1 a2 a3 a4 : Value} {s0 : Int32} {s1 : Nat} {h : AHp} : Rf d 159 41 [a0, a1, a2, a3, a4] [.int s0, .ref s1] h = if (aT (h.1 s1) = 0 ∨ aT (h.1 s1) = 10) ∧ inB s0 (aN (h.1 s1)) = true then Rf d 159 42 [a0, a1, a2, a3, a4] [.int (aF (h.1 s1) s0.toNatClampNeg)] h else Rx d 159 41 [a0, a1, a2, a3, a4] [.int s0, .ref s1] h := ldI c159_41
theorem c159_42 : cd 159 42 = some (42, .istore 4, 2, []) := by decide +kernel
theorem x159_42 {d : Nat} {a0 a1 a2 a3 a4 : Value} {s0 : Int32} {h : AHp} : Rf d 159 42 [a0, a1, a2, a3, a4] [.int s0] h = Rf d 159 44 [a0, a1, a2, a3, .int s0] [] h := Rf_go ((stp_of c159_42).trans rfl)
theorem c159_44 : cd 159 44 = some (44, .aload_n 0, 1, []) := by decide +kernel
theorem x159_44 {d : Nat} {a1 a2 a3 a4 : Value} {x : Nat} {h : AHp} : Rf d 159 44 [.ref x, a1, a2, a3, a4] [] h = Rf d 159 45 [.ref x, a1, a2, a3, a4] [.ref x] h := Rf_go ((stp_of c159_44).trans rfl)
theorem c159_45 : cd 159 45 = some (45, .getfield 9, 3, [(12, 0)]) := by decide +kernel
theorem x159_45 {d : Nat} {a0 a1 a2 a3 a4 : Value} {s0 : Nat} {h : AHp} : Rf d 159 45 [a0, a1, a2, a3, a4] [.ref s0] h = if cls (h.1 s0) = 12 ∧ oKr (h.1 s0) 0 = true then Rf d 159 48 [a0, a1, a2, a3, a4] [.ref (oR (h.1 s0) 0)] h else Rx d 159 45 [a0, a1, a2, a3, a4] [.ref s0] h := getR c159_45
theorem c159_48 : cd 159 48 = some (48, .bipush 60, 2, []) := by decide +kernel
theorem x159_48 {d : Nat} {a0 a1 a2 a3 a4 : Value} {s0 : Nat} {h : AHp} : Rf d 159 48 [a0, a1, a2, a3, a4] [.ref s0] h = Rf d 159 50 [a0, a1, a2, a3, a4] [.int 60, .ref s0] h := Rf_go ((stp_of c159_48).trans rfl)
theorem c159_50 : cd 159 50 = some (50, .iload_n 1, 1, []) := by decide +kernel
theorem x159_50 {d : Nat} {a0 a2 a3 a4 : Value} {s0 : Int32} {s1 : Nat} {x : Int32} {h : AHp} : Rf d 159 50 [a0, .int x, a2, a3, a4] [.int s0, .ref s1] h = Rf d 159 51 [a0, .int x, a2, a3, a4] [.int x, .int s0, .ref s1] h := Rf_go ((stp_of c159_50).trans rfl)
theorem c159_51 : cd 159 51 = some (51, .iadd, 1, []) := by decide +kernel
theorem x159_51 {d : Nat} {a0 a1 a2 a3 a4 : Value} {s0 : Int32} {s1 : Int32} {s2 : Nat} {h : AHp} : Rf d 159 51 [a0, a1, a2, a3, a4] [.int s0, .int s1, .ref s2] h = Rf d 159 52 [a0, a1, a2, a3, a4] [.int (s1 + s0), .ref s2] h := Rf_go ((stp_of c159_51).trans rfl)
theorem c159_52 : cd 159 52 = some (52, .iload_n 2, 1, []) := by decide +kernel
theorem x159_52 {d : Nat} {a0 a1 a3 a4 : Value} {s0 : Int32} {s1 : Nat} {x : Int32} {h : AHp} : Rf d 159 52 [a0, a1, .int x, a3, a4] [.int s0, .ref s1] h = Rf d 159 53 [a0, a1, .int x, a3, a4] [.int x, .int s0, .ref s1] h := Rf_go ((stp_of c159_52).trans rfl)
theorem c159_53 : cd 159 53 = some (53, .iastore, 1, []) := by decide +kernel
theorem x159_53 {d : Nat} {a0 a1 a2 a3 a4 : Value} {s0 : Int32} {s1 : Int32} {s2 : Nat} {h : AHp} : Rf d 159 53 [a0, a1, a2, a3, a4] [.int s0, .int s1, .ref s2] h = if aT (h.1 s2) = 0 ∧ inB s1 (aN (h.1 s2)) = true then Rf d 159 54 [a0, a1, a2, a3, a4] [] (hset h s2 (.inl (0, aN (h.1 s2), .inl (upd (aF (h.1 s2)) s1.toNatClampNeg s0)))) else Rx d 159 53 [a0, a1, a2, a3, a4] [.int s0, .int s1, .ref s2] h := stI c159_53
theorem c159_54 : cd 159 54 = some (54, .aload_n 0, 1, []) := by decide +kernel
theorem x159_54 {d : Nat} {a1 a2 a3 a4 : Value} {x : Nat} {h : AHp} : Rf d 159 54 [.ref x, a1, a2, a3, a4] [] h = Rf d 159 55 [.ref x, a1, a2, a3, a4] [.ref x] h := Rf_go ((stp_of c159_54).trans rfl)
theorem c159_55 : cd 159 55 = some (55, .getfield 9, 3, [(12, 0)]) := by decide +kernel
theorem x159_55 {d : Nat} {a0 a1 a2 a3 a4 : Value} {s0 : Nat} {h : AHp} : Rf d 159 55 [a0, a1, a2, a3, a4] [.ref s0] h = if cls (h.1 s0) = 12 ∧ oKr (h.1 s0) 0 = true then Rf d 159 58 [a0, a1, a2, a3, a4] [.ref (oR (h.1 s0) 0)] h else Rx d 159 55 [a0, a1, a2, a3, a4] [.ref s0] h := getR c159_55
theorem c159_58 : cd 159 58 = some (58, .bipush 70, 2, []) := by decide +kernel
theorem x159_58 {d : Nat} {a0 a1 a2 a3 a4 : Value} {s0 : Nat} {h : AHp} : Rf d 159 58 [a0, a1, a2, a3, a4] [.ref s0] h = Rf d 159 60 [a0, a1, a2, a3, a4] [.int 70, .ref s0] h := Rf_go ((stp_of c159_58).trans rfl)
theorem c159_60 : cd 159 60 = some (60, .iload_n 1, 1, []) := by decide +kernel
theorem x159_60 {d : Nat} {a0 a2 a3 a4 : Value} {s0 : Int32} {s1 : Nat} {x : Int32} {h : AHp} : Rf d 159 60 [a0, .int x, a2, a3, a4] [.int s0, .ref s1] h = Rf d 159 61 [a0, .int x, a2, a3, a4] [.int x, .int s0, .ref s1] h := Rf_go ((stp_of c159_60).trans rfl)
theorem c159_61 : cd 159 61 = some (61, .iadd, 1, []) := by decide +kernel
theorem x159_61 {d : Nat} {a0 a1 a2 a3 a4 : Value} {s0 : Int32} {s1 : Int32} {s2 : Nat} {h : AHp} : Rf d 159 61 [a0, a1, a2, a3, a4] [.int s0, .int s1, .ref s2] h = Rf d 159 62 [a0, a1, a2, a3, a4] [.int (s1 + s0), .ref s2] h := Rf_go ((stp_of c159_61).trans rfl)
theorem c159_62 : cd 159 62 = some (62, .iload_n 3, 1, []) := by decide +kernel
theorem x159_62 {d : Nat} {a0 a1 a2 a4 : Value} {s0 : Int32} {s1 : Nat} {x : Int32} {h : AHp} : Rf d 159 62 [a0, a1, a2, .int x, a4] [.int s0, .ref s1] h = Rf d 159 63 [a0, a1, a2, .int x, a4] [.int x, .int s0, .ref s1] h := Rf_go ((stp_of c159_62).trans rfl)
theorem c159_63 : cd 159 63 = some (63, .iastore, 1, []) := by decide +kernel
theorem x159_63 {d : Nat} {a0 a1 a2 a3 a4 : Value} {s0 : Int32} {s1 : Int32} {s2 : Nat} {h : AHp} : Rf d 159 63 [a0, a1, a2, a3, a4] [.int s0, .int s1, .ref s2] h = if aT (h.1 s2) = 0 ∧ inB s1 (aN (h.1 s2)) = true then Rf d 159 64 [a0, a1, a2, a3, a4] [] (hset h s2 (.inl (0, aN (h.1 s2), .inl (upd (aF (h.1 s2)) s1.toNatClampNeg s0)))) else Rx d 159 63 [a0, a1, a2, a3, a4] [.int s0, .int s1, .ref s2] h := stI c159_63
theorem c159_64 : cd 159 64 = some (64, .iload 4, 2, []) := by decide +kernel
theorem x159_64 {d : Nat} {a0 a1 a2 a3 : Value} {x : Int32} {h : AHp} : Rf d 159 64 [a0, a1, a2, a3, .int x] [] h = Rf d 159 66 [a0, a1, a2, a3, .int x] [.int x] h := Rf_go ((stp_of c159_64).trans rfl)
theorem c159_66 : cd 159 66 = some (66, .ireturn, 1, []) := by decide +kernel
theorem x159_66 {d : Nat} {a0 a1 a2 a3 a4 : Value} {s0 : Int32} {h : AHp} : Rf d 159 66 [a0, a1, a2, a3, a4] [.int s0] h = some (some (.int s0), h) := Rf_end (by rw [stp_of c159_66]; simp only [stpI]; rw [if_pos (show retI (mH 159).2.2.1 s0 = true from retI_int)])
theorem c159_30 : cd 159 30 = some (30, .bipush (-2), 2, []) := by decide +kernel
theorem x159_30 {d : Nat} {a0 a1 a2 a3 a4 : Value} {h : AHp} : Rf d 159 30 [a0, a1, a2, a3, a4] [] h = Rf d 159 32 [a0, a1, a2, a3, a4] [.int (-2)] h := Rf_go ((stp_of c159_30).trans rfl)
theorem c159_32 : cd 159 32 = some (32, .ireturn, 1, []) := by decide +kernel
theorem x159_32 {d : Nat} {a0 a1 a2 a3 a4 : Value} {s0 : Int32} {h : AHp} : Rf d 159 32 [a0, a1, a2, a3, a4] [.int s0] h = some (some (.int s0), h) := Rf_end (by rw [stp_of c159_32]; simp only [stpI]; rw [if_pos (show retI (mH 159).2.2.1 s0 = true from retI_int)])
-- 160: X12_friend
theorem c160_0 : cd 160 0 = some (0, .aload_n 0, 1, []) := by decide +kernel
theorem x160_0 {d : Nat} {a1 a2 a3 : Value} {x : Nat} {h : AHp} : Rf d 160 0 [.ref x, a1, a2, a3] [] h = Rf d 160 1 [.ref x, a1, a2, a3] [.ref x] h := Rf_go ((stp_of c160_0).trans rfl)
theorem c160_1 : cd 160 1 = some (1, .iload_n 1, 1, []) := by decide +kernel
theorem x160_1 {d : Nat} {a0 a2 a3 : Value} {s0 : Nat} {x : Int32} {h : AHp} : Rf d 160 1 [a0, .int x, a2, a3] [.ref s0] h = Rf d 160 2 [a0, .int x, a2, a3] [.int x, .ref s0] h := Rf_go ((stp_of c160_1).trans rfl)
theorem c160_2 : cd 160 2 = some (2, .invokevirtual 140, 3, [(12, 132)]) := by decide +kernel
theorem xc160_2 {d : Nat} {a0 a1 a2 a3 : Value} {s0 : Int32} {s1 : Nat} {h : AHp} {h1 : AHp} {v : Int32} (hr : cls (h.1 s1) = 12) (hq : Rf d 132 0 [.ref s1, .int s0] [] h = some (some (.int v), h1)) : Rf (d + 1) 160 2 [a0, a1, a2, a3] [.int s0, .ref s1] h = Rf (d + 1) 160 5 [a0, a1, a2, a3] [.int v] h1 := clV (c := 132) (as := [.int s0]) c160_2 rfl (by simp [isV]) (by rw [hr]; rfl) hq
theorem c160_5 : cd 160 5 = some (5, .ifCond .eq 16, 3, [(21, 0)]) := by decide +kernel
theorem x160_5 {d : Nat} {a0 a1 a2 a3 : Value} {s0 : Int32} {h : AHp} : Rf d 160 5 [a0, a1, a2, a3] [.int s0] h = if s0 = 0 then Rf d 160 21 [a0, a1, a2, a3] [] h else Rf d 160 8 [a0, a1, a2, a3] [] h := Rf_brd ((stp_of c160_5).trans rfl)
theorem c160_21 : cd 160 21 = some (21, .iconst (-1), 1, []) := by decide +kernel
theorem x160_21 {d : Nat} {a0 a1 a2 a3 : Value} {h : AHp} : Rf d 160 21 [a0, a1, a2, a3] [] h = Rf d 160 22 [a0, a1, a2, a3] [.int (-1)] h := Rf_go ((stp_of c160_21).trans rfl)
theorem c160_22 : cd 160 22 = some (22, .ireturn, 1, []) := by decide +kernel
theorem x160_22 {d : Nat} {a0 a1 a2 a3 : Value} {s0 : Int32} {h : AHp} : Rf d 160 22 [a0, a1, a2, a3] [.int s0] h = some (some (.int s0), h) := Rf_end (by rw [stp_of c160_22]; simp only [stpI]; rw [if_pos (show retI (mH 160).2.2.1 s0 = true from retI_int)])
theorem c160_8 : cd 160 8 = some (8, .iload_n 2, 1, []) := by decide +kernel
theorem x160_8 {d : Nat} {a0 a1 a3 : Value} {x : Int32} {h : AHp} : Rf d 160 8 [a0, a1, .int x, a3] [] h = Rf d 160 9 [a0, a1, .int x, a3] [.int x] h := Rf_go ((stp_of c160_8).trans rfl)
theorem c160_9 : cd 160 9 = some (9, .iconst (-1), 1, []) := by decide +kernel
theorem x160_9 {d : Nat} {a0 a1 a2 a3 : Value} {s0 : Int32} {h : AHp} : Rf d 160 9 [a0, a1, a2, a3] [.int s0] h = Rf d 160 10 [a0, a1, a2, a3] [.int (-1), .int s0] h := Rf_go ((stp_of c160_9).trans rfl)
theorem c160_10 : cd 160 10 = some (10, .if_icmp .eq 13, 3, [(23, 0)]) := by decide +kernel
theorem x160_10 {d : Nat} {a0 a1 a2 a3 : Value} {s0 : Int32} {s1 : Int32} {h : AHp} : Rf d 160 10 [a0, a1, a2, a3] [.int s0, .int s1] h = if s1 = s0 then Rf d 160 23 [a0, a1, a2, a3] [] h else Rf d 160 13 [a0, a1, a2, a3] [] h := Rf_brd ((stp_of c160_10).trans rfl)
theorem c160_23 : cd 160 23 = some (23, .iload_n 1, 1, []) := by decide +kernel
theorem x160_23 {d : Nat} {a0 a2 a3 : Value} {x : Int32} {h : AHp} : Rf d 160 23 [a0, .int x, a2, a3] [] h = Rf d 160 24 [a0, .int x, a2, a3] [.int x] h := Rf_go ((stp_of c160_23).trans rfl)
theorem c160_24 : cd 160 24 = some (24, .iload_n 2, 1, []) := by decide +kernel
theorem x160_24 {d : Nat} {a0 a1 a3 : Value} {s0 : Int32} {x : Int32} {h : AHp} : Rf d 160 24 [a0, a1, .int x, a3] [.int s0] h = Rf d 160 25 [a0, a1, .int x, a3] [.int x, .int s0] h := Rf_go ((stp_of c160_24).trans rfl)
theorem c160_25 : cd 160 25 = some (25, .if_icmp .ne 6, 3, [(31, 0)]) := by decide +kernel
theorem x160_25 {d : Nat} {a0 a1 a2 a3 : Value} {s0 : Int32} {s1 : Int32} {h : AHp} : Rf d 160 25 [a0, a1, a2, a3] [.int s0, .int s1] h = if s1 = s0 then Rf d 160 28 [a0, a1, a2, a3] [] h else Rf d 160 31 [a0, a1, a2, a3] [] h := Rf_brn ((stp_of c160_25).trans rfl)
theorem c160_31 : cd 160 31 = some (31, .aload_n 0, 1, []) := by decide +kernel
theorem x160_31 {d : Nat} {a1 a2 a3 : Value} {x : Nat} {h : AHp} : Rf d 160 31 [.ref x, a1, a2, a3] [] h = Rf d 160 32 [.ref x, a1, a2, a3] [.ref x] h := Rf_go ((stp_of c160_31).trans rfl)
theorem c160_32 : cd 160 32 = some (32, .getfield 9, 3, [(12, 0)]) := by decide +kernel
theorem x160_32 {d : Nat} {a0 a1 a2 a3 : Value} {s0 : Nat} {h : AHp} : Rf d 160 32 [a0, a1, a2, a3] [.ref s0] h = if cls (h.1 s0) = 12 ∧ oKr (h.1 s0) 0 = true then Rf d 160 35 [a0, a1, a2, a3] [.ref (oR (h.1 s0) 0)] h else Rx d 160 32 [a0, a1, a2, a3] [.ref s0] h := getR c160_32
theorem c160_35 : cd 160 35 = some (35, .bipush 50, 2, []) := by decide +kernel
theorem x160_35 {d : Nat} {a0 a1 a2 a3 : Value} {s0 : Nat} {h : AHp} : Rf d 160 35 [a0, a1, a2, a3] [.ref s0] h = Rf d 160 37 [a0, a1, a2, a3] [.int 50, .ref s0] h := Rf_go ((stp_of c160_35).trans rfl)
theorem c160_37 : cd 160 37 = some (37, .iload_n 1, 1, []) := by decide +kernel
theorem x160_37 {d : Nat} {a0 a2 a3 : Value} {s0 : Int32} {s1 : Nat} {x : Int32} {h : AHp} : Rf d 160 37 [a0, .int x, a2, a3] [.int s0, .ref s1] h = Rf d 160 38 [a0, .int x, a2, a3] [.int x, .int s0, .ref s1] h := Rf_go ((stp_of c160_37).trans rfl)
theorem c160_38 : cd 160 38 = some (38, .iadd, 1, []) := by decide +kernel
theorem x160_38 {d : Nat} {a0 a1 a2 a3 : Value} {s0 : Int32} {s1 : Int32} {s2 : Nat} {h : AHp} : Rf d 160 38 [a0, a1, a2, a3] [.int s0, .int s1, .ref s2] h = Rf d 160 39 [a0, a1, a2, a3] [.int (s1 + s0), .ref s2] h := Rf_go ((stp_of c160_38).trans rfl)
theorem c160_39 : cd 160 39 = some (39, .iaload, 1, []) := by decide +kernel
theorem x160_39 {d : Nat} {a0 a1 a2 a3 : Value} {s0 : Int32} {s1 : Nat} {h : AHp} : Rf d 160 39 [a0, a1, a2, a3] [.int s0, .ref s1] h = if (aT (h.1 s1) = 0 ∨ aT (h.1 s1) = 10) ∧ inB s0 (aN (h.1 s1)) = true then Rf d 160 40 [a0, a1, a2, a3] [.int (aF (h.1 s1) s0.toNatClampNeg)] h else Rx d 160 39 [a0, a1, a2, a3] [.int s0, .ref s1] h := ldI c160_39
theorem c160_40 : cd 160 40 = some (40, .istore_n 3, 1, []) := by decide +kernel
theorem x160_40 {d : Nat} {a0 a1 a2 a3 : Value} {s0 : Int32} {h : AHp} : Rf d 160 40 [a0, a1, a2, a3] [.int s0] h = Rf d 160 41 [a0, a1, a2, .int s0] [] h := Rf_go ((stp_of c160_40).trans rfl)
theorem c160_41 : cd 160 41 = some (41, .aload_n 0, 1, []) := by decide +kernel
theorem x160_41 {d : Nat} {a1 a2 a3 : Value} {x : Nat} {h : AHp} : Rf d 160 41 [.ref x, a1, a2, a3] [] h = Rf d 160 42 [.ref x, a1, a2, a3] [.ref x] h := Rf_go ((stp_of c160_41).trans rfl)
theorem c160_42 : cd 160 42 = some (42, .getfield 9, 3, [(12, 0)]) := by decide +kernel
theorem x160_42 {d : Nat} {a0 a1 a2 a3 : Value} {s0 : Nat} {h : AHp} : Rf d 160 42 [a0, a1, a2, a3] [.ref s0] h = if cls (h.1 s0) = 12 ∧ oKr (h.1 s0) 0 = true then Rf d 160 45 [a0, a1, a2, a3] [.ref (oR (h.1 s0) 0)] h else Rx d 160 42 [a0, a1, a2, a3] [.ref s0] h := getR c160_42
theorem c160_45 : cd 160 45 = some (45, .bipush 50, 2, []) := by decide +kernel
theorem x160_45 {d : Nat} {a0 a1 a2 a3 : Value} {s0 : Nat} {h : AHp} : Rf d 160 45 [a0, a1, a2, a3] [.ref s0] h = Rf d 160 47 [a0, a1, a2, a3] [.int 50, .ref s0] h := Rf_go ((stp_of c160_45).trans rfl)
theorem c160_47 : cd 160 47 = some (47, .iload_n 1, 1, []) := by decide +kernel
theorem x160_47 {d : Nat} {a0 a2 a3 : Value} {s0 : Int32} {s1 : Nat} {x : Int32} {h : AHp} : Rf d 160 47 [a0, .int x, a2, a3] [.int s0, .ref s1] h = Rf d 160 48 [a0, .int x, a2, a3] [.int x, .int s0, .ref s1] h := Rf_go ((stp_of c160_47).trans rfl)
theorem c160_48 : cd 160 48 = some (48, .iadd, 1, []) := by decide +kernel
theorem x160_48 {d : Nat} {a0 a1 a2 a3 : Value} {s0 : Int32} {s1 : Int32} {s2 : Nat} {h : AHp} : Rf d 160 48 [a0, a1, a2, a3] [.int s0, .int s1, .ref s2] h = Rf d 160 49 [a0, a1, a2, a3] [.int (s1 + s0), .ref s2] h := Rf_go ((stp_of c160_48).trans rfl)
theorem c160_49 : cd 160 49 = some (49, .iload_n 2, 1, []) := by decide +kernel
theorem x160_49 {d : Nat} {a0 a1 a3 : Value} {s0 : Int32} {s1 : Nat} {x : Int32} {h : AHp} : Rf d 160 49 [a0, a1, .int x, a3] [.int s0, .ref s1] h = Rf d 160 50 [a0, a1, .int x, a3] [.int x, .int s0, .ref s1] h := Rf_go ((stp_of c160_49).trans rfl)
theorem c160_50 : cd 160 50 = some (50, .iastore, 1, []) := by decide +kernel
theorem x160_50 {d : Nat} {a0 a1 a2 a3 : Value} {s0 : Int32} {s1 : Int32} {s2 : Nat} {h : AHp} : Rf d 160 50 [a0, a1, a2, a3] [.int s0, .int s1, .ref s2] h = if aT (h.1 s2) = 0 ∧ inB s1 (aN (h.1 s2)) = true then Rf d 160 51 [a0, a1, a2, a3] [] (hset h s2 (.inl (0, aN (h.1 s2), .inl (upd (aF (h.1 s2)) s1.toNatClampNeg s0)))) else Rx d 160 50 [a0, a1, a2, a3] [.int s0, .int s1, .ref s2] h := stI c160_50
theorem c160_51 : cd 160 51 = some (51, .iload_n 3, 1, []) := by decide +kernel
theorem x160_51 {d : Nat} {a0 a1 a2 : Value} {x : Int32} {h : AHp} : Rf d 160 51 [a0, a1, a2, .int x] [] h = Rf d 160 52 [a0, a1, a2, .int x] [.int x] h := Rf_go ((stp_of c160_51).trans rfl)
theorem c160_52 : cd 160 52 = some (52, .ifCond .ge 8, 3, [(60, 0)]) := by decide +kernel
theorem x160_52 {d : Nat} {a0 a1 a2 a3 : Value} {s0 : Int32} {h : AHp} : Rf d 160 52 [a0, a1, a2, a3] [.int s0] h = if s0 < 0 then Rf d 160 55 [a0, a1, a2, a3] [] h else Rf d 160 60 [a0, a1, a2, a3] [] h := Rf_brn ((stp_of c160_52).trans rfl)
theorem c160_60 : cd 160 60 = some (60, .iload_n 3, 1, []) := by decide +kernel
theorem x160_60 {d : Nat} {a0 a1 a2 : Value} {x : Int32} {h : AHp} : Rf d 160 60 [a0, a1, a2, .int x] [] h = Rf d 160 61 [a0, a1, a2, .int x] [.int x] h := Rf_go ((stp_of c160_60).trans rfl)
theorem c160_61 : cd 160 61 = some (61, .ireturn, 1, []) := by decide +kernel
theorem x160_61 {d : Nat} {a0 a1 a2 a3 : Value} {s0 : Int32} {h : AHp} : Rf d 160 61 [a0, a1, a2, a3] [.int s0] h = some (some (.int s0), h) := Rf_end (by rw [stp_of c160_61]; simp only [stpI]; rw [if_pos (show retI (mH 160).2.2.1 s0 = true from retI_int)])
theorem c160_55 : cd 160 55 = some (55, .bipush (-5), 2, []) := by decide +kernel
theorem x160_55 {d : Nat} {a0 a1 a2 a3 : Value} {h : AHp} : Rf d 160 55 [a0, a1, a2, a3] [] h = Rf d 160 57 [a0, a1, a2, a3] [.int (-5)] h := Rf_go ((stp_of c160_55).trans rfl)
theorem c160_57 : cd 160 57 = some (57, .goto 4, 3, [(61, 0)]) := by decide +kernel
theorem x160_57 {d : Nat} {a0 a1 a2 a3 : Value} {s0 : Int32} {h : AHp} : Rf d 160 57 [a0, a1, a2, a3] [.int s0] h = Rf d 160 61 [a0, a1, a2, a3] [.int s0] h := Rf_go ((stp_of c160_57).trans rfl)
theorem c160_28 : cd 160 28 = some (28, .bipush (-2), 2, []) := by decide +kernel
theorem x160_28 {d : Nat} {a0 a1 a2 a3 : Value} {h : AHp} : Rf d 160 28 [a0, a1, a2, a3] [] h = Rf d 160 30 [a0, a1, a2, a3] [.int (-2)] h := Rf_go ((stp_of c160_28).trans rfl)
theorem c160_30 : cd 160 30 = some (30, .ireturn, 1, []) := by decide +kernel
theorem x160_30 {d : Nat} {a0 a1 a2 a3 : Value} {s0 : Int32} {h : AHp} : Rf d 160 30 [a0, a1, a2, a3] [.int s0] h = some (some (.int s0), h) := Rf_end (by rw [stp_of c160_30]; simp only [stpI]; rw [if_pos (show retI (mH 160).2.2.1 s0 = true from retI_int)])
theorem c160_13 : cd 160 13 = some (13, .aload_n 0, 1, []) := by decide +kernel
theorem x160_13 {d : Nat} {a1 a2 a3 : Value} {x : Nat} {h : AHp} : Rf d 160 13 [.ref x, a1, a2, a3] [] h = Rf d 160 14 [.ref x, a1, a2, a3] [.ref x] h := Rf_go ((stp_of c160_13).trans rfl)
theorem c160_14 : cd 160 14 = some (14, .iload_n 2, 1, []) := by decide +kernel
theorem x160_14 {d : Nat} {a0 a1 a3 : Value} {s0 : Nat} {x : Int32} {h : AHp} : Rf d 160 14 [a0, a1, .int x, a3] [.ref s0] h = Rf d 160 15 [a0, a1, .int x, a3] [.int x, .ref s0] h := Rf_go ((stp_of c160_14).trans rfl)
theorem c160_15 : cd 160 15 = some (15, .invokevirtual 140, 3, [(12, 132)]) := by decide +kernel
theorem xc160_15 {d : Nat} {a0 a1 a2 a3 : Value} {s0 : Int32} {s1 : Nat} {h : AHp} {h1 : AHp} {v : Int32} (hr : cls (h.1 s1) = 12) (hq : Rf d 132 0 [.ref s1, .int s0] [] h = some (some (.int v), h1)) : Rf (d + 1) 160 15 [a0, a1, a2, a3] [.int s0, .ref s1] h = Rf (d + 1) 160 18 [a0, a1, a2, a3] [.int v] h1 := clV (c := 132) (as := [.int s0]) c160_15 rfl (by simp [isV]) (by rw [hr]; rfl) hq
theorem c160_18 : cd 160 18 = some (18, .ifCond .ne 5, 3, [(23, 0)]) := by decide +kernel
theorem x160_18 {d : Nat} {a0 a1 a2 a3 : Value} {s0 : Int32} {h : AHp} : Rf d 160 18 [a0, a1, a2, a3] [.int s0] h = if s0 = 0 then Rf d 160 21 [a0, a1, a2, a3] [] h else Rf d 160 23 [a0, a1, a2, a3] [] h := Rf_brn ((stp_of c160_18).trans rfl)
-- 161: X12_beside
theorem c161_0 : cd 161 0 = some (0, .aload_n 0, 1, []) := by decide +kernel
theorem x161_0 {d : Nat} {a1 a2 a3 : Value} {x : Nat} {h : AHp} : Rf d 161 0 [.ref x, a1, a2, a3] [] h = Rf d 161 1 [.ref x, a1, a2, a3] [.ref x] h := Rf_go ((stp_of c161_0).trans rfl)
theorem c161_1 : cd 161 1 = some (1, .getfield 9, 3, [(12, 0)]) := by decide +kernel
theorem x161_1 {d : Nat} {a0 a1 a2 a3 : Value} {s0 : Nat} {h : AHp} : Rf d 161 1 [a0, a1, a2, a3] [.ref s0] h = if cls (h.1 s0) = 12 ∧ oKr (h.1 s0) 0 = true then Rf d 161 4 [a0, a1, a2, a3] [.ref (oR (h.1 s0) 0)] h else Rx d 161 1 [a0, a1, a2, a3] [.ref s0] h := getR c161_1
theorem c161_4 : cd 161 4 = some (4, .bipush 10, 2, []) := by decide +kernel
theorem x161_4 {d : Nat} {a0 a1 a2 a3 : Value} {s0 : Nat} {h : AHp} : Rf d 161 4 [a0, a1, a2, a3] [.ref s0] h = Rf d 161 6 [a0, a1, a2, a3] [.int 10, .ref s0] h := Rf_go ((stp_of c161_4).trans rfl)
theorem c161_6 : cd 161 6 = some (6, .iload_n 1, 1, []) := by decide +kernel
theorem x161_6 {d : Nat} {a0 a2 a3 : Value} {s0 : Int32} {s1 : Nat} {x : Int32} {h : AHp} : Rf d 161 6 [a0, .int x, a2, a3] [.int s0, .ref s1] h = Rf d 161 7 [a0, .int x, a2, a3] [.int x, .int s0, .ref s1] h := Rf_go ((stp_of c161_6).trans rfl)
theorem c161_7 : cd 161 7 = some (7, .iadd, 1, []) := by decide +kernel
theorem x161_7 {d : Nat} {a0 a1 a2 a3 : Value} {s0 : Int32} {s1 : Int32} {s2 : Nat} {h : AHp} : Rf d 161 7 [a0, a1, a2, a3] [.int s0, .int s1, .ref s2] h = Rf d 161 8 [a0, a1, a2, a3] [.int (s1 + s0), .ref s2] h := Rf_go ((stp_of c161_7).trans rfl)
theorem c161_8 : cd 161 8 = some (8, .iaload, 1, []) := by decide +kernel
theorem x161_8 {d : Nat} {a0 a1 a2 a3 : Value} {s0 : Int32} {s1 : Nat} {h : AHp} : Rf d 161 8 [a0, a1, a2, a3] [.int s0, .ref s1] h = if (aT (h.1 s1) = 0 ∨ aT (h.1 s1) = 10) ∧ inB s0 (aN (h.1 s1)) = true then Rf d 161 9 [a0, a1, a2, a3] [.int (aF (h.1 s1) s0.toNatClampNeg)] h else Rx d 161 8 [a0, a1, a2, a3] [.int s0, .ref s1] h := ldI c161_8
theorem c161_9 : cd 161 9 = some (9, .iload_n 2, 1, []) := by decide +kernel
theorem x161_9 {d : Nat} {a0 a1 a3 : Value} {s0 : Int32} {x : Int32} {h : AHp} : Rf d 161 9 [a0, a1, .int x, a3] [.int s0] h = Rf d 161 10 [a0, a1, .int x, a3] [.int x, .int s0] h := Rf_go ((stp_of c161_9).trans rfl)
theorem c161_10 : cd 161 10 = some (10, .iadd, 1, []) := by decide +kernel
theorem x161_10 {d : Nat} {a0 a1 a2 a3 : Value} {s0 : Int32} {s1 : Int32} {h : AHp} : Rf d 161 10 [a0, a1, a2, a3] [.int s0, .int s1] h = Rf d 161 11 [a0, a1, a2, a3] [.int (s1 + s0)] h := Rf_go ((stp_of c161_10).trans rfl)
theorem c161_11 : cd 161 11 = some (11, .istore_n 3, 1, []) := by decide +kernel
theorem x161_11 {d : Nat} {a0 a1 a2 a3 : Value} {s0 : Int32} {h : AHp} : Rf d 161 11 [a0, a1, a2, a3] [.int s0] h = Rf d 161 12 [a0, a1, a2, .int s0] [] h := Rf_go ((stp_of c161_11).trans rfl)
theorem c161_12 : cd 161 12 = some (12, .iload_n 3, 1, []) := by decide +kernel
theorem x161_12 {d : Nat} {a0 a1 a2 : Value} {x : Int32} {h : AHp} : Rf d 161 12 [a0, a1, a2, .int x] [] h = Rf d 161 13 [a0, a1, a2, .int x] [.int x] h := Rf_go ((stp_of c161_12).trans rfl)
theorem c161_13 : cd 161 13 = some (13, .iconst 0, 1, []) := by decide +kernel
theorem x161_13 {d : Nat} {a0 a1 a2 a3 : Value} {s0 : Int32} {h : AHp} : Rf d 161 13 [a0, a1, a2, a3] [.int s0] h = Rf d 161 14 [a0, a1, a2, a3] [.int 0, .int s0] h := Rf_go ((stp_of c161_13).trans rfl)
theorem c161_14 : cd 161 14 = some (14, .bipush 9, 2, []) := by decide +kernel
theorem x161_14 {d : Nat} {a0 a1 a2 a3 : Value} {s0 : Int32} {s1 : Int32} {h : AHp} : Rf d 161 14 [a0, a1, a2, a3] [.int s0, .int s1] h = Rf d 161 16 [a0, a1, a2, a3] [.int 9, .int s0, .int s1] h := Rf_go ((stp_of c161_14).trans rfl)
theorem c161_16 : cd 161 16 = some (16, .invokestatic 31, 3, [(0, 131)]) := by decide +kernel
theorem xc161_16 {d : Nat} {a0 a1 a2 a3 : Value} {s0 : Int32} {s1 : Int32} {s2 : Int32} {h : AHp} {h1 : AHp} {v : Int32} (hq : Rf d 131 0 [.int s2, .int s1, .int s0] [] h = some (some (.int v), h1)) : Rf (d + 1) 161 16 [a0, a1, a2, a3] [.int s0, .int s1, .int s2] h = Rf (d + 1) 161 19 [a0, a1, a2, a3] [.int v] h1 := clS (as := [.int s2, .int s1, .int s0]) c161_16 rfl rfl (by simp [isV]) hq
theorem c161_19 : cd 161 19 = some (19, .ifCond .eq 24, 3, [(43, 0)]) := by decide +kernel
theorem x161_19 {d : Nat} {a0 a1 a2 a3 : Value} {s0 : Int32} {h : AHp} : Rf d 161 19 [a0, a1, a2, a3] [.int s0] h = if s0 = 0 then Rf d 161 43 [a0, a1, a2, a3] [] h else Rf d 161 22 [a0, a1, a2, a3] [] h := Rf_brd ((stp_of c161_19).trans rfl)
theorem c161_43 : cd 161 43 = some (43, .iconst (-1), 1, []) := by decide +kernel
theorem x161_43 {d : Nat} {a0 a1 a2 a3 : Value} {h : AHp} : Rf d 161 43 [a0, a1, a2, a3] [] h = Rf d 161 44 [a0, a1, a2, a3] [.int (-1)] h := Rf_go ((stp_of c161_43).trans rfl)
theorem c161_44 : cd 161 44 = some (44, .ireturn, 1, []) := by decide +kernel
theorem x161_44 {d : Nat} {a0 a1 a2 a3 : Value} {s0 : Int32} {h : AHp} : Rf d 161 44 [a0, a1, a2, a3] [.int s0] h = some (some (.int s0), h) := Rf_end (by rw [stp_of c161_44]; simp only [stpI]; rw [if_pos (show retI (mH 161).2.2.1 s0 = true from retI_int)])
theorem c161_22 : cd 161 22 = some (22, .aload_n 0, 1, []) := by decide +kernel
theorem x161_22 {d : Nat} {a1 a2 a3 : Value} {x : Nat} {h : AHp} : Rf d 161 22 [.ref x, a1, a2, a3] [] h = Rf d 161 23 [.ref x, a1, a2, a3] [.ref x] h := Rf_go ((stp_of c161_22).trans rfl)
theorem c161_23 : cd 161 23 = some (23, .iload_n 3, 1, []) := by decide +kernel
theorem x161_23 {d : Nat} {a0 a1 a2 : Value} {s0 : Nat} {x : Int32} {h : AHp} : Rf d 161 23 [a0, a1, a2, .int x] [.ref s0] h = Rf d 161 24 [a0, a1, a2, .int x] [.int x, .ref s0] h := Rf_go ((stp_of c161_23).trans rfl)
theorem c161_24 : cd 161 24 = some (24, .invokevirtual 136, 3, [(12, 157)]) := by decide +kernel
theorem xc161_24 {d : Nat} {a0 a1 a2 a3 : Value} {s0 : Int32} {s1 : Nat} {h : AHp} {h1 : AHp} {v : Int32} (hr : cls (h.1 s1) = 12) (hq : Rf d 157 0 [.ref s1, .int s0, noV] [] h = some (some (.int v), h1)) : Rf (d + 1) 161 24 [a0, a1, a2, a3] [.int s0, .ref s1] h = Rf (d + 1) 161 27 [a0, a1, a2, a3] [.int v] h1 := clV (c := 157) (as := [.int s0]) c161_24 rfl (by simp [isV]) (by rw [hr]; rfl) hq
theorem c161_27 : cd 161 27 = some (27, .ifCond .lt 9, 3, [(36, 0)]) := by decide +kernel
theorem x161_27 {d : Nat} {a0 a1 a2 a3 : Value} {s0 : Int32} {h : AHp} : Rf d 161 27 [a0, a1, a2, a3] [.int s0] h = if s0 < 0 then Rf d 161 36 [a0, a1, a2, a3] [] h else Rf d 161 30 [a0, a1, a2, a3] [] h := Rf_brd ((stp_of c161_27).trans rfl)
theorem c161_36 : cd 161 36 = some (36, .iload_n 3, 1, []) := by decide +kernel
theorem x161_36 {d : Nat} {a0 a1 a2 : Value} {x : Int32} {h : AHp} : Rf d 161 36 [a0, a1, a2, .int x] [] h = Rf d 161 37 [a0, a1, a2, .int x] [.int x] h := Rf_go ((stp_of c161_36).trans rfl)
theorem c161_37 : cd 161 37 = some (37, .iload_n 2, 1, []) := by decide +kernel
theorem x161_37 {d : Nat} {a0 a1 a3 : Value} {s0 : Int32} {x : Int32} {h : AHp} : Rf d 161 37 [a0, a1, .int x, a3] [.int s0] h = Rf d 161 38 [a0, a1, .int x, a3] [.int x, .int s0] h := Rf_go ((stp_of c161_37).trans rfl)
theorem c161_38 : cd 161 38 = some (38, .iadd, 1, []) := by decide +kernel
theorem x161_38 {d : Nat} {a0 a1 a2 a3 : Value} {s0 : Int32} {s1 : Int32} {h : AHp} : Rf d 161 38 [a0, a1, a2, a3] [.int s0, .int s1] h = Rf d 161 39 [a0, a1, a2, a3] [.int (s1 + s0)] h := Rf_go ((stp_of c161_38).trans rfl)
theorem c161_39 : cd 161 39 = some (39, .istore_n 3, 1, []) := by decide +kernel
theorem x161_39 {d : Nat} {a0 a1 a2 a3 : Value} {s0 : Int32} {h : AHp} : Rf d 161 39 [a0, a1, a2, a3] [.int s0] h = Rf d 161 40 [a0, a1, a2, .int s0] [] h := Rf_go ((stp_of c161_39).trans rfl)
theorem c161_40 : cd 161 40 = some (40, .goto (-28), 3, [(12, 0)]) := by decide +kernel
theorem x161_40 {d : Nat} {a0 a1 a2 a3 : Value} {h : AHp} : Rf d 161 40 [a0, a1, a2, a3] [] h = Rf d 161 12 [a0, a1, a2, a3] [] h := Rf_go ((stp_of c161_40).trans rfl)
theorem c161_30 : cd 161 30 = some (30, .aload_n 0, 1, []) := by decide +kernel
theorem x161_30 {d : Nat} {a1 a2 a3 : Value} {x : Nat} {h : AHp} : Rf d 161 30 [.ref x, a1, a2, a3] [] h = Rf d 161 31 [.ref x, a1, a2, a3] [.ref x] h := Rf_go ((stp_of c161_30).trans rfl)
theorem c161_31 : cd 161 31 = some (31, .iload_n 3, 1, []) := by decide +kernel
theorem x161_31 {d : Nat} {a0 a1 a2 : Value} {s0 : Nat} {x : Int32} {h : AHp} : Rf d 161 31 [a0, a1, a2, .int x] [.ref s0] h = Rf d 161 32 [a0, a1, a2, .int x] [.int x, .ref s0] h := Rf_go ((stp_of c161_31).trans rfl)
theorem c161_32 : cd 161 32 = some (32, .invokevirtual 136, 3, [(12, 157)]) := by decide +kernel
theorem xc161_32 {d : Nat} {a0 a1 a2 a3 : Value} {s0 : Int32} {s1 : Nat} {h : AHp} {h1 : AHp} {v : Int32} (hr : cls (h.1 s1) = 12) (hq : Rf d 157 0 [.ref s1, .int s0, noV] [] h = some (some (.int v), h1)) : Rf (d + 1) 161 32 [a0, a1, a2, a3] [.int s0, .ref s1] h = Rf (d + 1) 161 35 [a0, a1, a2, a3] [.int v] h1 := clV (c := 157) (as := [.int s0]) c161_32 rfl (by simp [isV]) (by rw [hr]; rfl) hq
theorem c161_35 : cd 161 35 = some (35, .ireturn, 1, []) := by decide +kernel
theorem x161_35 {d : Nat} {a0 a1 a2 a3 : Value} {s0 : Int32} {h : AHp} : Rf d 161 35 [a0, a1, a2, a3] [.int s0] h = some (some (.int s0), h) := Rf_end (by rw [stp_of c161_35]; simp only [stpI]; rw [if_pos (show retI (mH 161).2.2.1 s0 = true from retI_int)])
-- 162: X12_belief
theorem c162_0 : cd 162 0 = some (0, .aload_n 0, 1, []) := by decide +kernel
theorem x162_0 {d : Nat} {a1 a2 a3 a4 a5 a6 a7 a8 a9 : Value} {x : Nat} {h : AHp} : Rf d 162 0 [.ref x, a1, a2, a3, a4, a5, a6, a7, a8, a9] [] h = Rf d 162 1 [.ref x, a1, a2, a3, a4, a5, a6, a7, a8, a9] [.ref x] h := Rf_go ((stp_of c162_0).trans rfl)
theorem c162_1 : cd 162 1 = some (1, .getfield 9, 3, [(12, 0)]) := by decide +kernel
theorem x162_1 {d : Nat} {a0 a1 a2 a3 a4 a5 a6 a7 a8 a9 : Value} {s0 : Nat} {h : AHp} : Rf d 162 1 [a0, a1, a2, a3, a4, a5, a6, a7, a8, a9] [.ref s0] h = if cls (h.1 s0) = 12 ∧ oKr (h.1 s0) 0 = true then Rf d 162 4 [a0, a1, a2, a3, a4, a5, a6, a7, a8, a9] [.ref (oR (h.1 s0) 0)] h else Rx d 162 1 [a0, a1, a2, a3, a4, a5, a6, a7, a8, a9] [.ref s0] h := getR c162_1
theorem c162_4 : cd 162 4 = some (4, .bipush 60, 2, []) := by decide +kernel
theorem x162_4 {d : Nat} {a0 a1 a2 a3 a4 a5 a6 a7 a8 a9 : Value} {s0 : Nat} {h : AHp} : Rf d 162 4 [a0, a1, a2, a3, a4, a5, a6, a7, a8, a9] [.ref s0] h = Rf d 162 6 [a0, a1, a2, a3, a4, a5, a6, a7, a8, a9] [.int 60, .ref s0] h := Rf_go ((stp_of c162_4).trans rfl)
theorem c162_6 : cd 162 6 = some (6, .iload_n 1, 1, []) := by decide +kernel
theorem x162_6 {d : Nat} {a0 a2 a3 a4 a5 a6 a7 a8 a9 : Value} {s0 : Int32} {s1 : Nat} {x : Int32} {h : AHp} : Rf d 162 6 [a0, .int x, a2, a3, a4, a5, a6, a7, a8, a9] [.int s0, .ref s1] h = Rf d 162 7 [a0, .int x, a2, a3, a4, a5, a6, a7, a8, a9] [.int x, .int s0, .ref s1] h := Rf_go ((stp_of c162_6).trans rfl)
theorem c162_7 : cd 162 7 = some (7, .iadd, 1, []) := by decide +kernel
theorem x162_7 {d : Nat} {a0 a1 a2 a3 a4 a5 a6 a7 a8 a9 : Value} {s0 : Int32} {s1 : Int32} {s2 : Nat} {h : AHp} : Rf d 162 7 [a0, a1, a2, a3, a4, a5, a6, a7, a8, a9] [.int s0, .int s1, .ref s2] h = Rf d 162 8 [a0, a1, a2, a3, a4, a5, a6, a7, a8, a9] [.int (s1 + s0), .ref s2] h := Rf_go ((stp_of c162_7).trans rfl)
theorem c162_8 : cd 162 8 = some (8, .iaload, 1, []) := by decide +kernel
theorem x162_8 {d : Nat} {a0 a1 a2 a3 a4 a5 a6 a7 a8 a9 : Value} {s0 : Int32} {s1 : Nat} {h : AHp} : Rf d 162 8 [a0, a1, a2, a3, a4, a5, a6, a7, a8, a9] [.int s0, .ref s1] h = if (aT (h.1 s1) = 0 ∨ aT (h.1 s1) = 10) ∧ inB s0 (aN (h.1 s1)) = true then Rf d 162 9 [a0, a1, a2, a3, a4, a5, a6, a7, a8, a9] [.int (aF (h.1 s1) s0.toNatClampNeg)] h else Rx d 162 8 [a0, a1, a2, a3, a4, a5, a6, a7, a8, a9] [.int s0, .ref s1] h := ldI c162_8
theorem c162_9 : cd 162 9 = some (9, .istore_n 2, 1, []) := by decide +kernel
theorem x162_9 {d : Nat} {a0 a1 a2 a3 a4 a5 a6 a7 a8 a9 : Value} {s0 : Int32} {h : AHp} : Rf d 162 9 [a0, a1, a2, a3, a4, a5, a6, a7, a8, a9] [.int s0] h = Rf d 162 10 [a0, a1, .int s0, a3, a4, a5, a6, a7, a8, a9] [] h := Rf_go ((stp_of c162_9).trans rfl)
theorem c162_10 : cd 162 10 = some (10, .aload_n 0, 1, []) := by decide +kernel
theorem x162_10 {d : Nat} {a1 a2 a3 a4 a5 a6 a7 a8 a9 : Value} {x : Nat} {h : AHp} : Rf d 162 10 [.ref x, a1, a2, a3, a4, a5, a6, a7, a8, a9] [] h = Rf d 162 11 [.ref x, a1, a2, a3, a4, a5, a6, a7, a8, a9] [.ref x] h := Rf_go ((stp_of c162_10).trans rfl)
theorem c162_11 : cd 162 11 = some (11, .getfield 9, 3, [(12, 0)]) := by decide +kernel
theorem x162_11 {d : Nat} {a0 a1 a2 a3 a4 a5 a6 a7 a8 a9 : Value} {s0 : Nat} {h : AHp} : Rf d 162 11 [a0, a1, a2, a3, a4, a5, a6, a7, a8, a9] [.ref s0] h = if cls (h.1 s0) = 12 ∧ oKr (h.1 s0) 0 = true then Rf d 162 14 [a0, a1, a2, a3, a4, a5, a6, a7, a8, a9] [.ref (oR (h.1 s0) 0)] h else Rx d 162 11 [a0, a1, a2, a3, a4, a5, a6, a7, a8, a9] [.ref s0] h := getR c162_11
theorem c162_14 : cd 162 14 = some (14, .iconst 5, 1, []) := by decide +kernel
theorem x162_14 {d : Nat} {a0 a1 a2 a3 a4 a5 a6 a7 a8 a9 : Value} {s0 : Nat} {h : AHp} : Rf d 162 14 [a0, a1, a2, a3, a4, a5, a6, a7, a8, a9] [.ref s0] h = Rf d 162 15 [a0, a1, a2, a3, a4, a5, a6, a7, a8, a9] [.int 5, .ref s0] h := Rf_go ((stp_of c162_14).trans rfl)
theorem c162_15 : cd 162 15 = some (15, .iaload, 1, []) := by decide +kernel
theorem x162_15 {d : Nat} {a0 a1 a2 a3 a4 a5 a6 a7 a8 a9 : Value} {s0 : Int32} {s1 : Nat} {h : AHp} : Rf d 162 15 [a0, a1, a2, a3, a4, a5, a6, a7, a8, a9] [.int s0, .ref s1] h = if (aT (h.1 s1) = 0 ∨ aT (h.1 s1) = 10) ∧ inB s0 (aN (h.1 s1)) = true then Rf d 162 16 [a0, a1, a2, a3, a4, a5, a6, a7, a8, a9] [.int (aF (h.1 s1) s0.toNatClampNeg)] h else Rx d 162 15 [a0, a1, a2, a3, a4, a5, a6, a7, a8, a9] [.int s0, .ref s1] h := ldI c162_15
theorem c162_16 : cd 162 16 = some (16, .iconst 1, 1, []) := by decide +kernel
theorem x162_16 {d : Nat} {a0 a1 a2 a3 a4 a5 a6 a7 a8 a9 : Value} {s0 : Int32} {h : AHp} : Rf d 162 16 [a0, a1, a2, a3, a4, a5, a6, a7, a8, a9] [.int s0] h = Rf d 162 17 [a0, a1, a2, a3, a4, a5, a6, a7, a8, a9] [.int 1, .int s0] h := Rf_go ((stp_of c162_16).trans rfl)
theorem c162_17 : cd 162 17 = some (17, .if_icmp .le 8, 3, [(25, 0)]) := by decide +kernel
theorem x162_17 {d : Nat} {a0 a1 a2 a3 a4 a5 a6 a7 a8 a9 : Value} {s0 : Int32} {s1 : Int32} {h : AHp} : Rf d 162 17 [a0, a1, a2, a3, a4, a5, a6, a7, a8, a9] [.int s0, .int s1] h = if s0 < s1 then Rf d 162 20 [a0, a1, a2, a3, a4, a5, a6, a7, a8, a9] [] h else Rf d 162 25 [a0, a1, a2, a3, a4, a5, a6, a7, a8, a9] [] h := Rf_brn ((stp_of c162_17).trans rfl)
theorem c162_25 : cd 162 25 = some (25, .aload_n 0, 1, []) := by decide +kernel
theorem x162_25 {d : Nat} {a1 a2 a3 a4 a5 a6 a7 a8 a9 : Value} {x : Nat} {h : AHp} : Rf d 162 25 [.ref x, a1, a2, a3, a4, a5, a6, a7, a8, a9] [] h = Rf d 162 26 [.ref x, a1, a2, a3, a4, a5, a6, a7, a8, a9] [.ref x] h := Rf_go ((stp_of c162_25).trans rfl)
theorem c162_26 : cd 162 26 = some (26, .getfield 9, 3, [(12, 0)]) := by decide +kernel
theorem x162_26 {d : Nat} {a0 a1 a2 a3 a4 a5 a6 a7 a8 a9 : Value} {s0 : Nat} {h : AHp} : Rf d 162 26 [a0, a1, a2, a3, a4, a5, a6, a7, a8, a9] [.ref s0] h = if cls (h.1 s0) = 12 ∧ oKr (h.1 s0) 0 = true then Rf d 162 29 [a0, a1, a2, a3, a4, a5, a6, a7, a8, a9] [.ref (oR (h.1 s0) 0)] h else Rx d 162 26 [a0, a1, a2, a3, a4, a5, a6, a7, a8, a9] [.ref s0] h := getR c162_26
theorem c162_29 : cd 162 29 = some (29, .iconst 5, 1, []) := by decide +kernel
theorem x162_29 {d : Nat} {a0 a1 a2 a3 a4 a5 a6 a7 a8 a9 : Value} {s0 : Nat} {h : AHp} : Rf d 162 29 [a0, a1, a2, a3, a4, a5, a6, a7, a8, a9] [.ref s0] h = Rf d 162 30 [a0, a1, a2, a3, a4, a5, a6, a7, a8, a9] [.int 5, .ref s0] h := Rf_go ((stp_of c162_29).trans rfl)
theorem c162_30 : cd 162 30 = some (30, .iaload, 1, []) := by decide +kernel
theorem x162_30 {d : Nat} {a0 a1 a2 a3 a4 a5 a6 a7 a8 a9 : Value} {s0 : Int32} {s1 : Nat} {h : AHp} : Rf d 162 30 [a0, a1, a2, a3, a4, a5, a6, a7, a8, a9] [.int s0, .ref s1] h = if (aT (h.1 s1) = 0 ∨ aT (h.1 s1) = 10) ∧ inB s0 (aN (h.1 s1)) = true then Rf d 162 31 [a0, a1, a2, a3, a4, a5, a6, a7, a8, a9] [.int (aF (h.1 s1) s0.toNatClampNeg)] h else Rx d 162 30 [a0, a1, a2, a3, a4, a5, a6, a7, a8, a9] [.int s0, .ref s1] h := ldI c162_30
theorem c162_31 : cd 162 31 = some (31, .iconst 1, 1, []) := by decide +kernel
theorem x162_31 {d : Nat} {a0 a1 a2 a3 a4 a5 a6 a7 a8 a9 : Value} {s0 : Int32} {h : AHp} : Rf d 162 31 [a0, a1, a2, a3, a4, a5, a6, a7, a8, a9] [.int s0] h = Rf d 162 32 [a0, a1, a2, a3, a4, a5, a6, a7, a8, a9] [.int 1, .int s0] h := Rf_go ((stp_of c162_31).trans rfl)
theorem c162_32 : cd 162 32 = some (32, .if_icmp .ne 10, 3, [(42, 0)]) := by decide +kernel
theorem x162_32 {d : Nat} {a0 a1 a2 a3 a4 a5 a6 a7 a8 a9 : Value} {s0 : Int32} {s1 : Int32} {h : AHp} : Rf d 162 32 [a0, a1, a2, a3, a4, a5, a6, a7, a8, a9] [.int s0, .int s1] h = if s1 = s0 then Rf d 162 35 [a0, a1, a2, a3, a4, a5, a6, a7, a8, a9] [] h else Rf d 162 42 [a0, a1, a2, a3, a4, a5, a6, a7, a8, a9] [] h := Rf_brn ((stp_of c162_32).trans rfl)
theorem c162_42 : cd 162 42 = some (42, .iload_n 2, 1, []) := by decide +kernel
theorem x162_42 {d : Nat} {a0 a1 a3 a4 a5 a6 a7 a8 a9 : Value} {x : Int32} {h : AHp} : Rf d 162 42 [a0, a1, .int x, a3, a4, a5, a6, a7, a8, a9] [] h = Rf d 162 43 [a0, a1, .int x, a3, a4, a5, a6, a7, a8, a9] [.int x] h := Rf_go ((stp_of c162_42).trans rfl)
theorem c162_43 : cd 162 43 = some (43, .tableswitch 182 0 6 #[41, 182, 51, 63, 182, 83, 159], 41, [(0, 225), (0, 84), (1, 225), (2, 94), (3, 106), (4, 225), (5, 126), (6, 202)]) := by decide +kernel
theorem x162_43 {d : Nat} {a0 a1 a2 a3 a4 a5 a6 a7 a8 a9 : Value} {s0 : Int32} {h : AHp} : Rf d 162 43 [a0, a1, a2, a3, a4, a5, a6, a7, a8, a9] [.int s0] h = if s0 = 0 then Rf d 162 84 [a0, a1, a2, a3, a4, a5, a6, a7, a8, a9] [] h else (if s0 = 1 then Rf d 162 225 [a0, a1, a2, a3, a4, a5, a6, a7, a8, a9] [] h else (if s0 = 2 then Rf d 162 94 [a0, a1, a2, a3, a4, a5, a6, a7, a8, a9] [] h else (if s0 = 3 then Rf d 162 106 [a0, a1, a2, a3, a4, a5, a6, a7, a8, a9] [] h else (if s0 = 4 then Rf d 162 225 [a0, a1, a2, a3, a4, a5, a6, a7, a8, a9] [] h else (if s0 = 5 then Rf d 162 126 [a0, a1, a2, a3, a4, a5, a6, a7, a8, a9] [] h else (if s0 = 6 then Rf d 162 202 [a0, a1, a2, a3, a4, a5, a6, a7, a8, a9] [] h else (Rf d 162 225 [a0, a1, a2, a3, a4, a5, a6, a7, a8, a9] [] h))))))) := (swE (e := 225) c162_43 rfl).trans (by simp only [List.drop, swT, Rf_ite]; rfl)
theorem c162_202 : cd 162 202 = some (202, .aload_n 0, 1, []) := by decide +kernel
theorem x162_202 {d : Nat} {a1 a2 a3 a4 a5 a6 a7 a8 a9 : Value} {x : Nat} {h : AHp} : Rf d 162 202 [.ref x, a1, a2, a3, a4, a5, a6, a7, a8, a9] [] h = Rf d 162 203 [.ref x, a1, a2, a3, a4, a5, a6, a7, a8, a9] [.ref x] h := Rf_go ((stp_of c162_202).trans rfl)
theorem c162_203 : cd 162 203 = some (203, .getfield 9, 3, [(12, 0)]) := by decide +kernel
theorem x162_203 {d : Nat} {a0 a1 a2 a3 a4 a5 a6 a7 a8 a9 : Value} {s0 : Nat} {h : AHp} : Rf d 162 203 [a0, a1, a2, a3, a4, a5, a6, a7, a8, a9] [.ref s0] h = if cls (h.1 s0) = 12 ∧ oKr (h.1 s0) 0 = true then Rf d 162 206 [a0, a1, a2, a3, a4, a5, a6, a7, a8, a9] [.ref (oR (h.1 s0) 0)] h else Rx d 162 203 [a0, a1, a2, a3, a4, a5, a6, a7, a8, a9] [.ref s0] h := getR c162_203
theorem c162_206 : cd 162 206 = some (206, .bipush 20, 2, []) := by decide +kernel
theorem x162_206 {d : Nat} {a0 a1 a2 a3 a4 a5 a6 a7 a8 a9 : Value} {s0 : Nat} {h : AHp} : Rf d 162 206 [a0, a1, a2, a3, a4, a5, a6, a7, a8, a9] [.ref s0] h = Rf d 162 208 [a0, a1, a2, a3, a4, a5, a6, a7, a8, a9] [.int 20, .ref s0] h := Rf_go ((stp_of c162_206).trans rfl)
theorem c162_208 : cd 162 208 = some (208, .iload_n 1, 1, []) := by decide +kernel
theorem x162_208 {d : Nat} {a0 a2 a3 a4 a5 a6 a7 a8 a9 : Value} {s0 : Int32} {s1 : Nat} {x : Int32} {h : AHp} : Rf d 162 208 [a0, .int x, a2, a3, a4, a5, a6, a7, a8, a9] [.int s0, .ref s1] h = Rf d 162 209 [a0, .int x, a2, a3, a4, a5, a6, a7, a8, a9] [.int x, .int s0, .ref s1] h := Rf_go ((stp_of c162_208).trans rfl)
theorem c162_209 : cd 162 209 = some (209, .iadd, 1, []) := by decide +kernel
theorem x162_209 {d : Nat} {a0 a1 a2 a3 a4 a5 a6 a7 a8 a9 : Value} {s0 : Int32} {s1 : Int32} {s2 : Nat} {h : AHp} : Rf d 162 209 [a0, a1, a2, a3, a4, a5, a6, a7, a8, a9] [.int s0, .int s1, .ref s2] h = Rf d 162 210 [a0, a1, a2, a3, a4, a5, a6, a7, a8, a9] [.int (s1 + s0), .ref s2] h := Rf_go ((stp_of c162_209).trans rfl)
theorem c162_210 : cd 162 210 = some (210, .iaload, 1, []) := by decide +kernel
theorem x162_210 {d : Nat} {a0 a1 a2 a3 a4 a5 a6 a7 a8 a9 : Value} {s0 : Int32} {s1 : Nat} {h : AHp} : Rf d 162 210 [a0, a1, a2, a3, a4, a5, a6, a7, a8, a9] [.int s0, .ref s1] h = if (aT (h.1 s1) = 0 ∨ aT (h.1 s1) = 10) ∧ inB s0 (aN (h.1 s1)) = true then Rf d 162 211 [a0, a1, a2, a3, a4, a5, a6, a7, a8, a9] [.int (aF (h.1 s1) s0.toNatClampNeg)] h else Rx d 162 210 [a0, a1, a2, a3, a4, a5, a6, a7, a8, a9] [.int s0, .ref s1] h := ldI c162_210
theorem c162_211 : cd 162 211 = some (211, .bipush 11, 2, []) := by decide +kernel
theorem x162_211 {d : Nat} {a0 a1 a2 a3 a4 a5 a6 a7 a8 a9 : Value} {s0 : Int32} {h : AHp} : Rf d 162 211 [a0, a1, a2, a3, a4, a5, a6, a7, a8, a9] [.int s0] h = Rf d 162 213 [a0, a1, a2, a3, a4, a5, a6, a7, a8, a9] [.int 11, .int s0] h := Rf_go ((stp_of c162_211).trans rfl)
theorem c162_213 : cd 162 213 = some (213, .aload_n 0, 1, []) := by decide +kernel
theorem x162_213 {d : Nat} {a1 a2 a3 a4 a5 a6 a7 a8 a9 : Value} {s0 : Int32} {s1 : Int32} {x : Nat} {h : AHp} : Rf d 162 213 [.ref x, a1, a2, a3, a4, a5, a6, a7, a8, a9] [.int s0, .int s1] h = Rf d 162 214 [.ref x, a1, a2, a3, a4, a5, a6, a7, a8, a9] [.ref x, .int s0, .int s1] h := Rf_go ((stp_of c162_213).trans rfl)
theorem c162_214 : cd 162 214 = some (214, .getfield 9, 3, [(12, 0)]) := by decide +kernel
theorem x162_214 {d : Nat} {a0 a1 a2 a3 a4 a5 a6 a7 a8 a9 : Value} {s0 : Nat} {s1 : Int32} {s2 : Int32} {h : AHp} : Rf d 162 214 [a0, a1, a2, a3, a4, a5, a6, a7, a8, a9] [.ref s0, .int s1, .int s2] h = if cls (h.1 s0) = 12 ∧ oKr (h.1 s0) 0 = true then Rf d 162 217 [a0, a1, a2, a3, a4, a5, a6, a7, a8, a9] [.ref (oR (h.1 s0) 0), .int s1, .int s2] h else Rx d 162 214 [a0, a1, a2, a3, a4, a5, a6, a7, a8, a9] [.ref s0, .int s1, .int s2] h := getR c162_214
theorem c162_217 : cd 162 217 = some (217, .bipush 70, 2, []) := by decide +kernel
theorem x162_217 {d : Nat} {a0 a1 a2 a3 a4 a5 a6 a7 a8 a9 : Value} {s0 : Nat} {s1 : Int32} {s2 : Int32} {h : AHp} : Rf d 162 217 [a0, a1, a2, a3, a4, a5, a6, a7, a8, a9] [.ref s0, .int s1, .int s2] h = Rf d 162 219 [a0, a1, a2, a3, a4, a5, a6, a7, a8, a9] [.int 70, .ref s0, .int s1, .int s2] h := Rf_go ((stp_of c162_217).trans rfl)
theorem c162_219 : cd 162 219 = some (219, .iload_n 1, 1, []) := by decide +kernel
theorem x162_219 {d : Nat} {a0 a2 a3 a4 a5 a6 a7 a8 a9 : Value} {s0 : Int32} {s1 : Nat} {s2 : Int32} {s3 : Int32} {x : Int32} {h : AHp} : Rf d 162 219 [a0, .int x, a2, a3, a4, a5, a6, a7, a8, a9] [.int s0, .ref s1, .int s2, .int s3] h = Rf d 162 220 [a0, .int x, a2, a3, a4, a5, a6, a7, a8, a9] [.int x, .int s0, .ref s1, .int s2, .int s3] h := Rf_go ((stp_of c162_219).trans rfl)
theorem c162_220 : cd 162 220 = some (220, .iadd, 1, []) := by decide +kernel
theorem x162_220 {d : Nat} {a0 a1 a2 a3 a4 a5 a6 a7 a8 a9 : Value} {s0 : Int32} {s1 : Int32} {s2 : Nat} {s3 : Int32} {s4 : Int32} {h : AHp} : Rf d 162 220 [a0, a1, a2, a3, a4, a5, a6, a7, a8, a9] [.int s0, .int s1, .ref s2, .int s3, .int s4] h = Rf d 162 221 [a0, a1, a2, a3, a4, a5, a6, a7, a8, a9] [.int (s1 + s0), .ref s2, .int s3, .int s4] h := Rf_go ((stp_of c162_220).trans rfl)
theorem c162_221 : cd 162 221 = some (221, .iaload, 1, []) := by decide +kernel
theorem x162_221 {d : Nat} {a0 a1 a2 a3 a4 a5 a6 a7 a8 a9 : Value} {s0 : Int32} {s1 : Nat} {s2 : Int32} {s3 : Int32} {h : AHp} : Rf d 162 221 [a0, a1, a2, a3, a4, a5, a6, a7, a8, a9] [.int s0, .ref s1, .int s2, .int s3] h = if (aT (h.1 s1) = 0 ∨ aT (h.1 s1) = 10) ∧ inB s0 (aN (h.1 s1)) = true then Rf d 162 222 [a0, a1, a2, a3, a4, a5, a6, a7, a8, a9] [.int (aF (h.1 s1) s0.toNatClampNeg), .int s2, .int s3] h else Rx d 162 221 [a0, a1, a2, a3, a4, a5, a6, a7, a8, a9] [.int s0, .ref s1, .int s2, .int s3] h := ldI c162_221
theorem c162_222 : cd 162 222 = some (222, .imul, 1, []) := by decide +kernel
theorem x162_222 {d : Nat} {a0 a1 a2 a3 a4 a5 a6 a7 a8 a9 : Value} {s0 : Int32} {s1 : Int32} {s2 : Int32} {h : AHp} : Rf d 162 222 [a0, a1, a2, a3, a4, a5, a6, a7, a8, a9] [.int s0, .int s1, .int s2] h = Rf d 162 223 [a0, a1, a2, a3, a4, a5, a6, a7, a8, a9] [.int (s1 * s0), .int s2] h := Rf_go ((stp_of c162_222).trans rfl)
theorem c162_223 : cd 162 223 = some (223, .iadd, 1, []) := by decide +kernel
theorem x162_223 {d : Nat} {a0 a1 a2 a3 a4 a5 a6 a7 a8 a9 : Value} {s0 : Int32} {s1 : Int32} {h : AHp} : Rf d 162 223 [a0, a1, a2, a3, a4, a5, a6, a7, a8, a9] [.int s0, .int s1] h = Rf d 162 224 [a0, a1, a2, a3, a4, a5, a6, a7, a8, a9] [.int (s1 + s0)] h := Rf_go ((stp_of c162_223).trans rfl)
theorem c162_224 : cd 162 224 = some (224, .ireturn, 1, []) := by decide +kernel
theorem x162_224 {d : Nat} {a0 a1 a2 a3 a4 a5 a6 a7 a8 a9 : Value} {s0 : Int32} {h : AHp} : Rf d 162 224 [a0, a1, a2, a3, a4, a5, a6, a7, a8, a9] [.int s0] h = some (some (.int s0), h) := Rf_end (by rw [stp_of c162_224]; simp only [stpI]; rw [if_pos (show retI (mH 162).2.2.1 s0 = true from retI_int)])
theorem c162_126 : cd 162 126 = some (126, .aload_n 0, 1, []) := by decide +kernel
theorem x162_126 {d : Nat} {a1 a2 a3 a4 a5 a6 a7 a8 a9 : Value} {x : Nat} {h : AHp} : Rf d 162 126 [.ref x, a1, a2, a3, a4, a5, a6, a7, a8, a9] [] h = Rf d 162 127 [.ref x, a1, a2, a3, a4, a5, a6, a7, a8, a9] [.ref x] h := Rf_go ((stp_of c162_126).trans rfl)
theorem c162_127 : cd 162 127 = some (127, .getfield 9, 3, [(12, 0)]) := by decide +kernel
theorem x162_127 {d : Nat} {a0 a1 a2 a3 a4 a5 a6 a7 a8 a9 : Value} {s0 : Nat} {h : AHp} : Rf d 162 127 [a0, a1, a2, a3, a4, a5, a6, a7, a8, a9] [.ref s0] h = if cls (h.1 s0) = 12 ∧ oKr (h.1 s0) 0 = true then Rf d 162 130 [a0, a1, a2, a3, a4, a5, a6, a7, a8, a9] [.ref (oR (h.1 s0) 0)] h else Rx d 162 127 [a0, a1, a2, a3, a4, a5, a6, a7, a8, a9] [.ref s0] h := getR c162_127
theorem c162_130 : cd 162 130 = some (130, .bipush 20, 2, []) := by decide +kernel
theorem x162_130 {d : Nat} {a0 a1 a2 a3 a4 a5 a6 a7 a8 a9 : Value} {s0 : Nat} {h : AHp} : Rf d 162 130 [a0, a1, a2, a3, a4, a5, a6, a7, a8, a9] [.ref s0] h = Rf d 162 132 [a0, a1, a2, a3, a4, a5, a6, a7, a8, a9] [.int 20, .ref s0] h := Rf_go ((stp_of c162_130).trans rfl)
theorem c162_132 : cd 162 132 = some (132, .iaload, 1, []) := by decide +kernel
theorem x162_132 {d : Nat} {a0 a1 a2 a3 a4 a5 a6 a7 a8 a9 : Value} {s0 : Int32} {s1 : Nat} {h : AHp} : Rf d 162 132 [a0, a1, a2, a3, a4, a5, a6, a7, a8, a9] [.int s0, .ref s1] h = if (aT (h.1 s1) = 0 ∨ aT (h.1 s1) = 10) ∧ inB s0 (aN (h.1 s1)) = true then Rf d 162 133 [a0, a1, a2, a3, a4, a5, a6, a7, a8, a9] [.int (aF (h.1 s1) s0.toNatClampNeg)] h else Rx d 162 132 [a0, a1, a2, a3, a4, a5, a6, a7, a8, a9] [.int s0, .ref s1] h := ldI c162_132
theorem c162_133 : cd 162 133 = some (133, .istore_n 3, 1, []) := by decide +kernel
theorem x162_133 {d : Nat} {a0 a1 a2 a3 a4 a5 a6 a7 a8 a9 : Value} {s0 : Int32} {h : AHp} : Rf d 162 133 [a0, a1, a2, a3, a4, a5, a6, a7, a8, a9] [.int s0] h = Rf d 162 134 [a0, a1, a2, .int s0, a4, a5, a6, a7, a8, a9] [] h := Rf_go ((stp_of c162_133).trans rfl)
theorem c162_134 : cd 162 134 = some (134, .aload_n 0, 1, []) := by decide +kernel
theorem x162_134 {d : Nat} {a1 a2 a3 a4 a5 a6 a7 a8 a9 : Value} {x : Nat} {h : AHp} : Rf d 162 134 [.ref x, a1, a2, a3, a4, a5, a6, a7, a8, a9] [] h = Rf d 162 135 [.ref x, a1, a2, a3, a4, a5, a6, a7, a8, a9] [.ref x] h := Rf_go ((stp_of c162_134).trans rfl)
theorem c162_135 : cd 162 135 = some (135, .getfield 9, 3, [(12, 0)]) := by decide +kernel
theorem x162_135 {d : Nat} {a0 a1 a2 a3 a4 a5 a6 a7 a8 a9 : Value} {s0 : Nat} {h : AHp} : Rf d 162 135 [a0, a1, a2, a3, a4, a5, a6, a7, a8, a9] [.ref s0] h = if cls (h.1 s0) = 12 ∧ oKr (h.1 s0) 0 = true then Rf d 162 138 [a0, a1, a2, a3, a4, a5, a6, a7, a8, a9] [.ref (oR (h.1 s0) 0)] h else Rx d 162 135 [a0, a1, a2, a3, a4, a5, a6, a7, a8, a9] [.ref s0] h := getR c162_135
theorem c162_138 : cd 162 138 = some (138, .bipush 20, 2, []) := by decide +kernel
theorem x162_138 {d : Nat} {a0 a1 a2 a3 a4 a5 a6 a7 a8 a9 : Value} {s0 : Nat} {h : AHp} : Rf d 162 138 [a0, a1, a2, a3, a4, a5, a6, a7, a8, a9] [.ref s0] h = Rf d 162 140 [a0, a1, a2, a3, a4, a5, a6, a7, a8, a9] [.int 20, .ref s0] h := Rf_go ((stp_of c162_138).trans rfl)
theorem c162_140 : cd 162 140 = some (140, .iaload, 1, []) := by decide +kernel
theorem x162_140 {d : Nat} {a0 a1 a2 a3 a4 a5 a6 a7 a8 a9 : Value} {s0 : Int32} {s1 : Nat} {h : AHp} : Rf d 162 140 [a0, a1, a2, a3, a4, a5, a6, a7, a8, a9] [.int s0, .ref s1] h = if (aT (h.1 s1) = 0 ∨ aT (h.1 s1) = 10) ∧ inB s0 (aN (h.1 s1)) = true then Rf d 162 141 [a0, a1, a2, a3, a4, a5, a6, a7, a8, a9] [.int (aF (h.1 s1) s0.toNatClampNeg)] h else Rx d 162 140 [a0, a1, a2, a3, a4, a5, a6, a7, a8, a9] [.int s0, .ref s1] h := ldI c162_140
theorem c162_141 : cd 162 141 = some (141, .istore 4, 2, []) := by decide +kernel
theorem x162_141 {d : Nat} {a0 a1 a2 a3 a4 a5 a6 a7 a8 a9 : Value} {s0 : Int32} {h : AHp} : Rf d 162 141 [a0, a1, a2, a3, a4, a5, a6, a7, a8, a9] [.int s0] h = Rf d 162 143 [a0, a1, a2, a3, .int s0, a5, a6, a7, a8, a9] [] h := Rf_go ((stp_of c162_141).trans rfl)
theorem c162_143 : cd 162 143 = some (143, .iconst 1, 1, []) := by decide +kernel
theorem x162_143 {d : Nat} {a0 a1 a2 a3 a4 a5 a6 a7 a8 a9 : Value} {h : AHp} : Rf d 162 143 [a0, a1, a2, a3, a4, a5, a6, a7, a8, a9] [] h = Rf d 162 144 [a0, a1, a2, a3, a4, a5, a6, a7, a8, a9] [.int 1] h := Rf_go ((stp_of c162_143).trans rfl)
theorem c162_144 : cd 162 144 = some (144, .istore 5, 2, []) := by decide +kernel
theorem x162_144 {d : Nat} {a0 a1 a2 a3 a4 a5 a6 a7 a8 a9 : Value} {s0 : Int32} {h : AHp} : Rf d 162 144 [a0, a1, a2, a3, a4, a5, a6, a7, a8, a9] [.int s0] h = Rf d 162 146 [a0, a1, a2, a3, a4, .int s0, a6, a7, a8, a9] [] h := Rf_go ((stp_of c162_144).trans rfl)
theorem c162_146 : cd 162 146 = some (146, .iload 5, 2, []) := by decide +kernel
theorem x162_146 {d : Nat} {a0 a1 a2 a3 a4 a6 a7 a8 a9 : Value} {x : Int32} {h : AHp} : Rf d 162 146 [a0, a1, a2, a3, a4, .int x, a6, a7, a8, a9] [] h = Rf d 162 148 [a0, a1, a2, a3, a4, .int x, a6, a7, a8, a9] [.int x] h := Rf_go ((stp_of c162_146).trans rfl)
theorem c162_148 : cd 162 148 = some (148, .aload_n 0, 1, []) := by decide +kernel
theorem x162_148 {d : Nat} {a1 a2 a3 a4 a5 a6 a7 a8 a9 : Value} {s0 : Int32} {x : Nat} {h : AHp} : Rf d 162 148 [.ref x, a1, a2, a3, a4, a5, a6, a7, a8, a9] [.int s0] h = Rf d 162 149 [.ref x, a1, a2, a3, a4, a5, a6, a7, a8, a9] [.ref x, .int s0] h := Rf_go ((stp_of c162_148).trans rfl)
theorem c162_149 : cd 162 149 = some (149, .getfield 9, 3, [(12, 0)]) := by decide +kernel
theorem x162_149 {d : Nat} {a0 a1 a2 a3 a4 a5 a6 a7 a8 a9 : Value} {s0 : Nat} {s1 : Int32} {h : AHp} : Rf d 162 149 [a0, a1, a2, a3, a4, a5, a6, a7, a8, a9] [.ref s0, .int s1] h = if cls (h.1 s0) = 12 ∧ oKr (h.1 s0) 0 = true then Rf d 162 152 [a0, a1, a2, a3, a4, a5, a6, a7, a8, a9] [.ref (oR (h.1 s0) 0), .int s1] h else Rx d 162 149 [a0, a1, a2, a3, a4, a5, a6, a7, a8, a9] [.ref s0, .int s1] h := getR c162_149
theorem c162_152 : cd 162 152 = some (152, .iconst 0, 1, []) := by decide +kernel
theorem x162_152 {d : Nat} {a0 a1 a2 a3 a4 a5 a6 a7 a8 a9 : Value} {s0 : Nat} {s1 : Int32} {h : AHp} : Rf d 162 152 [a0, a1, a2, a3, a4, a5, a6, a7, a8, a9] [.ref s0, .int s1] h = Rf d 162 153 [a0, a1, a2, a3, a4, a5, a6, a7, a8, a9] [.int 0, .ref s0, .int s1] h := Rf_go ((stp_of c162_152).trans rfl)
theorem c162_153 : cd 162 153 = some (153, .iaload, 1, []) := by decide +kernel
theorem x162_153 {d : Nat} {a0 a1 a2 a3 a4 a5 a6 a7 a8 a9 : Value} {s0 : Int32} {s1 : Nat} {s2 : Int32} {h : AHp} : Rf d 162 153 [a0, a1, a2, a3, a4, a5, a6, a7, a8, a9] [.int s0, .ref s1, .int s2] h = if (aT (h.1 s1) = 0 ∨ aT (h.1 s1) = 10) ∧ inB s0 (aN (h.1 s1)) = true then Rf d 162 154 [a0, a1, a2, a3, a4, a5, a6, a7, a8, a9] [.int (aF (h.1 s1) s0.toNatClampNeg), .int s2] h else Rx d 162 153 [a0, a1, a2, a3, a4, a5, a6, a7, a8, a9] [.int s0, .ref s1, .int s2] h := ldI c162_153
theorem c162_154 : cd 162 154 = some (154, .if_icmp .ge 41, 3, [(195, 0)]) := by decide +kernel
theorem x162_154 {d : Nat} {a0 a1 a2 a3 a4 a5 a6 a7 a8 a9 : Value} {s0 : Int32} {s1 : Int32} {h : AHp} : Rf d 162 154 [a0, a1, a2, a3, a4, a5, a6, a7, a8, a9] [.int s0, .int s1] h = if s1 < s0 then Rf d 162 157 [a0, a1, a2, a3, a4, a5, a6, a7, a8, a9] [] h else Rf d 162 195 [a0, a1, a2, a3, a4, a5, a6, a7, a8, a9] [] h := Rf_brn ((stp_of c162_154).trans rfl)
theorem c162_195 : cd 162 195 = some (195, .iload_n 3, 1, []) := by decide +kernel
theorem x162_195 {d : Nat} {a0 a1 a2 a4 a5 a6 a7 a8 a9 : Value} {x : Int32} {h : AHp} : Rf d 162 195 [a0, a1, a2, .int x, a4, a5, a6, a7, a8, a9] [] h = Rf d 162 196 [a0, a1, a2, .int x, a4, a5, a6, a7, a8, a9] [.int x] h := Rf_go ((stp_of c162_195).trans rfl)
theorem c162_196 : cd 162 196 = some (196, .iload 4, 2, []) := by decide +kernel
theorem x162_196 {d : Nat} {a0 a1 a2 a3 a5 a6 a7 a8 a9 : Value} {s0 : Int32} {x : Int32} {h : AHp} : Rf d 162 196 [a0, a1, a2, a3, .int x, a5, a6, a7, a8, a9] [.int s0] h = Rf d 162 198 [a0, a1, a2, a3, .int x, a5, a6, a7, a8, a9] [.int x, .int s0] h := Rf_go ((stp_of c162_196).trans rfl)
theorem c162_198 : cd 162 198 = some (198, .iadd, 1, []) := by decide +kernel
theorem x162_198 {d : Nat} {a0 a1 a2 a3 a4 a5 a6 a7 a8 a9 : Value} {s0 : Int32} {s1 : Int32} {h : AHp} : Rf d 162 198 [a0, a1, a2, a3, a4, a5, a6, a7, a8, a9] [.int s0, .int s1] h = Rf d 162 199 [a0, a1, a2, a3, a4, a5, a6, a7, a8, a9] [.int (s1 + s0)] h := Rf_go ((stp_of c162_198).trans rfl)
theorem c162_199 : cd 162 199 = some (199, .iconst 2, 1, []) := by decide +kernel
theorem x162_199 {d : Nat} {a0 a1 a2 a3 a4 a5 a6 a7 a8 a9 : Value} {s0 : Int32} {h : AHp} : Rf d 162 199 [a0, a1, a2, a3, a4, a5, a6, a7, a8, a9] [.int s0] h = Rf d 162 200 [a0, a1, a2, a3, a4, a5, a6, a7, a8, a9] [.int 2, .int s0] h := Rf_go ((stp_of c162_199).trans rfl)
theorem c162_200 : cd 162 200 = some (200, .idiv, 1, []) := by decide +kernel
theorem x162_200 {d : Nat} {a0 a1 a2 a3 a4 a5 a6 a7 a8 a9 : Value} {s0 : Int32} {s1 : Int32} {h : AHp} : Rf d 162 200 [a0, a1, a2, a3, a4, a5, a6, a7, a8, a9] [.int s0, .int s1] h = if ¬ s0 = 0 then Rf d 162 201 [a0, a1, a2, a3, a4, a5, a6, a7, a8, a9] [.int (s1 / s0)] h else Rx d 162 200 [a0, a1, a2, a3, a4, a5, a6, a7, a8, a9] [.int s0, .int s1] h := divE c162_200 (fun _ _ _ => rfl)
theorem c162_201 : cd 162 201 = some (201, .ireturn, 1, []) := by decide +kernel
theorem x162_201 {d : Nat} {a0 a1 a2 a3 a4 a5 a6 a7 a8 a9 : Value} {s0 : Int32} {h : AHp} : Rf d 162 201 [a0, a1, a2, a3, a4, a5, a6, a7, a8, a9] [.int s0] h = some (some (.int s0), h) := Rf_end (by rw [stp_of c162_201]; simp only [stpI]; rw [if_pos (show retI (mH 162).2.2.1 s0 = true from retI_int)])
theorem c162_157 : cd 162 157 = some (157, .iload_n 3, 1, []) := by decide +kernel
theorem x162_157 {d : Nat} {a0 a1 a2 a4 a5 a6 a7 a8 a9 : Value} {x : Int32} {h : AHp} : Rf d 162 157 [a0, a1, a2, .int x, a4, a5, a6, a7, a8, a9] [] h = Rf d 162 158 [a0, a1, a2, .int x, a4, a5, a6, a7, a8, a9] [.int x] h := Rf_go ((stp_of c162_157).trans rfl)
theorem c162_158 : cd 162 158 = some (158, .aload_n 0, 1, []) := by decide +kernel
theorem x162_158 {d : Nat} {a1 a2 a3 a4 a5 a6 a7 a8 a9 : Value} {s0 : Int32} {x : Nat} {h : AHp} : Rf d 162 158 [.ref x, a1, a2, a3, a4, a5, a6, a7, a8, a9] [.int s0] h = Rf d 162 159 [.ref x, a1, a2, a3, a4, a5, a6, a7, a8, a9] [.ref x, .int s0] h := Rf_go ((stp_of c162_158).trans rfl)
theorem c162_159 : cd 162 159 = some (159, .getfield 9, 3, [(12, 0)]) := by decide +kernel
theorem x162_159 {d : Nat} {a0 a1 a2 a3 a4 a5 a6 a7 a8 a9 : Value} {s0 : Nat} {s1 : Int32} {h : AHp} : Rf d 162 159 [a0, a1, a2, a3, a4, a5, a6, a7, a8, a9] [.ref s0, .int s1] h = if cls (h.1 s0) = 12 ∧ oKr (h.1 s0) 0 = true then Rf d 162 162 [a0, a1, a2, a3, a4, a5, a6, a7, a8, a9] [.ref (oR (h.1 s0) 0), .int s1] h else Rx d 162 159 [a0, a1, a2, a3, a4, a5, a6, a7, a8, a9] [.ref s0, .int s1] h := getR c162_159
theorem c162_162 : cd 162 162 = some (162, .bipush 20, 2, []) := by decide +kernel
theorem x162_162 {d : Nat} {a0 a1 a2 a3 a4 a5 a6 a7 a8 a9 : Value} {s0 : Nat} {s1 : Int32} {h : AHp} : Rf d 162 162 [a0, a1, a2, a3, a4, a5, a6, a7, a8, a9] [.ref s0, .int s1] h = Rf d 162 164 [a0, a1, a2, a3, a4, a5, a6, a7, a8, a9] [.int 20, .ref s0, .int s1] h := Rf_go ((stp_of c162_162).trans rfl)
theorem c162_164 : cd 162 164 = some (164, .iload 5, 2, []) := by decide +kernel
theorem x162_164 {d : Nat} {a0 a1 a2 a3 a4 a6 a7 a8 a9 : Value} {s0 : Int32} {s1 : Nat} {s2 : Int32} {x : Int32} {h : AHp} : Rf d 162 164 [a0, a1, a2, a3, a4, .int x, a6, a7, a8, a9] [.int s0, .ref s1, .int s2] h = Rf d 162 166 [a0, a1, a2, a3, a4, .int x, a6, a7, a8, a9] [.int x, .int s0, .ref s1, .int s2] h := Rf_go ((stp_of c162_164).trans rfl)
theorem c162_166 : cd 162 166 = some (166, .iadd, 1, []) := by decide +kernel
theorem x162_166 {d : Nat} {a0 a1 a2 a3 a4 a5 a6 a7 a8 a9 : Value} {s0 : Int32} {s1 : Int32} {s2 : Nat} {s3 : Int32} {h : AHp} : Rf d 162 166 [a0, a1, a2, a3, a4, a5, a6, a7, a8, a9] [.int s0, .int s1, .ref s2, .int s3] h = Rf d 162 167 [a0, a1, a2, a3, a4, a5, a6, a7, a8, a9] [.int (s1 + s0), .ref s2, .int s3] h := Rf_go ((stp_of c162_166).trans rfl)
theorem c162_167 : cd 162 167 = some (167, .iaload, 1, []) := by decide +kernel
theorem x162_167 {d : Nat} {a0 a1 a2 a3 a4 a5 a6 a7 a8 a9 : Value} {s0 : Int32} {s1 : Nat} {s2 : Int32} {h : AHp} : Rf d 162 167 [a0, a1, a2, a3, a4, a5, a6, a7, a8, a9] [.int s0, .ref s1, .int s2] h = if (aT (h.1 s1) = 0 ∨ aT (h.1 s1) = 10) ∧ inB s0 (aN (h.1 s1)) = true then Rf d 162 168 [a0, a1, a2, a3, a4, a5, a6, a7, a8, a9] [.int (aF (h.1 s1) s0.toNatClampNeg), .int s2] h else Rx d 162 167 [a0, a1, a2, a3, a4, a5, a6, a7, a8, a9] [.int s0, .ref s1, .int s2] h := ldI c162_167
theorem c162_168 : cd 162 168 = some (168, .invokestatic 113, 3, [(0, 202)]) := by decide +kernel
theorem xc162_168 {d : Nat} {a0 a1 a2 a3 a4 a5 a6 a7 a8 a9 : Value} {s0 : Int32} {s1 : Int32} {h : AHp} {h1 : AHp} {v : Int32} (hq : Rf d 202 0 [.int s1, .int s0] [] h = some (some (.int v), h1)) : Rf (d + 1) 162 168 [a0, a1, a2, a3, a4, a5, a6, a7, a8, a9] [.int s0, .int s1] h = Rf (d + 1) 162 171 [a0, a1, a2, a3, a4, a5, a6, a7, a8, a9] [.int v] h1 := clS (as := [.int s1, .int s0]) c162_168 rfl rfl (by simp [isV]) hq
theorem c162_171 : cd 162 171 = some (171, .istore_n 3, 1, []) := by decide +kernel
theorem x162_171 {d : Nat} {a0 a1 a2 a3 a4 a5 a6 a7 a8 a9 : Value} {s0 : Int32} {h : AHp} : Rf d 162 171 [a0, a1, a2, a3, a4, a5, a6, a7, a8, a9] [.int s0] h = Rf d 162 172 [a0, a1, a2, .int s0, a4, a5, a6, a7, a8, a9] [] h := Rf_go ((stp_of c162_171).trans rfl)
theorem c162_172 : cd 162 172 = some (172, .iload 4, 2, []) := by decide +kernel
theorem x162_172 {d : Nat} {a0 a1 a2 a3 a5 a6 a7 a8 a9 : Value} {x : Int32} {h : AHp} : Rf d 162 172 [a0, a1, a2, a3, .int x, a5, a6, a7, a8, a9] [] h = Rf d 162 174 [a0, a1, a2, a3, .int x, a5, a6, a7, a8, a9] [.int x] h := Rf_go ((stp_of c162_172).trans rfl)
theorem c162_174 : cd 162 174 = some (174, .aload_n 0, 1, []) := by decide +kernel
theorem x162_174 {d : Nat} {a1 a2 a3 a4 a5 a6 a7 a8 a9 : Value} {s0 : Int32} {x : Nat} {h : AHp} : Rf d 162 174 [.ref x, a1, a2, a3, a4, a5, a6, a7, a8, a9] [.int s0] h = Rf d 162 175 [.ref x, a1, a2, a3, a4, a5, a6, a7, a8, a9] [.ref x, .int s0] h := Rf_go ((stp_of c162_174).trans rfl)
theorem c162_175 : cd 162 175 = some (175, .getfield 9, 3, [(12, 0)]) := by decide +kernel
theorem x162_175 {d : Nat} {a0 a1 a2 a3 a4 a5 a6 a7 a8 a9 : Value} {s0 : Nat} {s1 : Int32} {h : AHp} : Rf d 162 175 [a0, a1, a2, a3, a4, a5, a6, a7, a8, a9] [.ref s0, .int s1] h = if cls (h.1 s0) = 12 ∧ oKr (h.1 s0) 0 = true then Rf d 162 178 [a0, a1, a2, a3, a4, a5, a6, a7, a8, a9] [.ref (oR (h.1 s0) 0), .int s1] h else Rx d 162 175 [a0, a1, a2, a3, a4, a5, a6, a7, a8, a9] [.ref s0, .int s1] h := getR c162_175
theorem c162_178 : cd 162 178 = some (178, .bipush 20, 2, []) := by decide +kernel
theorem x162_178 {d : Nat} {a0 a1 a2 a3 a4 a5 a6 a7 a8 a9 : Value} {s0 : Nat} {s1 : Int32} {h : AHp} : Rf d 162 178 [a0, a1, a2, a3, a4, a5, a6, a7, a8, a9] [.ref s0, .int s1] h = Rf d 162 180 [a0, a1, a2, a3, a4, a5, a6, a7, a8, a9] [.int 20, .ref s0, .int s1] h := Rf_go ((stp_of c162_178).trans rfl)
theorem c162_180 : cd 162 180 = some (180, .iload 5, 2, []) := by decide +kernel
theorem x162_180 {d : Nat} {a0 a1 a2 a3 a4 a6 a7 a8 a9 : Value} {s0 : Int32} {s1 : Nat} {s2 : Int32} {x : Int32} {h : AHp} : Rf d 162 180 [a0, a1, a2, a3, a4, .int x, a6, a7, a8, a9] [.int s0, .ref s1, .int s2] h = Rf d 162 182 [a0, a1, a2, a3, a4, .int x, a6, a7, a8, a9] [.int x, .int s0, .ref s1, .int s2] h := Rf_go ((stp_of c162_180).trans rfl)
theorem c162_182 : cd 162 182 = some (182, .iadd, 1, []) := by decide +kernel
theorem x162_182 {d : Nat} {a0 a1 a2 a3 a4 a5 a6 a7 a8 a9 : Value} {s0 : Int32} {s1 : Int32} {s2 : Nat} {s3 : Int32} {h : AHp} : Rf d 162 182 [a0, a1, a2, a3, a4, a5, a6, a7, a8, a9] [.int s0, .int s1, .ref s2, .int s3] h = Rf d 162 183 [a0, a1, a2, a3, a4, a5, a6, a7, a8, a9] [.int (s1 + s0), .ref s2, .int s3] h := Rf_go ((stp_of c162_182).trans rfl)
theorem c162_183 : cd 162 183 = some (183, .iaload, 1, []) := by decide +kernel
theorem x162_183 {d : Nat} {a0 a1 a2 a3 a4 a5 a6 a7 a8 a9 : Value} {s0 : Int32} {s1 : Nat} {s2 : Int32} {h : AHp} : Rf d 162 183 [a0, a1, a2, a3, a4, a5, a6, a7, a8, a9] [.int s0, .ref s1, .int s2] h = if (aT (h.1 s1) = 0 ∨ aT (h.1 s1) = 10) ∧ inB s0 (aN (h.1 s1)) = true then Rf d 162 184 [a0, a1, a2, a3, a4, a5, a6, a7, a8, a9] [.int (aF (h.1 s1) s0.toNatClampNeg), .int s2] h else Rx d 162 183 [a0, a1, a2, a3, a4, a5, a6, a7, a8, a9] [.int s0, .ref s1, .int s2] h := ldI c162_183
theorem c162_184 : cd 162 184 = some (184, .invokestatic 118, 3, [(0, 201)]) := by decide +kernel
theorem xc162_184 {d : Nat} {a0 a1 a2 a3 a4 a5 a6 a7 a8 a9 : Value} {s0 : Int32} {s1 : Int32} {h : AHp} {h1 : AHp} {v : Int32} (hq : Rf d 201 0 [.int s1, .int s0] [] h = some (some (.int v), h1)) : Rf (d + 1) 162 184 [a0, a1, a2, a3, a4, a5, a6, a7, a8, a9] [.int s0, .int s1] h = Rf (d + 1) 162 187 [a0, a1, a2, a3, a4, a5, a6, a7, a8, a9] [.int v] h1 := clS (as := [.int s1, .int s0]) c162_184 rfl rfl (by simp [isV]) hq
theorem c162_187 : cd 162 187 = some (187, .istore 4, 2, []) := by decide +kernel
theorem x162_187 {d : Nat} {a0 a1 a2 a3 a4 a5 a6 a7 a8 a9 : Value} {s0 : Int32} {h : AHp} : Rf d 162 187 [a0, a1, a2, a3, a4, a5, a6, a7, a8, a9] [.int s0] h = Rf d 162 189 [a0, a1, a2, a3, .int s0, a5, a6, a7, a8, a9] [] h := Rf_go ((stp_of c162_187).trans rfl)
theorem c162_189 : cd 162 189 = some (189, .iinc 5 1, 3, []) := by decide +kernel
theorem x162_189 {d : Nat} {a0 a1 a2 a3 a4 a6 a7 a8 a9 : Value} {x : Int32} {h : AHp} : Rf d 162 189 [a0, a1, a2, a3, a4, .int x, a6, a7, a8, a9] [] h = Rf d 162 192 [a0, a1, a2, a3, a4, .int (x + 1), a6, a7, a8, a9] [] h := Rf_go ((stp_of c162_189).trans rfl)
theorem c162_192 : cd 162 192 = some (192, .goto (-46), 3, [(146, 0)]) := by decide +kernel
theorem x162_192 {d : Nat} {a0 a1 a2 a3 a4 a5 a6 a7 a8 a9 : Value} {h : AHp} : Rf d 162 192 [a0, a1, a2, a3, a4, a5, a6, a7, a8, a9] [] h = Rf d 162 146 [a0, a1, a2, a3, a4, a5, a6, a7, a8, a9] [] h := Rf_go ((stp_of c162_192).trans rfl)
theorem c162_106 : cd 162 106 = some (106, .aload_n 0, 1, []) := by decide +kernel
theorem x162_106 {d : Nat} {a1 a2 a3 a4 a5 a6 a7 a8 a9 : Value} {x : Nat} {h : AHp} : Rf d 162 106 [.ref x, a1, a2, a3, a4, a5, a6, a7, a8, a9] [] h = Rf d 162 107 [.ref x, a1, a2, a3, a4, a5, a6, a7, a8, a9] [.ref x] h := Rf_go ((stp_of c162_106).trans rfl)
theorem c162_107 : cd 162 107 = some (107, .getfield 9, 3, [(12, 0)]) := by decide +kernel
theorem x162_107 {d : Nat} {a0 a1 a2 a3 a4 a5 a6 a7 a8 a9 : Value} {s0 : Nat} {h : AHp} : Rf d 162 107 [a0, a1, a2, a3, a4, a5, a6, a7, a8, a9] [.ref s0] h = if cls (h.1 s0) = 12 ∧ oKr (h.1 s0) 0 = true then Rf d 162 110 [a0, a1, a2, a3, a4, a5, a6, a7, a8, a9] [.ref (oR (h.1 s0) 0)] h else Rx d 162 107 [a0, a1, a2, a3, a4, a5, a6, a7, a8, a9] [.ref s0] h := getR c162_107
theorem c162_110 : cd 162 110 = some (110, .bipush 20, 2, []) := by decide +kernel
theorem x162_110 {d : Nat} {a0 a1 a2 a3 a4 a5 a6 a7 a8 a9 : Value} {s0 : Nat} {h : AHp} : Rf d 162 110 [a0, a1, a2, a3, a4, a5, a6, a7, a8, a9] [.ref s0] h = Rf d 162 112 [a0, a1, a2, a3, a4, a5, a6, a7, a8, a9] [.int 20, .ref s0] h := Rf_go ((stp_of c162_110).trans rfl)
theorem c162_112 : cd 162 112 = some (112, .iload_n 1, 1, []) := by decide +kernel
theorem x162_112 {d : Nat} {a0 a2 a3 a4 a5 a6 a7 a8 a9 : Value} {s0 : Int32} {s1 : Nat} {x : Int32} {h : AHp} : Rf d 162 112 [a0, .int x, a2, a3, a4, a5, a6, a7, a8, a9] [.int s0, .ref s1] h = Rf d 162 113 [a0, .int x, a2, a3, a4, a5, a6, a7, a8, a9] [.int x, .int s0, .ref s1] h := Rf_go ((stp_of c162_112).trans rfl)
theorem c162_113 : cd 162 113 = some (113, .iadd, 1, []) := by decide +kernel
theorem x162_113 {d : Nat} {a0 a1 a2 a3 a4 a5 a6 a7 a8 a9 : Value} {s0 : Int32} {s1 : Int32} {s2 : Nat} {h : AHp} : Rf d 162 113 [a0, a1, a2, a3, a4, a5, a6, a7, a8, a9] [.int s0, .int s1, .ref s2] h = Rf d 162 114 [a0, a1, a2, a3, a4, a5, a6, a7, a8, a9] [.int (s1 + s0), .ref s2] h := Rf_go ((stp_of c162_113).trans rfl)
theorem c162_114 : cd 162 114 = some (114, .iaload, 1, []) := by decide +kernel
theorem x162_114 {d : Nat} {a0 a1 a2 a3 a4 a5 a6 a7 a8 a9 : Value} {s0 : Int32} {s1 : Nat} {h : AHp} : Rf d 162 114 [a0, a1, a2, a3, a4, a5, a6, a7, a8, a9] [.int s0, .ref s1] h = if (aT (h.1 s1) = 0 ∨ aT (h.1 s1) = 10) ∧ inB s0 (aN (h.1 s1)) = true then Rf d 162 115 [a0, a1, a2, a3, a4, a5, a6, a7, a8, a9] [.int (aF (h.1 s1) s0.toNatClampNeg)] h else Rx d 162 114 [a0, a1, a2, a3, a4, a5, a6, a7, a8, a9] [.int s0, .ref s1] h := ldI c162_114
theorem c162_115 : cd 162 115 = some (115, .aload_n 0, 1, []) := by decide +kernel
theorem x162_115 {d : Nat} {a1 a2 a3 a4 a5 a6 a7 a8 a9 : Value} {s0 : Int32} {x : Nat} {h : AHp} : Rf d 162 115 [.ref x, a1, a2, a3, a4, a5, a6, a7, a8, a9] [.int s0] h = Rf d 162 116 [.ref x, a1, a2, a3, a4, a5, a6, a7, a8, a9] [.ref x, .int s0] h := Rf_go ((stp_of c162_115).trans rfl)
theorem c162_116 : cd 162 116 = some (116, .getfield 9, 3, [(12, 0)]) := by decide +kernel
theorem x162_116 {d : Nat} {a0 a1 a2 a3 a4 a5 a6 a7 a8 a9 : Value} {s0 : Nat} {s1 : Int32} {h : AHp} : Rf d 162 116 [a0, a1, a2, a3, a4, a5, a6, a7, a8, a9] [.ref s0, .int s1] h = if cls (h.1 s0) = 12 ∧ oKr (h.1 s0) 0 = true then Rf d 162 119 [a0, a1, a2, a3, a4, a5, a6, a7, a8, a9] [.ref (oR (h.1 s0) 0), .int s1] h else Rx d 162 116 [a0, a1, a2, a3, a4, a5, a6, a7, a8, a9] [.ref s0, .int s1] h := getR c162_116
theorem c162_119 : cd 162 119 = some (119, .bipush 70, 2, []) := by decide +kernel
theorem x162_119 {d : Nat} {a0 a1 a2 a3 a4 a5 a6 a7 a8 a9 : Value} {s0 : Nat} {s1 : Int32} {h : AHp} : Rf d 162 119 [a0, a1, a2, a3, a4, a5, a6, a7, a8, a9] [.ref s0, .int s1] h = Rf d 162 121 [a0, a1, a2, a3, a4, a5, a6, a7, a8, a9] [.int 70, .ref s0, .int s1] h := Rf_go ((stp_of c162_119).trans rfl)
theorem c162_121 : cd 162 121 = some (121, .iload_n 1, 1, []) := by decide +kernel
theorem x162_121 {d : Nat} {a0 a2 a3 a4 a5 a6 a7 a8 a9 : Value} {s0 : Int32} {s1 : Nat} {s2 : Int32} {x : Int32} {h : AHp} : Rf d 162 121 [a0, .int x, a2, a3, a4, a5, a6, a7, a8, a9] [.int s0, .ref s1, .int s2] h = Rf d 162 122 [a0, .int x, a2, a3, a4, a5, a6, a7, a8, a9] [.int x, .int s0, .ref s1, .int s2] h := Rf_go ((stp_of c162_121).trans rfl)
theorem c162_122 : cd 162 122 = some (122, .iadd, 1, []) := by decide +kernel
theorem x162_122 {d : Nat} {a0 a1 a2 a3 a4 a5 a6 a7 a8 a9 : Value} {s0 : Int32} {s1 : Int32} {s2 : Nat} {s3 : Int32} {h : AHp} : Rf d 162 122 [a0, a1, a2, a3, a4, a5, a6, a7, a8, a9] [.int s0, .int s1, .ref s2, .int s3] h = Rf d 162 123 [a0, a1, a2, a3, a4, a5, a6, a7, a8, a9] [.int (s1 + s0), .ref s2, .int s3] h := Rf_go ((stp_of c162_122).trans rfl)
theorem c162_123 : cd 162 123 = some (123, .iaload, 1, []) := by decide +kernel
theorem x162_123 {d : Nat} {a0 a1 a2 a3 a4 a5 a6 a7 a8 a9 : Value} {s0 : Int32} {s1 : Nat} {s2 : Int32} {h : AHp} : Rf d 162 123 [a0, a1, a2, a3, a4, a5, a6, a7, a8, a9] [.int s0, .ref s1, .int s2] h = if (aT (h.1 s1) = 0 ∨ aT (h.1 s1) = 10) ∧ inB s0 (aN (h.1 s1)) = true then Rf d 162 124 [a0, a1, a2, a3, a4, a5, a6, a7, a8, a9] [.int (aF (h.1 s1) s0.toNatClampNeg), .int s2] h else Rx d 162 123 [a0, a1, a2, a3, a4, a5, a6, a7, a8, a9] [.int s0, .ref s1, .int s2] h := ldI c162_123
theorem c162_124 : cd 162 124 = some (124, .iadd, 1, []) := by decide +kernel
theorem x162_124 {d : Nat} {a0 a1 a2 a3 a4 a5 a6 a7 a8 a9 : Value} {s0 : Int32} {s1 : Int32} {h : AHp} : Rf d 162 124 [a0, a1, a2, a3, a4, a5, a6, a7, a8, a9] [.int s0, .int s1] h = Rf d 162 125 [a0, a1, a2, a3, a4, a5, a6, a7, a8, a9] [.int (s1 + s0)] h := Rf_go ((stp_of c162_124).trans rfl)
theorem c162_125 : cd 162 125 = some (125, .ireturn, 1, []) := by decide +kernel
theorem x162_125 {d : Nat} {a0 a1 a2 a3 a4 a5 a6 a7 a8 a9 : Value} {s0 : Int32} {h : AHp} : Rf d 162 125 [a0, a1, a2, a3, a4, a5, a6, a7, a8, a9] [.int s0] h = some (some (.int s0), h) := Rf_end (by rw [stp_of c162_125]; simp only [stpI]; rw [if_pos (show retI (mH 162).2.2.1 s0 = true from retI_int)])
theorem c162_94 : cd 162 94 = some (94, .aload_n 0, 1, []) := by decide +kernel
theorem x162_94 {d : Nat} {a1 a2 a3 a4 a5 a6 a7 a8 a9 : Value} {x : Nat} {h : AHp} : Rf d 162 94 [.ref x, a1, a2, a3, a4, a5, a6, a7, a8, a9] [] h = Rf d 162 95 [.ref x, a1, a2, a3, a4, a5, a6, a7, a8, a9] [.ref x] h := Rf_go ((stp_of c162_94).trans rfl)
theorem c162_95 : cd 162 95 = some (95, .invokevirtual 133, 3, [(12, 155)]) := by decide +kernel
theorem xc162_95 {d : Nat} {a0 a1 a2 a3 a4 a5 a6 a7 a8 a9 : Value} {s0 : Nat} {h : AHp} {h1 : AHp} {v : Int32} (hr : cls (h.1 s0) = 12) (hq : Rf d 155 0 [.ref s0, noV, noV] [] h = some (some (.int v), h1)) : Rf (d + 1) 162 95 [a0, a1, a2, a3, a4, a5, a6, a7, a8, a9] [.ref s0] h = Rf (d + 1) 162 98 [a0, a1, a2, a3, a4, a5, a6, a7, a8, a9] [.int v] h1 := clV (c := 155) (as := []) c162_95 rfl (by simp [isV]) (by rw [hr]; rfl) hq
theorem c162_98 : cd 162 98 = some (98, .aload_n 0, 1, []) := by decide +kernel
theorem x162_98 {d : Nat} {a1 a2 a3 a4 a5 a6 a7 a8 a9 : Value} {s0 : Int32} {x : Nat} {h : AHp} : Rf d 162 98 [.ref x, a1, a2, a3, a4, a5, a6, a7, a8, a9] [.int s0] h = Rf d 162 99 [.ref x, a1, a2, a3, a4, a5, a6, a7, a8, a9] [.ref x, .int s0] h := Rf_go ((stp_of c162_98).trans rfl)
theorem c162_99 : cd 162 99 = some (99, .getfield 9, 3, [(12, 0)]) := by decide +kernel
theorem x162_99 {d : Nat} {a0 a1 a2 a3 a4 a5 a6 a7 a8 a9 : Value} {s0 : Nat} {s1 : Int32} {h : AHp} : Rf d 162 99 [a0, a1, a2, a3, a4, a5, a6, a7, a8, a9] [.ref s0, .int s1] h = if cls (h.1 s0) = 12 ∧ oKr (h.1 s0) 0 = true then Rf d 162 102 [a0, a1, a2, a3, a4, a5, a6, a7, a8, a9] [.ref (oR (h.1 s0) 0), .int s1] h else Rx d 162 99 [a0, a1, a2, a3, a4, a5, a6, a7, a8, a9] [.ref s0, .int s1] h := getR c162_99
theorem c162_102 : cd 162 102 = some (102, .iconst 0, 1, []) := by decide +kernel
theorem x162_102 {d : Nat} {a0 a1 a2 a3 a4 a5 a6 a7 a8 a9 : Value} {s0 : Nat} {s1 : Int32} {h : AHp} : Rf d 162 102 [a0, a1, a2, a3, a4, a5, a6, a7, a8, a9] [.ref s0, .int s1] h = Rf d 162 103 [a0, a1, a2, a3, a4, a5, a6, a7, a8, a9] [.int 0, .ref s0, .int s1] h := Rf_go ((stp_of c162_102).trans rfl)
theorem c162_103 : cd 162 103 = some (103, .iaload, 1, []) := by decide +kernel
theorem x162_103 {d : Nat} {a0 a1 a2 a3 a4 a5 a6 a7 a8 a9 : Value} {s0 : Int32} {s1 : Nat} {s2 : Int32} {h : AHp} : Rf d 162 103 [a0, a1, a2, a3, a4, a5, a6, a7, a8, a9] [.int s0, .ref s1, .int s2] h = if (aT (h.1 s1) = 0 ∨ aT (h.1 s1) = 10) ∧ inB s0 (aN (h.1 s1)) = true then Rf d 162 104 [a0, a1, a2, a3, a4, a5, a6, a7, a8, a9] [.int (aF (h.1 s1) s0.toNatClampNeg), .int s2] h else Rx d 162 103 [a0, a1, a2, a3, a4, a5, a6, a7, a8, a9] [.int s0, .ref s1, .int s2] h := ldI c162_103
theorem c162_104 : cd 162 104 = some (104, .idiv, 1, []) := by decide +kernel
theorem x162_104 {d : Nat} {a0 a1 a2 a3 a4 a5 a6 a7 a8 a9 : Value} {s0 : Int32} {s1 : Int32} {h : AHp} : Rf d 162 104 [a0, a1, a2, a3, a4, a5, a6, a7, a8, a9] [.int s0, .int s1] h = if ¬ s0 = 0 then Rf d 162 105 [a0, a1, a2, a3, a4, a5, a6, a7, a8, a9] [.int (s1 / s0)] h else Rx d 162 104 [a0, a1, a2, a3, a4, a5, a6, a7, a8, a9] [.int s0, .int s1] h := divE c162_104 (fun _ _ _ => rfl)
theorem c162_105 : cd 162 105 = some (105, .ireturn, 1, []) := by decide +kernel
theorem x162_105 {d : Nat} {a0 a1 a2 a3 a4 a5 a6 a7 a8 a9 : Value} {s0 : Int32} {h : AHp} : Rf d 162 105 [a0, a1, a2, a3, a4, a5, a6, a7, a8, a9] [.int s0] h = some (some (.int s0), h) := Rf_end (by rw [stp_of c162_105]; simp only [stpI]; rw [if_pos (show retI (mH 162).2.2.1 s0 = true from retI_int)])
theorem c162_84 : cd 162 84 = some (84, .aload_n 0, 1, []) := by decide +kernel
theorem x162_84 {d : Nat} {a1 a2 a3 a4 a5 a6 a7 a8 a9 : Value} {x : Nat} {h : AHp} : Rf d 162 84 [.ref x, a1, a2, a3, a4, a5, a6, a7, a8, a9] [] h = Rf d 162 85 [.ref x, a1, a2, a3, a4, a5, a6, a7, a8, a9] [.ref x] h := Rf_go ((stp_of c162_84).trans rfl)
theorem c162_85 : cd 162 85 = some (85, .getfield 9, 3, [(12, 0)]) := by decide +kernel
theorem x162_85 {d : Nat} {a0 a1 a2 a3 a4 a5 a6 a7 a8 a9 : Value} {s0 : Nat} {h : AHp} : Rf d 162 85 [a0, a1, a2, a3, a4, a5, a6, a7, a8, a9] [.ref s0] h = if cls (h.1 s0) = 12 ∧ oKr (h.1 s0) 0 = true then Rf d 162 88 [a0, a1, a2, a3, a4, a5, a6, a7, a8, a9] [.ref (oR (h.1 s0) 0)] h else Rx d 162 85 [a0, a1, a2, a3, a4, a5, a6, a7, a8, a9] [.ref s0] h := getR c162_85
theorem c162_88 : cd 162 88 = some (88, .bipush 20, 2, []) := by decide +kernel
theorem x162_88 {d : Nat} {a0 a1 a2 a3 a4 a5 a6 a7 a8 a9 : Value} {s0 : Nat} {h : AHp} : Rf d 162 88 [a0, a1, a2, a3, a4, a5, a6, a7, a8, a9] [.ref s0] h = Rf d 162 90 [a0, a1, a2, a3, a4, a5, a6, a7, a8, a9] [.int 20, .ref s0] h := Rf_go ((stp_of c162_88).trans rfl)
theorem c162_90 : cd 162 90 = some (90, .iload_n 1, 1, []) := by decide +kernel
theorem x162_90 {d : Nat} {a0 a2 a3 a4 a5 a6 a7 a8 a9 : Value} {s0 : Int32} {s1 : Nat} {x : Int32} {h : AHp} : Rf d 162 90 [a0, .int x, a2, a3, a4, a5, a6, a7, a8, a9] [.int s0, .ref s1] h = Rf d 162 91 [a0, .int x, a2, a3, a4, a5, a6, a7, a8, a9] [.int x, .int s0, .ref s1] h := Rf_go ((stp_of c162_90).trans rfl)
theorem c162_91 : cd 162 91 = some (91, .iadd, 1, []) := by decide +kernel
theorem x162_91 {d : Nat} {a0 a1 a2 a3 a4 a5 a6 a7 a8 a9 : Value} {s0 : Int32} {s1 : Int32} {s2 : Nat} {h : AHp} : Rf d 162 91 [a0, a1, a2, a3, a4, a5, a6, a7, a8, a9] [.int s0, .int s1, .ref s2] h = Rf d 162 92 [a0, a1, a2, a3, a4, a5, a6, a7, a8, a9] [.int (s1 + s0), .ref s2] h := Rf_go ((stp_of c162_91).trans rfl)
theorem c162_92 : cd 162 92 = some (92, .iaload, 1, []) := by decide +kernel
theorem x162_92 {d : Nat} {a0 a1 a2 a3 a4 a5 a6 a7 a8 a9 : Value} {s0 : Int32} {s1 : Nat} {h : AHp} : Rf d 162 92 [a0, a1, a2, a3, a4, a5, a6, a7, a8, a9] [.int s0, .ref s1] h = if (aT (h.1 s1) = 0 ∨ aT (h.1 s1) = 10) ∧ inB s0 (aN (h.1 s1)) = true then Rf d 162 93 [a0, a1, a2, a3, a4, a5, a6, a7, a8, a9] [.int (aF (h.1 s1) s0.toNatClampNeg)] h else Rx d 162 92 [a0, a1, a2, a3, a4, a5, a6, a7, a8, a9] [.int s0, .ref s1] h := ldI c162_92
theorem c162_93 : cd 162 93 = some (93, .ireturn, 1, []) := by decide +kernel
theorem x162_93 {d : Nat} {a0 a1 a2 a3 a4 a5 a6 a7 a8 a9 : Value} {s0 : Int32} {h : AHp} : Rf d 162 93 [a0, a1, a2, a3, a4, a5, a6, a7, a8, a9] [.int s0] h = some (some (.int s0), h) := Rf_end (by rw [stp_of c162_93]; simp only [stpI]; rw [if_pos (show retI (mH 162).2.2.1 s0 = true from retI_int)])
theorem c162_225 : cd 162 225 = some (225, .aload_n 0, 1, []) := by decide +kernel
theorem x162_225 {d : Nat} {a1 a2 a3 a4 a5 a6 a7 a8 a9 : Value} {x : Nat} {h : AHp} : Rf d 162 225 [.ref x, a1, a2, a3, a4, a5, a6, a7, a8, a9] [] h = Rf d 162 226 [.ref x, a1, a2, a3, a4, a5, a6, a7, a8, a9] [.ref x] h := Rf_go ((stp_of c162_225).trans rfl)
theorem c162_226 : cd 162 226 = some (226, .iload_n 1, 1, []) := by decide +kernel
theorem x162_226 {d : Nat} {a0 a2 a3 a4 a5 a6 a7 a8 a9 : Value} {s0 : Nat} {x : Int32} {h : AHp} : Rf d 162 226 [a0, .int x, a2, a3, a4, a5, a6, a7, a8, a9] [.ref s0] h = Rf d 162 227 [a0, .int x, a2, a3, a4, a5, a6, a7, a8, a9] [.int x, .ref s0] h := Rf_go ((stp_of c162_226).trans rfl)
theorem c162_227 : cd 162 227 = some (227, .iconst (-1), 1, []) := by decide +kernel
theorem x162_227 {d : Nat} {a0 a1 a2 a3 a4 a5 a6 a7 a8 a9 : Value} {s0 : Int32} {s1 : Nat} {h : AHp} : Rf d 162 227 [a0, a1, a2, a3, a4, a5, a6, a7, a8, a9] [.int s0, .ref s1] h = Rf d 162 228 [a0, a1, a2, a3, a4, a5, a6, a7, a8, a9] [.int (-1), .int s0, .ref s1] h := Rf_go ((stp_of c162_227).trans rfl)
theorem c162_228 : cd 162 228 = some (228, .invokevirtual 143, 3, [(12, 161)]) := by decide +kernel
theorem xc162_228 {d : Nat} {a0 a1 a2 a3 a4 a5 a6 a7 a8 a9 : Value} {s0 : Int32} {s1 : Int32} {s2 : Nat} {h : AHp} {h1 : AHp} {v : Int32} (hr : cls (h.1 s2) = 12) (hq : Rf d 161 0 [.ref s2, .int s1, .int s0, noV] [] h = some (some (.int v), h1)) : Rf (d + 1) 162 228 [a0, a1, a2, a3, a4, a5, a6, a7, a8, a9] [.int s0, .int s1, .ref s2] h = Rf (d + 1) 162 231 [a0, a1, a2, a3, a4, a5, a6, a7, a8, a9] [.int v] h1 := clV (c := 161) (as := [.int s1, .int s0]) c162_228 rfl (by simp [isV]) (by rw [hr]; rfl) hq
theorem c162_231 : cd 162 231 = some (231, .istore 5, 2, []) := by decide +kernel
theorem x162_231 {d : Nat} {a0 a1 a2 a3 a4 a5 a6 a7 a8 a9 : Value} {s0 : Int32} {h : AHp} : Rf d 162 231 [a0, a1, a2, a3, a4, a5, a6, a7, a8, a9] [.int s0] h = Rf d 162 233 [a0, a1, a2, a3, a4, .int s0, a6, a7, a8, a9] [] h := Rf_go ((stp_of c162_231).trans rfl)
theorem c162_233 : cd 162 233 = some (233, .aload_n 0, 1, []) := by decide +kernel
theorem x162_233 {d : Nat} {a1 a2 a3 a4 a5 a6 a7 a8 a9 : Value} {x : Nat} {h : AHp} : Rf d 162 233 [.ref x, a1, a2, a3, a4, a5, a6, a7, a8, a9] [] h = Rf d 162 234 [.ref x, a1, a2, a3, a4, a5, a6, a7, a8, a9] [.ref x] h := Rf_go ((stp_of c162_233).trans rfl)
theorem c162_234 : cd 162 234 = some (234, .iload_n 1, 1, []) := by decide +kernel
theorem x162_234 {d : Nat} {a0 a2 a3 a4 a5 a6 a7 a8 a9 : Value} {s0 : Nat} {x : Int32} {h : AHp} : Rf d 162 234 [a0, .int x, a2, a3, a4, a5, a6, a7, a8, a9] [.ref s0] h = Rf d 162 235 [a0, .int x, a2, a3, a4, a5, a6, a7, a8, a9] [.int x, .ref s0] h := Rf_go ((stp_of c162_234).trans rfl)
theorem c162_235 : cd 162 235 = some (235, .iconst 1, 1, []) := by decide +kernel
theorem x162_235 {d : Nat} {a0 a1 a2 a3 a4 a5 a6 a7 a8 a9 : Value} {s0 : Int32} {s1 : Nat} {h : AHp} : Rf d 162 235 [a0, a1, a2, a3, a4, a5, a6, a7, a8, a9] [.int s0, .ref s1] h = Rf d 162 236 [a0, a1, a2, a3, a4, a5, a6, a7, a8, a9] [.int 1, .int s0, .ref s1] h := Rf_go ((stp_of c162_235).trans rfl)
theorem c162_236 : cd 162 236 = some (236, .invokevirtual 143, 3, [(12, 161)]) := by decide +kernel
theorem xc162_236 {d : Nat} {a0 a1 a2 a3 a4 a5 a6 a7 a8 a9 : Value} {s0 : Int32} {s1 : Int32} {s2 : Nat} {h : AHp} {h1 : AHp} {v : Int32} (hr : cls (h.1 s2) = 12) (hq : Rf d 161 0 [.ref s2, .int s1, .int s0, noV] [] h = some (some (.int v), h1)) : Rf (d + 1) 162 236 [a0, a1, a2, a3, a4, a5, a6, a7, a8, a9] [.int s0, .int s1, .ref s2] h = Rf (d + 1) 162 239 [a0, a1, a2, a3, a4, a5, a6, a7, a8, a9] [.int v] h1 := clV (c := 161) (as := [.int s1, .int s0]) c162_236 rfl (by simp [isV]) (by rw [hr]; rfl) hq
theorem c162_239 : cd 162 239 = some (239, .istore 6, 2, []) := by decide +kernel
theorem x162_239 {d : Nat} {a0 a1 a2 a3 a4 a5 a6 a7 a8 a9 : Value} {s0 : Int32} {h : AHp} : Rf d 162 239 [a0, a1, a2, a3, a4, a5, a6, a7, a8, a9] [.int s0] h = Rf d 162 241 [a0, a1, a2, a3, a4, a5, .int s0, a7, a8, a9] [] h := Rf_go ((stp_of c162_239).trans rfl)
theorem c162_241 : cd 162 241 = some (241, .iload_n 2, 1, []) := by decide +kernel
theorem x162_241 {d : Nat} {a0 a1 a3 a4 a5 a6 a7 a8 a9 : Value} {x : Int32} {h : AHp} : Rf d 162 241 [a0, a1, .int x, a3, a4, a5, a6, a7, a8, a9] [] h = Rf d 162 242 [a0, a1, .int x, a3, a4, a5, a6, a7, a8, a9] [.int x] h := Rf_go ((stp_of c162_241).trans rfl)
theorem c162_242 : cd 162 242 = some (242, .iconst 4, 1, []) := by decide +kernel
theorem x162_242 {d : Nat} {a0 a1 a2 a3 a4 a5 a6 a7 a8 a9 : Value} {s0 : Int32} {h : AHp} : Rf d 162 242 [a0, a1, a2, a3, a4, a5, a6, a7, a8, a9] [.int s0] h = Rf d 162 243 [a0, a1, a2, a3, a4, a5, a6, a7, a8, a9] [.int 4, .int s0] h := Rf_go ((stp_of c162_242).trans rfl)
theorem c162_243 : cd 162 243 = some (243, .if_icmp .ne 15, 3, [(258, 0)]) := by decide +kernel
theorem x162_243 {d : Nat} {a0 a1 a2 a3 a4 a5 a6 a7 a8 a9 : Value} {s0 : Int32} {s1 : Int32} {h : AHp} : Rf d 162 243 [a0, a1, a2, a3, a4, a5, a6, a7, a8, a9] [.int s0, .int s1] h = if s1 = s0 then Rf d 162 246 [a0, a1, a2, a3, a4, a5, a6, a7, a8, a9] [] h else Rf d 162 258 [a0, a1, a2, a3, a4, a5, a6, a7, a8, a9] [] h := Rf_brn ((stp_of c162_243).trans rfl)
theorem c162_258 : cd 162 258 = some (258, .iconst (-1), 1, []) := by decide +kernel
theorem x162_258 {d : Nat} {a0 a1 a2 a3 a4 a5 a6 a7 a8 a9 : Value} {h : AHp} : Rf d 162 258 [a0, a1, a2, a3, a4, a5, a6, a7, a8, a9] [] h = Rf d 162 259 [a0, a1, a2, a3, a4, a5, a6, a7, a8, a9] [.int (-1)] h := Rf_go ((stp_of c162_258).trans rfl)
theorem c162_259 : cd 162 259 = some (259, .istore 7, 2, []) := by decide +kernel
theorem x162_259 {d : Nat} {a0 a1 a2 a3 a4 a5 a6 a7 a8 a9 : Value} {s0 : Int32} {h : AHp} : Rf d 162 259 [a0, a1, a2, a3, a4, a5, a6, a7, a8, a9] [.int s0] h = Rf d 162 261 [a0, a1, a2, a3, a4, a5, a6, .int s0, a8, a9] [] h := Rf_go ((stp_of c162_259).trans rfl)
theorem c162_261 : cd 162 261 = some (261, .iload 7, 2, []) := by decide +kernel
theorem x162_261 {d : Nat} {a0 a1 a2 a3 a4 a5 a6 a8 a9 : Value} {x : Int32} {h : AHp} : Rf d 162 261 [a0, a1, a2, a3, a4, a5, a6, .int x, a8, a9] [] h = Rf d 162 263 [a0, a1, a2, a3, a4, a5, a6, .int x, a8, a9] [.int x] h := Rf_go ((stp_of c162_261).trans rfl)
theorem c162_263 : cd 162 263 = some (263, .iload 5, 2, []) := by decide +kernel
theorem x162_263 {d : Nat} {a0 a1 a2 a3 a4 a6 a7 a8 a9 : Value} {s0 : Int32} {x : Int32} {h : AHp} : Rf d 162 263 [a0, a1, a2, a3, a4, .int x, a6, a7, a8, a9] [.int s0] h = Rf d 162 265 [a0, a1, a2, a3, a4, .int x, a6, a7, a8, a9] [.int x, .int s0] h := Rf_go ((stp_of c162_263).trans rfl)
theorem c162_265 : cd 162 265 = some (265, .if_icmp .eq 10, 3, [(275, 0)]) := by decide +kernel
theorem x162_265 {d : Nat} {a0 a1 a2 a3 a4 a5 a6 a7 a8 a9 : Value} {s0 : Int32} {s1 : Int32} {h : AHp} : Rf d 162 265 [a0, a1, a2, a3, a4, a5, a6, a7, a8, a9] [.int s0, .int s1] h = if s1 = s0 then Rf d 162 275 [a0, a1, a2, a3, a4, a5, a6, a7, a8, a9] [] h else Rf d 162 268 [a0, a1, a2, a3, a4, a5, a6, a7, a8, a9] [] h := Rf_brd ((stp_of c162_265).trans rfl)
theorem c162_275 : cd 162 275 = some (275, .iconst (-1), 1, []) := by decide +kernel
theorem x162_275 {d : Nat} {a0 a1 a2 a3 a4 a5 a6 a7 a8 a9 : Value} {h : AHp} : Rf d 162 275 [a0, a1, a2, a3, a4, a5, a6, a7, a8, a9] [] h = Rf d 162 276 [a0, a1, a2, a3, a4, a5, a6, a7, a8, a9] [.int (-1)] h := Rf_go ((stp_of c162_275).trans rfl)
theorem c162_276 : cd 162 276 = some (276, .istore 7, 2, []) := by decide +kernel
theorem x162_276 {d : Nat} {a0 a1 a2 a3 a4 a5 a6 a7 a8 a9 : Value} {s0 : Int32} {h : AHp} : Rf d 162 276 [a0, a1, a2, a3, a4, a5, a6, a7, a8, a9] [.int s0] h = Rf d 162 278 [a0, a1, a2, a3, a4, a5, a6, .int s0, a8, a9] [] h := Rf_go ((stp_of c162_276).trans rfl)
theorem c162_278 : cd 162 278 = some (278, .aload_n 0, 1, []) := by decide +kernel
theorem x162_278 {d : Nat} {a1 a2 a3 a4 a5 a6 a7 a8 a9 : Value} {x : Nat} {h : AHp} : Rf d 162 278 [.ref x, a1, a2, a3, a4, a5, a6, a7, a8, a9] [] h = Rf d 162 279 [.ref x, a1, a2, a3, a4, a5, a6, a7, a8, a9] [.ref x] h := Rf_go ((stp_of c162_278).trans rfl)
theorem c162_279 : cd 162 279 = some (279, .getfield 9, 3, [(12, 0)]) := by decide +kernel
theorem x162_279 {d : Nat} {a0 a1 a2 a3 a4 a5 a6 a7 a8 a9 : Value} {s0 : Nat} {h : AHp} : Rf d 162 279 [a0, a1, a2, a3, a4, a5, a6, a7, a8, a9] [.ref s0] h = if cls (h.1 s0) = 12 ∧ oKr (h.1 s0) 0 = true then Rf d 162 282 [a0, a1, a2, a3, a4, a5, a6, a7, a8, a9] [.ref (oR (h.1 s0) 0)] h else Rx d 162 279 [a0, a1, a2, a3, a4, a5, a6, a7, a8, a9] [.ref s0] h := getR c162_279
theorem c162_282 : cd 162 282 = some (282, .bipush 20, 2, []) := by decide +kernel
theorem x162_282 {d : Nat} {a0 a1 a2 a3 a4 a5 a6 a7 a8 a9 : Value} {s0 : Nat} {h : AHp} : Rf d 162 282 [a0, a1, a2, a3, a4, a5, a6, a7, a8, a9] [.ref s0] h = Rf d 162 284 [a0, a1, a2, a3, a4, a5, a6, a7, a8, a9] [.int 20, .ref s0] h := Rf_go ((stp_of c162_282).trans rfl)
theorem c162_284 : cd 162 284 = some (284, .iload_n 1, 1, []) := by decide +kernel
theorem x162_284 {d : Nat} {a0 a2 a3 a4 a5 a6 a7 a8 a9 : Value} {s0 : Int32} {s1 : Nat} {x : Int32} {h : AHp} : Rf d 162 284 [a0, .int x, a2, a3, a4, a5, a6, a7, a8, a9] [.int s0, .ref s1] h = Rf d 162 285 [a0, .int x, a2, a3, a4, a5, a6, a7, a8, a9] [.int x, .int s0, .ref s1] h := Rf_go ((stp_of c162_284).trans rfl)
theorem c162_285 : cd 162 285 = some (285, .iadd, 1, []) := by decide +kernel
theorem x162_285 {d : Nat} {a0 a1 a2 a3 a4 a5 a6 a7 a8 a9 : Value} {s0 : Int32} {s1 : Int32} {s2 : Nat} {h : AHp} : Rf d 162 285 [a0, a1, a2, a3, a4, a5, a6, a7, a8, a9] [.int s0, .int s1, .ref s2] h = Rf d 162 286 [a0, a1, a2, a3, a4, a5, a6, a7, a8, a9] [.int (s1 + s0), .ref s2] h := Rf_go ((stp_of c162_285).trans rfl)
theorem c162_286 : cd 162 286 = some (286, .iaload, 1, []) := by decide +kernel
theorem x162_286 {d : Nat} {a0 a1 a2 a3 a4 a5 a6 a7 a8 a9 : Value} {s0 : Int32} {s1 : Nat} {h : AHp} : Rf d 162 286 [a0, a1, a2, a3, a4, a5, a6, a7, a8, a9] [.int s0, .ref s1] h = if (aT (h.1 s1) = 0 ∨ aT (h.1 s1) = 10) ∧ inB s0 (aN (h.1 s1)) = true then Rf d 162 287 [a0, a1, a2, a3, a4, a5, a6, a7, a8, a9] [.int (aF (h.1 s1) s0.toNatClampNeg)] h else Rx d 162 286 [a0, a1, a2, a3, a4, a5, a6, a7, a8, a9] [.int s0, .ref s1] h := ldI c162_286
theorem c162_287 : cd 162 287 = some (287, .istore 8, 2, []) := by decide +kernel
theorem x162_287 {d : Nat} {a0 a1 a2 a3 a4 a5 a6 a7 a8 a9 : Value} {s0 : Int32} {h : AHp} : Rf d 162 287 [a0, a1, a2, a3, a4, a5, a6, a7, a8, a9] [.int s0] h = Rf d 162 289 [a0, a1, a2, a3, a4, a5, a6, a7, .int s0, a9] [] h := Rf_go ((stp_of c162_287).trans rfl)
theorem c162_289 : cd 162 289 = some (289, .iconst 1, 1, []) := by decide +kernel
theorem x162_289 {d : Nat} {a0 a1 a2 a3 a4 a5 a6 a7 a8 a9 : Value} {h : AHp} : Rf d 162 289 [a0, a1, a2, a3, a4, a5, a6, a7, a8, a9] [] h = Rf d 162 290 [a0, a1, a2, a3, a4, a5, a6, a7, a8, a9] [.int 1] h := Rf_go ((stp_of c162_289).trans rfl)
theorem c162_290 : cd 162 290 = some (290, .istore 9, 2, []) := by decide +kernel
theorem x162_290 {d : Nat} {a0 a1 a2 a3 a4 a5 a6 a7 a8 a9 : Value} {s0 : Int32} {h : AHp} : Rf d 162 290 [a0, a1, a2, a3, a4, a5, a6, a7, a8, a9] [.int s0] h = Rf d 162 292 [a0, a1, a2, a3, a4, a5, a6, a7, a8, .int s0] [] h := Rf_go ((stp_of c162_290).trans rfl)
theorem c162_292 : cd 162 292 = some (292, .iload 5, 2, []) := by decide +kernel
theorem x162_292 {d : Nat} {a0 a1 a2 a3 a4 a6 a7 a8 a9 : Value} {x : Int32} {h : AHp} : Rf d 162 292 [a0, a1, a2, a3, a4, .int x, a6, a7, a8, a9] [] h = Rf d 162 294 [a0, a1, a2, a3, a4, .int x, a6, a7, a8, a9] [.int x] h := Rf_go ((stp_of c162_292).trans rfl)
theorem c162_294 : cd 162 294 = some (294, .ifCond .lt 21, 3, [(315, 0)]) := by decide +kernel
theorem x162_294 {d : Nat} {a0 a1 a2 a3 a4 a5 a6 a7 a8 a9 : Value} {s0 : Int32} {h : AHp} : Rf d 162 294 [a0, a1, a2, a3, a4, a5, a6, a7, a8, a9] [.int s0] h = if s0 < 0 then Rf d 162 315 [a0, a1, a2, a3, a4, a5, a6, a7, a8, a9] [] h else Rf d 162 297 [a0, a1, a2, a3, a4, a5, a6, a7, a8, a9] [] h := Rf_brd ((stp_of c162_294).trans rfl)
theorem c162_315 : cd 162 315 = some (315, .iload 6, 2, []) := by decide +kernel
theorem x162_315 {d : Nat} {a0 a1 a2 a3 a4 a5 a7 a8 a9 : Value} {x : Int32} {h : AHp} : Rf d 162 315 [a0, a1, a2, a3, a4, a5, .int x, a7, a8, a9] [] h = Rf d 162 317 [a0, a1, a2, a3, a4, a5, .int x, a7, a8, a9] [.int x] h := Rf_go ((stp_of c162_315).trans rfl)
theorem c162_317 : cd 162 317 = some (317, .ifCond .lt 21, 3, [(338, 0)]) := by decide +kernel
theorem x162_317 {d : Nat} {a0 a1 a2 a3 a4 a5 a6 a7 a8 a9 : Value} {s0 : Int32} {h : AHp} : Rf d 162 317 [a0, a1, a2, a3, a4, a5, a6, a7, a8, a9] [.int s0] h = if s0 < 0 then Rf d 162 338 [a0, a1, a2, a3, a4, a5, a6, a7, a8, a9] [] h else Rf d 162 320 [a0, a1, a2, a3, a4, a5, a6, a7, a8, a9] [] h := Rf_brd ((stp_of c162_317).trans rfl)
theorem c162_338 : cd 162 338 = some (338, .iload 7, 2, []) := by decide +kernel
theorem x162_338 {d : Nat} {a0 a1 a2 a3 a4 a5 a6 a8 a9 : Value} {x : Int32} {h : AHp} : Rf d 162 338 [a0, a1, a2, a3, a4, a5, a6, .int x, a8, a9] [] h = Rf d 162 340 [a0, a1, a2, a3, a4, a5, a6, .int x, a8, a9] [.int x] h := Rf_go ((stp_of c162_338).trans rfl)
theorem c162_340 : cd 162 340 = some (340, .ifCond .lt 21, 3, [(361, 0)]) := by decide +kernel
theorem x162_340 {d : Nat} {a0 a1 a2 a3 a4 a5 a6 a7 a8 a9 : Value} {s0 : Int32} {h : AHp} : Rf d 162 340 [a0, a1, a2, a3, a4, a5, a6, a7, a8, a9] [.int s0] h = if s0 < 0 then Rf d 162 361 [a0, a1, a2, a3, a4, a5, a6, a7, a8, a9] [] h else Rf d 162 343 [a0, a1, a2, a3, a4, a5, a6, a7, a8, a9] [] h := Rf_brd ((stp_of c162_340).trans rfl)
theorem c162_361 : cd 162 361 = some (361, .iload 8, 2, []) := by decide +kernel
theorem x162_361 {d : Nat} {a0 a1 a2 a3 a4 a5 a6 a7 a9 : Value} {x : Int32} {h : AHp} : Rf d 162 361 [a0, a1, a2, a3, a4, a5, a6, a7, .int x, a9] [] h = Rf d 162 363 [a0, a1, a2, a3, a4, a5, a6, a7, .int x, a9] [.int x] h := Rf_go ((stp_of c162_361).trans rfl)
theorem c162_363 : cd 162 363 = some (363, .iload 9, 2, []) := by decide +kernel
theorem x162_363 {d : Nat} {a0 a1 a2 a3 a4 a5 a6 a7 a8 : Value} {s0 : Int32} {x : Int32} {h : AHp} : Rf d 162 363 [a0, a1, a2, a3, a4, a5, a6, a7, a8, .int x] [.int s0] h = Rf d 162 365 [a0, a1, a2, a3, a4, a5, a6, a7, a8, .int x] [.int x, .int s0] h := Rf_go ((stp_of c162_363).trans rfl)
theorem c162_365 : cd 162 365 = some (365, .idiv, 1, []) := by decide +kernel
theorem x162_365 {d : Nat} {a0 a1 a2 a3 a4 a5 a6 a7 a8 a9 : Value} {s0 : Int32} {s1 : Int32} {h : AHp} : Rf d 162 365 [a0, a1, a2, a3, a4, a5, a6, a7, a8, a9] [.int s0, .int s1] h = if ¬ s0 = 0 then Rf d 162 366 [a0, a1, a2, a3, a4, a5, a6, a7, a8, a9] [.int (s1 / s0)] h else Rx d 162 365 [a0, a1, a2, a3, a4, a5, a6, a7, a8, a9] [.int s0, .int s1] h := divE c162_365 (fun _ _ _ => rfl)
theorem c162_366 : cd 162 366 = some (366, .ireturn, 1, []) := by decide +kernel
theorem x162_366 {d : Nat} {a0 a1 a2 a3 a4 a5 a6 a7 a8 a9 : Value} {s0 : Int32} {h : AHp} : Rf d 162 366 [a0, a1, a2, a3, a4, a5, a6, a7, a8, a9] [.int s0] h = some (some (.int s0), h) := Rf_end (by rw [stp_of c162_366]; simp only [stpI]; rw [if_pos (show retI (mH 162).2.2.1 s0 = true from retI_int)])
theorem c162_343 : cd 162 343 = some (343, .iload 8, 2, []) := by decide +kernel
theorem x162_343 {d : Nat} {a0 a1 a2 a3 a4 a5 a6 a7 a9 : Value} {x : Int32} {h : AHp} : Rf d 162 343 [a0, a1, a2, a3, a4, a5, a6, a7, .int x, a9] [] h = Rf d 162 345 [a0, a1, a2, a3, a4, a5, a6, a7, .int x, a9] [.int x] h := Rf_go ((stp_of c162_343).trans rfl)
theorem c162_345 : cd 162 345 = some (345, .aload_n 0, 1, []) := by decide +kernel
theorem x162_345 {d : Nat} {a1 a2 a3 a4 a5 a6 a7 a8 a9 : Value} {s0 : Int32} {x : Nat} {h : AHp} : Rf d 162 345 [.ref x, a1, a2, a3, a4, a5, a6, a7, a8, a9] [.int s0] h = Rf d 162 346 [.ref x, a1, a2, a3, a4, a5, a6, a7, a8, a9] [.ref x, .int s0] h := Rf_go ((stp_of c162_345).trans rfl)
theorem c162_346 : cd 162 346 = some (346, .getfield 9, 3, [(12, 0)]) := by decide +kernel
theorem x162_346 {d : Nat} {a0 a1 a2 a3 a4 a5 a6 a7 a8 a9 : Value} {s0 : Nat} {s1 : Int32} {h : AHp} : Rf d 162 346 [a0, a1, a2, a3, a4, a5, a6, a7, a8, a9] [.ref s0, .int s1] h = if cls (h.1 s0) = 12 ∧ oKr (h.1 s0) 0 = true then Rf d 162 349 [a0, a1, a2, a3, a4, a5, a6, a7, a8, a9] [.ref (oR (h.1 s0) 0), .int s1] h else Rx d 162 346 [a0, a1, a2, a3, a4, a5, a6, a7, a8, a9] [.ref s0, .int s1] h := getR c162_346
theorem c162_349 : cd 162 349 = some (349, .bipush 20, 2, []) := by decide +kernel
theorem x162_349 {d : Nat} {a0 a1 a2 a3 a4 a5 a6 a7 a8 a9 : Value} {s0 : Nat} {s1 : Int32} {h : AHp} : Rf d 162 349 [a0, a1, a2, a3, a4, a5, a6, a7, a8, a9] [.ref s0, .int s1] h = Rf d 162 351 [a0, a1, a2, a3, a4, a5, a6, a7, a8, a9] [.int 20, .ref s0, .int s1] h := Rf_go ((stp_of c162_349).trans rfl)
theorem c162_351 : cd 162 351 = some (351, .iload 7, 2, []) := by decide +kernel
theorem x162_351 {d : Nat} {a0 a1 a2 a3 a4 a5 a6 a8 a9 : Value} {s0 : Int32} {s1 : Nat} {s2 : Int32} {x : Int32} {h : AHp} : Rf d 162 351 [a0, a1, a2, a3, a4, a5, a6, .int x, a8, a9] [.int s0, .ref s1, .int s2] h = Rf d 162 353 [a0, a1, a2, a3, a4, a5, a6, .int x, a8, a9] [.int x, .int s0, .ref s1, .int s2] h := Rf_go ((stp_of c162_351).trans rfl)
theorem c162_353 : cd 162 353 = some (353, .iadd, 1, []) := by decide +kernel
theorem x162_353 {d : Nat} {a0 a1 a2 a3 a4 a5 a6 a7 a8 a9 : Value} {s0 : Int32} {s1 : Int32} {s2 : Nat} {s3 : Int32} {h : AHp} : Rf d 162 353 [a0, a1, a2, a3, a4, a5, a6, a7, a8, a9] [.int s0, .int s1, .ref s2, .int s3] h = Rf d 162 354 [a0, a1, a2, a3, a4, a5, a6, a7, a8, a9] [.int (s1 + s0), .ref s2, .int s3] h := Rf_go ((stp_of c162_353).trans rfl)
theorem c162_354 : cd 162 354 = some (354, .iaload, 1, []) := by decide +kernel
theorem x162_354 {d : Nat} {a0 a1 a2 a3 a4 a5 a6 a7 a8 a9 : Value} {s0 : Int32} {s1 : Nat} {s2 : Int32} {h : AHp} : Rf d 162 354 [a0, a1, a2, a3, a4, a5, a6, a7, a8, a9] [.int s0, .ref s1, .int s2] h = if (aT (h.1 s1) = 0 ∨ aT (h.1 s1) = 10) ∧ inB s0 (aN (h.1 s1)) = true then Rf d 162 355 [a0, a1, a2, a3, a4, a5, a6, a7, a8, a9] [.int (aF (h.1 s1) s0.toNatClampNeg), .int s2] h else Rx d 162 354 [a0, a1, a2, a3, a4, a5, a6, a7, a8, a9] [.int s0, .ref s1, .int s2] h := ldI c162_354
theorem c162_355 : cd 162 355 = some (355, .iadd, 1, []) := by decide +kernel
theorem x162_355 {d : Nat} {a0 a1 a2 a3 a4 a5 a6 a7 a8 a9 : Value} {s0 : Int32} {s1 : Int32} {h : AHp} : Rf d 162 355 [a0, a1, a2, a3, a4, a5, a6, a7, a8, a9] [.int s0, .int s1] h = Rf d 162 356 [a0, a1, a2, a3, a4, a5, a6, a7, a8, a9] [.int (s1 + s0)] h := Rf_go ((stp_of c162_355).trans rfl)
theorem c162_356 : cd 162 356 = some (356, .istore 8, 2, []) := by decide +kernel
theorem x162_356 {d : Nat} {a0 a1 a2 a3 a4 a5 a6 a7 a8 a9 : Value} {s0 : Int32} {h : AHp} : Rf d 162 356 [a0, a1, a2, a3, a4, a5, a6, a7, a8, a9] [.int s0] h = Rf d 162 358 [a0, a1, a2, a3, a4, a5, a6, a7, .int s0, a9] [] h := Rf_go ((stp_of c162_356).trans rfl)
theorem c162_358 : cd 162 358 = some (358, .iinc 9 1, 3, []) := by decide +kernel
theorem x162_358 {d : Nat} {a0 a1 a2 a3 a4 a5 a6 a7 a8 : Value} {x : Int32} {h : AHp} : Rf d 162 358 [a0, a1, a2, a3, a4, a5, a6, a7, a8, .int x] [] h = Rf d 162 361 [a0, a1, a2, a3, a4, a5, a6, a7, a8, .int (x + 1)] [] h := Rf_go ((stp_of c162_358).trans rfl)
theorem c162_320 : cd 162 320 = some (320, .iload 8, 2, []) := by decide +kernel
theorem x162_320 {d : Nat} {a0 a1 a2 a3 a4 a5 a6 a7 a9 : Value} {x : Int32} {h : AHp} : Rf d 162 320 [a0, a1, a2, a3, a4, a5, a6, a7, .int x, a9] [] h = Rf d 162 322 [a0, a1, a2, a3, a4, a5, a6, a7, .int x, a9] [.int x] h := Rf_go ((stp_of c162_320).trans rfl)
theorem c162_322 : cd 162 322 = some (322, .aload_n 0, 1, []) := by decide +kernel
theorem x162_322 {d : Nat} {a1 a2 a3 a4 a5 a6 a7 a8 a9 : Value} {s0 : Int32} {x : Nat} {h : AHp} : Rf d 162 322 [.ref x, a1, a2, a3, a4, a5, a6, a7, a8, a9] [.int s0] h = Rf d 162 323 [.ref x, a1, a2, a3, a4, a5, a6, a7, a8, a9] [.ref x, .int s0] h := Rf_go ((stp_of c162_322).trans rfl)
theorem c162_323 : cd 162 323 = some (323, .getfield 9, 3, [(12, 0)]) := by decide +kernel
theorem x162_323 {d : Nat} {a0 a1 a2 a3 a4 a5 a6 a7 a8 a9 : Value} {s0 : Nat} {s1 : Int32} {h : AHp} : Rf d 162 323 [a0, a1, a2, a3, a4, a5, a6, a7, a8, a9] [.ref s0, .int s1] h = if cls (h.1 s0) = 12 ∧ oKr (h.1 s0) 0 = true then Rf d 162 326 [a0, a1, a2, a3, a4, a5, a6, a7, a8, a9] [.ref (oR (h.1 s0) 0), .int s1] h else Rx d 162 323 [a0, a1, a2, a3, a4, a5, a6, a7, a8, a9] [.ref s0, .int s1] h := getR c162_323
theorem c162_326 : cd 162 326 = some (326, .bipush 20, 2, []) := by decide +kernel
theorem x162_326 {d : Nat} {a0 a1 a2 a3 a4 a5 a6 a7 a8 a9 : Value} {s0 : Nat} {s1 : Int32} {h : AHp} : Rf d 162 326 [a0, a1, a2, a3, a4, a5, a6, a7, a8, a9] [.ref s0, .int s1] h = Rf d 162 328 [a0, a1, a2, a3, a4, a5, a6, a7, a8, a9] [.int 20, .ref s0, .int s1] h := Rf_go ((stp_of c162_326).trans rfl)
theorem c162_328 : cd 162 328 = some (328, .iload 6, 2, []) := by decide +kernel
theorem x162_328 {d : Nat} {a0 a1 a2 a3 a4 a5 a7 a8 a9 : Value} {s0 : Int32} {s1 : Nat} {s2 : Int32} {x : Int32} {h : AHp} : Rf d 162 328 [a0, a1, a2, a3, a4, a5, .int x, a7, a8, a9] [.int s0, .ref s1, .int s2] h = Rf d 162 330 [a0, a1, a2, a3, a4, a5, .int x, a7, a8, a9] [.int x, .int s0, .ref s1, .int s2] h := Rf_go ((stp_of c162_328).trans rfl)
theorem c162_330 : cd 162 330 = some (330, .iadd, 1, []) := by decide +kernel
theorem x162_330 {d : Nat} {a0 a1 a2 a3 a4 a5 a6 a7 a8 a9 : Value} {s0 : Int32} {s1 : Int32} {s2 : Nat} {s3 : Int32} {h : AHp} : Rf d 162 330 [a0, a1, a2, a3, a4, a5, a6, a7, a8, a9] [.int s0, .int s1, .ref s2, .int s3] h = Rf d 162 331 [a0, a1, a2, a3, a4, a5, a6, a7, a8, a9] [.int (s1 + s0), .ref s2, .int s3] h := Rf_go ((stp_of c162_330).trans rfl)
theorem c162_331 : cd 162 331 = some (331, .iaload, 1, []) := by decide +kernel
theorem x162_331 {d : Nat} {a0 a1 a2 a3 a4 a5 a6 a7 a8 a9 : Value} {s0 : Int32} {s1 : Nat} {s2 : Int32} {h : AHp} : Rf d 162 331 [a0, a1, a2, a3, a4, a5, a6, a7, a8, a9] [.int s0, .ref s1, .int s2] h = if (aT (h.1 s1) = 0 ∨ aT (h.1 s1) = 10) ∧ inB s0 (aN (h.1 s1)) = true then Rf d 162 332 [a0, a1, a2, a3, a4, a5, a6, a7, a8, a9] [.int (aF (h.1 s1) s0.toNatClampNeg), .int s2] h else Rx d 162 331 [a0, a1, a2, a3, a4, a5, a6, a7, a8, a9] [.int s0, .ref s1, .int s2] h := ldI c162_331
theorem c162_332 : cd 162 332 = some (332, .iadd, 1, []) := by decide +kernel
theorem x162_332 {d : Nat} {a0 a1 a2 a3 a4 a5 a6 a7 a8 a9 : Value} {s0 : Int32} {s1 : Int32} {h : AHp} : Rf d 162 332 [a0, a1, a2, a3, a4, a5, a6, a7, a8, a9] [.int s0, .int s1] h = Rf d 162 333 [a0, a1, a2, a3, a4, a5, a6, a7, a8, a9] [.int (s1 + s0)] h := Rf_go ((stp_of c162_332).trans rfl)
theorem c162_333 : cd 162 333 = some (333, .istore 8, 2, []) := by decide +kernel
theorem x162_333 {d : Nat} {a0 a1 a2 a3 a4 a5 a6 a7 a8 a9 : Value} {s0 : Int32} {h : AHp} : Rf d 162 333 [a0, a1, a2, a3, a4, a5, a6, a7, a8, a9] [.int s0] h = Rf d 162 335 [a0, a1, a2, a3, a4, a5, a6, a7, .int s0, a9] [] h := Rf_go ((stp_of c162_333).trans rfl)
theorem c162_335 : cd 162 335 = some (335, .iinc 9 1, 3, []) := by decide +kernel
theorem x162_335 {d : Nat} {a0 a1 a2 a3 a4 a5 a6 a7 a8 : Value} {x : Int32} {h : AHp} : Rf d 162 335 [a0, a1, a2, a3, a4, a5, a6, a7, a8, .int x] [] h = Rf d 162 338 [a0, a1, a2, a3, a4, a5, a6, a7, a8, .int (x + 1)] [] h := Rf_go ((stp_of c162_335).trans rfl)
theorem c162_297 : cd 162 297 = some (297, .iload 8, 2, []) := by decide +kernel
theorem x162_297 {d : Nat} {a0 a1 a2 a3 a4 a5 a6 a7 a9 : Value} {x : Int32} {h : AHp} : Rf d 162 297 [a0, a1, a2, a3, a4, a5, a6, a7, .int x, a9] [] h = Rf d 162 299 [a0, a1, a2, a3, a4, a5, a6, a7, .int x, a9] [.int x] h := Rf_go ((stp_of c162_297).trans rfl)
theorem c162_299 : cd 162 299 = some (299, .aload_n 0, 1, []) := by decide +kernel
theorem x162_299 {d : Nat} {a1 a2 a3 a4 a5 a6 a7 a8 a9 : Value} {s0 : Int32} {x : Nat} {h : AHp} : Rf d 162 299 [.ref x, a1, a2, a3, a4, a5, a6, a7, a8, a9] [.int s0] h = Rf d 162 300 [.ref x, a1, a2, a3, a4, a5, a6, a7, a8, a9] [.ref x, .int s0] h := Rf_go ((stp_of c162_299).trans rfl)
theorem c162_300 : cd 162 300 = some (300, .getfield 9, 3, [(12, 0)]) := by decide +kernel
theorem x162_300 {d : Nat} {a0 a1 a2 a3 a4 a5 a6 a7 a8 a9 : Value} {s0 : Nat} {s1 : Int32} {h : AHp} : Rf d 162 300 [a0, a1, a2, a3, a4, a5, a6, a7, a8, a9] [.ref s0, .int s1] h = if cls (h.1 s0) = 12 ∧ oKr (h.1 s0) 0 = true then Rf d 162 303 [a0, a1, a2, a3, a4, a5, a6, a7, a8, a9] [.ref (oR (h.1 s0) 0), .int s1] h else Rx d 162 300 [a0, a1, a2, a3, a4, a5, a6, a7, a8, a9] [.ref s0, .int s1] h := getR c162_300
theorem c162_303 : cd 162 303 = some (303, .bipush 20, 2, []) := by decide +kernel
theorem x162_303 {d : Nat} {a0 a1 a2 a3 a4 a5 a6 a7 a8 a9 : Value} {s0 : Nat} {s1 : Int32} {h : AHp} : Rf d 162 303 [a0, a1, a2, a3, a4, a5, a6, a7, a8, a9] [.ref s0, .int s1] h = Rf d 162 305 [a0, a1, a2, a3, a4, a5, a6, a7, a8, a9] [.int 20, .ref s0, .int s1] h := Rf_go ((stp_of c162_303).trans rfl)
theorem c162_305 : cd 162 305 = some (305, .iload 5, 2, []) := by decide +kernel
theorem x162_305 {d : Nat} {a0 a1 a2 a3 a4 a6 a7 a8 a9 : Value} {s0 : Int32} {s1 : Nat} {s2 : Int32} {x : Int32} {h : AHp} : Rf d 162 305 [a0, a1, a2, a3, a4, .int x, a6, a7, a8, a9] [.int s0, .ref s1, .int s2] h = Rf d 162 307 [a0, a1, a2, a3, a4, .int x, a6, a7, a8, a9] [.int x, .int s0, .ref s1, .int s2] h := Rf_go ((stp_of c162_305).trans rfl)
theorem c162_307 : cd 162 307 = some (307, .iadd, 1, []) := by decide +kernel
theorem x162_307 {d : Nat} {a0 a1 a2 a3 a4 a5 a6 a7 a8 a9 : Value} {s0 : Int32} {s1 : Int32} {s2 : Nat} {s3 : Int32} {h : AHp} : Rf d 162 307 [a0, a1, a2, a3, a4, a5, a6, a7, a8, a9] [.int s0, .int s1, .ref s2, .int s3] h = Rf d 162 308 [a0, a1, a2, a3, a4, a5, a6, a7, a8, a9] [.int (s1 + s0), .ref s2, .int s3] h := Rf_go ((stp_of c162_307).trans rfl)
theorem c162_308 : cd 162 308 = some (308, .iaload, 1, []) := by decide +kernel
theorem x162_308 {d : Nat} {a0 a1 a2 a3 a4 a5 a6 a7 a8 a9 : Value} {s0 : Int32} {s1 : Nat} {s2 : Int32} {h : AHp} : Rf d 162 308 [a0, a1, a2, a3, a4, a5, a6, a7, a8, a9] [.int s0, .ref s1, .int s2] h = if (aT (h.1 s1) = 0 ∨ aT (h.1 s1) = 10) ∧ inB s0 (aN (h.1 s1)) = true then Rf d 162 309 [a0, a1, a2, a3, a4, a5, a6, a7, a8, a9] [.int (aF (h.1 s1) s0.toNatClampNeg), .int s2] h else Rx d 162 308 [a0, a1, a2, a3, a4, a5, a6, a7, a8, a9] [.int s0, .ref s1, .int s2] h := ldI c162_308
theorem c162_309 : cd 162 309 = some (309, .iadd, 1, []) := by decide +kernel
theorem x162_309 {d : Nat} {a0 a1 a2 a3 a4 a5 a6 a7 a8 a9 : Value} {s0 : Int32} {s1 : Int32} {h : AHp} : Rf d 162 309 [a0, a1, a2, a3, a4, a5, a6, a7, a8, a9] [.int s0, .int s1] h = Rf d 162 310 [a0, a1, a2, a3, a4, a5, a6, a7, a8, a9] [.int (s1 + s0)] h := Rf_go ((stp_of c162_309).trans rfl)
theorem c162_310 : cd 162 310 = some (310, .istore 8, 2, []) := by decide +kernel
theorem x162_310 {d : Nat} {a0 a1 a2 a3 a4 a5 a6 a7 a8 a9 : Value} {s0 : Int32} {h : AHp} : Rf d 162 310 [a0, a1, a2, a3, a4, a5, a6, a7, a8, a9] [.int s0] h = Rf d 162 312 [a0, a1, a2, a3, a4, a5, a6, a7, .int s0, a9] [] h := Rf_go ((stp_of c162_310).trans rfl)
theorem c162_312 : cd 162 312 = some (312, .iinc 9 1, 3, []) := by decide +kernel
theorem x162_312 {d : Nat} {a0 a1 a2 a3 a4 a5 a6 a7 a8 : Value} {x : Int32} {h : AHp} : Rf d 162 312 [a0, a1, a2, a3, a4, a5, a6, a7, a8, .int x] [] h = Rf d 162 315 [a0, a1, a2, a3, a4, a5, a6, a7, a8, .int (x + 1)] [] h := Rf_go ((stp_of c162_312).trans rfl)
theorem c162_268 : cd 162 268 = some (268, .iload 7, 2, []) := by decide +kernel
theorem x162_268 {d : Nat} {a0 a1 a2 a3 a4 a5 a6 a8 a9 : Value} {x : Int32} {h : AHp} : Rf d 162 268 [a0, a1, a2, a3, a4, a5, a6, .int x, a8, a9] [] h = Rf d 162 270 [a0, a1, a2, a3, a4, a5, a6, .int x, a8, a9] [.int x] h := Rf_go ((stp_of c162_268).trans rfl)
theorem c162_270 : cd 162 270 = some (270, .iload 6, 2, []) := by decide +kernel
theorem x162_270 {d : Nat} {a0 a1 a2 a3 a4 a5 a7 a8 a9 : Value} {s0 : Int32} {x : Int32} {h : AHp} : Rf d 162 270 [a0, a1, a2, a3, a4, a5, .int x, a7, a8, a9] [.int s0] h = Rf d 162 272 [a0, a1, a2, a3, a4, a5, .int x, a7, a8, a9] [.int x, .int s0] h := Rf_go ((stp_of c162_270).trans rfl)
theorem c162_272 : cd 162 272 = some (272, .if_icmp .ne 6, 3, [(278, 0)]) := by decide +kernel
theorem x162_272 {d : Nat} {a0 a1 a2 a3 a4 a5 a6 a7 a8 a9 : Value} {s0 : Int32} {s1 : Int32} {h : AHp} : Rf d 162 272 [a0, a1, a2, a3, a4, a5, a6, a7, a8, a9] [.int s0, .int s1] h = if s1 = s0 then Rf d 162 275 [a0, a1, a2, a3, a4, a5, a6, a7, a8, a9] [] h else Rf d 162 278 [a0, a1, a2, a3, a4, a5, a6, a7, a8, a9] [] h := Rf_brn ((stp_of c162_272).trans rfl)
theorem c162_246 : cd 162 246 = some (246, .aload_n 0, 1, []) := by decide +kernel
theorem x162_246 {d : Nat} {a1 a2 a3 a4 a5 a6 a7 a8 a9 : Value} {x : Nat} {h : AHp} : Rf d 162 246 [.ref x, a1, a2, a3, a4, a5, a6, a7, a8, a9] [] h = Rf d 162 247 [.ref x, a1, a2, a3, a4, a5, a6, a7, a8, a9] [.ref x] h := Rf_go ((stp_of c162_246).trans rfl)
theorem c162_247 : cd 162 247 = some (247, .getfield 9, 3, [(12, 0)]) := by decide +kernel
theorem x162_247 {d : Nat} {a0 a1 a2 a3 a4 a5 a6 a7 a8 a9 : Value} {s0 : Nat} {h : AHp} : Rf d 162 247 [a0, a1, a2, a3, a4, a5, a6, a7, a8, a9] [.ref s0] h = if cls (h.1 s0) = 12 ∧ oKr (h.1 s0) 0 = true then Rf d 162 250 [a0, a1, a2, a3, a4, a5, a6, a7, a8, a9] [.ref (oR (h.1 s0) 0)] h else Rx d 162 247 [a0, a1, a2, a3, a4, a5, a6, a7, a8, a9] [.ref s0] h := getR c162_247
theorem c162_250 : cd 162 250 = some (250, .bipush 50, 2, []) := by decide +kernel
theorem x162_250 {d : Nat} {a0 a1 a2 a3 a4 a5 a6 a7 a8 a9 : Value} {s0 : Nat} {h : AHp} : Rf d 162 250 [a0, a1, a2, a3, a4, a5, a6, a7, a8, a9] [.ref s0] h = Rf d 162 252 [a0, a1, a2, a3, a4, a5, a6, a7, a8, a9] [.int 50, .ref s0] h := Rf_go ((stp_of c162_250).trans rfl)
theorem c162_252 : cd 162 252 = some (252, .iload_n 1, 1, []) := by decide +kernel
theorem x162_252 {d : Nat} {a0 a2 a3 a4 a5 a6 a7 a8 a9 : Value} {s0 : Int32} {s1 : Nat} {x : Int32} {h : AHp} : Rf d 162 252 [a0, .int x, a2, a3, a4, a5, a6, a7, a8, a9] [.int s0, .ref s1] h = Rf d 162 253 [a0, .int x, a2, a3, a4, a5, a6, a7, a8, a9] [.int x, .int s0, .ref s1] h := Rf_go ((stp_of c162_252).trans rfl)
theorem c162_253 : cd 162 253 = some (253, .iadd, 1, []) := by decide +kernel
theorem x162_253 {d : Nat} {a0 a1 a2 a3 a4 a5 a6 a7 a8 a9 : Value} {s0 : Int32} {s1 : Int32} {s2 : Nat} {h : AHp} : Rf d 162 253 [a0, a1, a2, a3, a4, a5, a6, a7, a8, a9] [.int s0, .int s1, .ref s2] h = Rf d 162 254 [a0, a1, a2, a3, a4, a5, a6, a7, a8, a9] [.int (s1 + s0), .ref s2] h := Rf_go ((stp_of c162_253).trans rfl)
theorem c162_254 : cd 162 254 = some (254, .iaload, 1, []) := by decide +kernel
theorem x162_254 {d : Nat} {a0 a1 a2 a3 a4 a5 a6 a7 a8 a9 : Value} {s0 : Int32} {s1 : Nat} {h : AHp} : Rf d 162 254 [a0, a1, a2, a3, a4, a5, a6, a7, a8, a9] [.int s0, .ref s1] h = if (aT (h.1 s1) = 0 ∨ aT (h.1 s1) = 10) ∧ inB s0 (aN (h.1 s1)) = true then Rf d 162 255 [a0, a1, a2, a3, a4, a5, a6, a7, a8, a9] [.int (aF (h.1 s1) s0.toNatClampNeg)] h else Rx d 162 254 [a0, a1, a2, a3, a4, a5, a6, a7, a8, a9] [.int s0, .ref s1] h := ldI c162_254
theorem c162_255 : cd 162 255 = some (255, .goto 4, 3, [(259, 0)]) := by decide +kernel
theorem x162_255 {d : Nat} {a0 a1 a2 a3 a4 a5 a6 a7 a8 a9 : Value} {s0 : Int32} {h : AHp} : Rf d 162 255 [a0, a1, a2, a3, a4, a5, a6, a7, a8, a9] [.int s0] h = Rf d 162 259 [a0, a1, a2, a3, a4, a5, a6, a7, a8, a9] [.int s0] h := Rf_go ((stp_of c162_255).trans rfl)
theorem c162_35 : cd 162 35 = some (35, .iload_n 2, 1, []) := by decide +kernel
theorem x162_35 {d : Nat} {a0 a1 a3 a4 a5 a6 a7 a8 a9 : Value} {x : Int32} {h : AHp} : Rf d 162 35 [a0, a1, .int x, a3, a4, a5, a6, a7, a8, a9] [] h = Rf d 162 36 [a0, a1, .int x, a3, a4, a5, a6, a7, a8, a9] [.int x] h := Rf_go ((stp_of c162_35).trans rfl)
theorem c162_36 : cd 162 36 = some (36, .iconst 2, 1, []) := by decide +kernel
theorem x162_36 {d : Nat} {a0 a1 a2 a3 a4 a5 a6 a7 a8 a9 : Value} {s0 : Int32} {h : AHp} : Rf d 162 36 [a0, a1, a2, a3, a4, a5, a6, a7, a8, a9] [.int s0] h = Rf d 162 37 [a0, a1, a2, a3, a4, a5, a6, a7, a8, a9] [.int 2, .int s0] h := Rf_go ((stp_of c162_36).trans rfl)
theorem c162_37 : cd 162 37 = some (37, .if_icmp .eq 5, 3, [(42, 0)]) := by decide +kernel
theorem x162_37 {d : Nat} {a0 a1 a2 a3 a4 a5 a6 a7 a8 a9 : Value} {s0 : Int32} {s1 : Int32} {h : AHp} : Rf d 162 37 [a0, a1, a2, a3, a4, a5, a6, a7, a8, a9] [.int s0, .int s1] h = if s1 = s0 then Rf d 162 42 [a0, a1, a2, a3, a4, a5, a6, a7, a8, a9] [] h else Rf d 162 40 [a0, a1, a2, a3, a4, a5, a6, a7, a8, a9] [] h := Rf_brd ((stp_of c162_37).trans rfl)
theorem c162_40 : cd 162 40 = some (40, .iconst 5, 1, []) := by decide +kernel
theorem x162_40 {d : Nat} {a0 a1 a2 a3 a4 a5 a6 a7 a8 a9 : Value} {h : AHp} : Rf d 162 40 [a0, a1, a2, a3, a4, a5, a6, a7, a8, a9] [] h = Rf d 162 41 [a0, a1, a2, a3, a4, a5, a6, a7, a8, a9] [.int 5] h := Rf_go ((stp_of c162_40).trans rfl)
theorem c162_41 : cd 162 41 = some (41, .istore_n 2, 1, []) := by decide +kernel
theorem x162_41 {d : Nat} {a0 a1 a2 a3 a4 a5 a6 a7 a8 a9 : Value} {s0 : Int32} {h : AHp} : Rf d 162 41 [a0, a1, a2, a3, a4, a5, a6, a7, a8, a9] [.int s0] h = Rf d 162 42 [a0, a1, .int s0, a3, a4, a5, a6, a7, a8, a9] [] h := Rf_go ((stp_of c162_41).trans rfl)
theorem c162_20 : cd 162 20 = some (20, .iconst 2, 1, []) := by decide +kernel
theorem x162_20 {d : Nat} {a0 a1 a2 a3 a4 a5 a6 a7 a8 a9 : Value} {h : AHp} : Rf d 162 20 [a0, a1, a2, a3, a4, a5, a6, a7, a8, a9] [] h = Rf d 162 21 [a0, a1, a2, a3, a4, a5, a6, a7, a8, a9] [.int 2] h := Rf_go ((stp_of c162_20).trans rfl)
theorem c162_21 : cd 162 21 = some (21, .istore_n 2, 1, []) := by decide +kernel
theorem x162_21 {d : Nat} {a0 a1 a2 a3 a4 a5 a6 a7 a8 a9 : Value} {s0 : Int32} {h : AHp} : Rf d 162 21 [a0, a1, a2, a3, a4, a5, a6, a7, a8, a9] [.int s0] h = Rf d 162 22 [a0, a1, .int s0, a3, a4, a5, a6, a7, a8, a9] [] h := Rf_go ((stp_of c162_21).trans rfl)
theorem c162_22 : cd 162 22 = some (22, .goto 20, 3, [(42, 0)]) := by decide +kernel
theorem x162_22 {d : Nat} {a0 a1 a2 a3 a4 a5 a6 a7 a8 a9 : Value} {h : AHp} : Rf d 162 22 [a0, a1, a2, a3, a4, a5, a6, a7, a8, a9] [] h = Rf d 162 42 [a0, a1, a2, a3, a4, a5, a6, a7, a8, a9] [] h := Rf_go ((stp_of c162_22).trans rfl)
-- 163: X12_glad
theorem c163_0 : cd 163 0 = some (0, .aload_n 0, 1, []) := by decide +kernel
theorem x163_0 {d : Nat} {a1 a2 : Value} {x : Nat} {h : AHp} : Rf d 163 0 [.ref x, a1, a2] [] h = Rf d 163 1 [.ref x, a1, a2] [.ref x] h := Rf_go ((stp_of c163_0).trans rfl)
theorem c163_1 : cd 163 1 = some (1, .getfield 9, 3, [(12, 0)]) := by decide +kernel
theorem x163_1 {d : Nat} {a0 a1 a2 : Value} {s0 : Nat} {h : AHp} : Rf d 163 1 [a0, a1, a2] [.ref s0] h = if cls (h.1 s0) = 12 ∧ oKr (h.1 s0) 0 = true then Rf d 163 4 [a0, a1, a2] [.ref (oR (h.1 s0) 0)] h else Rx d 163 1 [a0, a1, a2] [.ref s0] h := getR c163_1
theorem c163_4 : cd 163 4 = some (4, .bipush 20, 2, []) := by decide +kernel
theorem x163_4 {d : Nat} {a0 a1 a2 : Value} {s0 : Nat} {h : AHp} : Rf d 163 4 [a0, a1, a2] [.ref s0] h = Rf d 163 6 [a0, a1, a2] [.int 20, .ref s0] h := Rf_go ((stp_of c163_4).trans rfl)
theorem c163_6 : cd 163 6 = some (6, .iload_n 1, 1, []) := by decide +kernel
theorem x163_6 {d : Nat} {a0 a2 : Value} {s0 : Int32} {s1 : Nat} {x : Int32} {h : AHp} : Rf d 163 6 [a0, .int x, a2] [.int s0, .ref s1] h = Rf d 163 7 [a0, .int x, a2] [.int x, .int s0, .ref s1] h := Rf_go ((stp_of c163_6).trans rfl)
theorem c163_7 : cd 163 7 = some (7, .iadd, 1, []) := by decide +kernel
theorem x163_7 {d : Nat} {a0 a1 a2 : Value} {s0 : Int32} {s1 : Int32} {s2 : Nat} {h : AHp} : Rf d 163 7 [a0, a1, a2] [.int s0, .int s1, .ref s2] h = Rf d 163 8 [a0, a1, a2] [.int (s1 + s0), .ref s2] h := Rf_go ((stp_of c163_7).trans rfl)
theorem c163_8 : cd 163 8 = some (8, .iaload, 1, []) := by decide +kernel
theorem x163_8 {d : Nat} {a0 a1 a2 : Value} {s0 : Int32} {s1 : Nat} {h : AHp} : Rf d 163 8 [a0, a1, a2] [.int s0, .ref s1] h = if (aT (h.1 s1) = 0 ∨ aT (h.1 s1) = 10) ∧ inB s0 (aN (h.1 s1)) = true then Rf d 163 9 [a0, a1, a2] [.int (aF (h.1 s1) s0.toNatClampNeg)] h else Rx d 163 8 [a0, a1, a2] [.int s0, .ref s1] h := ldI c163_8
theorem c163_9 : cd 163 9 = some (9, .aload_n 0, 1, []) := by decide +kernel
theorem x163_9 {d : Nat} {a1 a2 : Value} {s0 : Int32} {x : Nat} {h : AHp} : Rf d 163 9 [.ref x, a1, a2] [.int s0] h = Rf d 163 10 [.ref x, a1, a2] [.ref x, .int s0] h := Rf_go ((stp_of c163_9).trans rfl)
theorem c163_10 : cd 163 10 = some (10, .iload_n 1, 1, []) := by decide +kernel
theorem x163_10 {d : Nat} {a0 a2 : Value} {s0 : Nat} {s1 : Int32} {x : Int32} {h : AHp} : Rf d 163 10 [a0, .int x, a2] [.ref s0, .int s1] h = Rf d 163 11 [a0, .int x, a2] [.int x, .ref s0, .int s1] h := Rf_go ((stp_of c163_10).trans rfl)
theorem c163_11 : cd 163 11 = some (11, .invokevirtual 146, 3, [(12, 162)]) := by decide +kernel
theorem xc163_11 {d : Nat} {a0 a1 a2 : Value} {s0 : Int32} {s1 : Nat} {s2 : Int32} {h : AHp} {h1 : AHp} {v : Int32} (hr : cls (h.1 s1) = 12) (hq : Rf d 162 0 [.ref s1, .int s0, noV, noV, noV, noV, noV, noV, noV, noV] [] h = some (some (.int v), h1)) : Rf (d + 1) 163 11 [a0, a1, a2] [.int s0, .ref s1, .int s2] h = Rf (d + 1) 163 14 [a0, a1, a2] [.int v, .int s2] h1 := clV (c := 162) (as := [.int s0]) c163_11 rfl (by simp [isV]) (by rw [hr]; rfl) hq
theorem c163_14 : cd 163 14 = some (14, .isub, 1, []) := by decide +kernel
theorem x163_14 {d : Nat} {a0 a1 a2 : Value} {s0 : Int32} {s1 : Int32} {h : AHp} : Rf d 163 14 [a0, a1, a2] [.int s0, .int s1] h = Rf d 163 15 [a0, a1, a2] [.int (s1 - s0)] h := Rf_go ((stp_of c163_14).trans rfl)
theorem c163_15 : cd 163 15 = some (15, .istore_n 2, 1, []) := by decide +kernel
theorem x163_15 {d : Nat} {a0 a1 a2 : Value} {s0 : Int32} {h : AHp} : Rf d 163 15 [a0, a1, a2] [.int s0] h = Rf d 163 16 [a0, a1, .int s0] [] h := Rf_go ((stp_of c163_15).trans rfl)
theorem c163_16 : cd 163 16 = some (16, .aload_n 0, 1, []) := by decide +kernel
theorem x163_16 {d : Nat} {a1 a2 : Value} {x : Nat} {h : AHp} : Rf d 163 16 [.ref x, a1, a2] [] h = Rf d 163 17 [.ref x, a1, a2] [.ref x] h := Rf_go ((stp_of c163_16).trans rfl)
theorem c163_17 : cd 163 17 = some (17, .getfield 9, 3, [(12, 0)]) := by decide +kernel
theorem x163_17 {d : Nat} {a0 a1 a2 : Value} {s0 : Nat} {h : AHp} : Rf d 163 17 [a0, a1, a2] [.ref s0] h = if cls (h.1 s0) = 12 ∧ oKr (h.1 s0) 0 = true then Rf d 163 20 [a0, a1, a2] [.ref (oR (h.1 s0) 0)] h else Rx d 163 17 [a0, a1, a2] [.ref s0] h := getR c163_17
theorem c163_20 : cd 163 20 = some (20, .iconst 5, 1, []) := by decide +kernel
theorem x163_20 {d : Nat} {a0 a1 a2 : Value} {s0 : Nat} {h : AHp} : Rf d 163 20 [a0, a1, a2] [.ref s0] h = Rf d 163 21 [a0, a1, a2] [.int 5, .ref s0] h := Rf_go ((stp_of c163_20).trans rfl)
theorem c163_21 : cd 163 21 = some (21, .iaload, 1, []) := by decide +kernel
theorem x163_21 {d : Nat} {a0 a1 a2 : Value} {s0 : Int32} {s1 : Nat} {h : AHp} : Rf d 163 21 [a0, a1, a2] [.int s0, .ref s1] h = if (aT (h.1 s1) = 0 ∨ aT (h.1 s1) = 10) ∧ inB s0 (aN (h.1 s1)) = true then Rf d 163 22 [a0, a1, a2] [.int (aF (h.1 s1) s0.toNatClampNeg)] h else Rx d 163 21 [a0, a1, a2] [.int s0, .ref s1] h := ldI c163_21
theorem c163_22 : cd 163 22 = some (22, .iconst 3, 1, []) := by decide +kernel
theorem x163_22 {d : Nat} {a0 a1 a2 : Value} {s0 : Int32} {h : AHp} : Rf d 163 22 [a0, a1, a2] [.int s0] h = Rf d 163 23 [a0, a1, a2] [.int 3, .int s0] h := Rf_go ((stp_of c163_22).trans rfl)
theorem c163_23 : cd 163 23 = some (23, .if_icmp .ne 13, 3, [(36, 0)]) := by decide +kernel
theorem x163_23 {d : Nat} {a0 a1 a2 : Value} {s0 : Int32} {s1 : Int32} {h : AHp} : Rf d 163 23 [a0, a1, a2] [.int s0, .int s1] h = if s1 = s0 then Rf d 163 26 [a0, a1, a2] [] h else Rf d 163 36 [a0, a1, a2] [] h := Rf_brn ((stp_of c163_23).trans rfl)
theorem c163_36 : cd 163 36 = some (36, .iload_n 2, 1, []) := by decide +kernel
theorem x163_36 {d : Nat} {a0 a1 : Value} {x : Int32} {h : AHp} : Rf d 163 36 [a0, a1, .int x] [] h = Rf d 163 37 [a0, a1, .int x] [.int x] h := Rf_go ((stp_of c163_36).trans rfl)
theorem c163_37 : cd 163 37 = some (37, .ireturn, 1, []) := by decide +kernel
theorem x163_37 {d : Nat} {a0 a1 a2 : Value} {s0 : Int32} {h : AHp} : Rf d 163 37 [a0, a1, a2] [.int s0] h = some (some (.int s0), h) := Rf_end (by rw [stp_of c163_37]; simp only [stpI]; rw [if_pos (show retI (mH 163).2.2.1 s0 = true from retI_int)])
theorem c163_26 : cd 163 26 = some (26, .iload_n 2, 1, []) := by decide +kernel
theorem x163_26 {d : Nat} {a0 a1 : Value} {x : Int32} {h : AHp} : Rf d 163 26 [a0, a1, .int x] [] h = Rf d 163 27 [a0, a1, .int x] [.int x] h := Rf_go ((stp_of c163_26).trans rfl)
theorem c163_27 : cd 163 27 = some (27, .ifCond .ge 9, 3, [(36, 0)]) := by decide +kernel
theorem x163_27 {d : Nat} {a0 a1 a2 : Value} {s0 : Int32} {h : AHp} : Rf d 163 27 [a0, a1, a2] [.int s0] h = if s0 < 0 then Rf d 163 30 [a0, a1, a2] [] h else Rf d 163 36 [a0, a1, a2] [] h := Rf_brn ((stp_of c163_27).trans rfl)
theorem c163_30 : cd 163 30 = some (30, .iconst 2, 1, []) := by decide +kernel
theorem x163_30 {d : Nat} {a0 a1 a2 : Value} {h : AHp} : Rf d 163 30 [a0, a1, a2] [] h = Rf d 163 31 [a0, a1, a2] [.int 2] h := Rf_go ((stp_of c163_30).trans rfl)
theorem c163_31 : cd 163 31 = some (31, .iload_n 2, 1, []) := by decide +kernel
theorem x163_31 {d : Nat} {a0 a1 : Value} {s0 : Int32} {x : Int32} {h : AHp} : Rf d 163 31 [a0, a1, .int x] [.int s0] h = Rf d 163 32 [a0, a1, .int x] [.int x, .int s0] h := Rf_go ((stp_of c163_31).trans rfl)
theorem c163_32 : cd 163 32 = some (32, .imul, 1, []) := by decide +kernel
theorem x163_32 {d : Nat} {a0 a1 a2 : Value} {s0 : Int32} {s1 : Int32} {h : AHp} : Rf d 163 32 [a0, a1, a2] [.int s0, .int s1] h = Rf d 163 33 [a0, a1, a2] [.int (s1 * s0)] h := Rf_go ((stp_of c163_32).trans rfl)
theorem c163_33 : cd 163 33 = some (33, .goto 4, 3, [(37, 0)]) := by decide +kernel
theorem x163_33 {d : Nat} {a0 a1 a2 : Value} {s0 : Int32} {h : AHp} : Rf d 163 33 [a0, a1, a2] [.int s0] h = Rf d 163 37 [a0, a1, a2] [.int s0] h := Rf_go ((stp_of c163_33).trans rfl)
-- 164: X12_does
theorem c164_0 : cd 164 0 = some (0, .aload_n 0, 1, []) := by decide +kernel
theorem x164_0 {d : Nat} {a1 a2 : Value} {x : Nat} {h : AHp} : Rf d 164 0 [.ref x, a1, a2] [] h = Rf d 164 1 [.ref x, a1, a2] [.ref x] h := Rf_go ((stp_of c164_0).trans rfl)
theorem c164_1 : cd 164 1 = some (1, .iload_n 1, 1, []) := by decide +kernel
theorem x164_1 {d : Nat} {a0 a2 : Value} {s0 : Nat} {x : Int32} {h : AHp} : Rf d 164 1 [a0, .int x, a2] [.ref s0] h = Rf d 164 2 [a0, .int x, a2] [.int x, .ref s0] h := Rf_go ((stp_of c164_1).trans rfl)
theorem c164_2 : cd 164 2 = some (2, .invokevirtual 149, 3, [(12, 163)]) := by decide +kernel
theorem xc164_2 {d : Nat} {a0 a1 a2 : Value} {s0 : Int32} {s1 : Nat} {h : AHp} {h1 : AHp} {v : Int32} (hr : cls (h.1 s1) = 12) (hq : Rf d 163 0 [.ref s1, .int s0, noV] [] h = some (some (.int v), h1)) : Rf (d + 1) 164 2 [a0, a1, a2] [.int s0, .ref s1] h = Rf (d + 1) 164 5 [a0, a1, a2] [.int v] h1 := clV (c := 163) (as := [.int s0]) c164_2 rfl (by simp [isV]) (by rw [hr]; rfl) hq
theorem c164_5 : cd 164 5 = some (5, .istore_n 2, 1, []) := by decide +kernel
theorem x164_5 {d : Nat} {a0 a1 a2 : Value} {s0 : Int32} {h : AHp} : Rf d 164 5 [a0, a1, a2] [.int s0] h = Rf d 164 6 [a0, a1, .int s0] [] h := Rf_go ((stp_of c164_5).trans rfl)
theorem c164_6 : cd 164 6 = some (6, .iload_n 2, 1, []) := by decide +kernel
theorem x164_6 {d : Nat} {a0 a1 : Value} {x : Int32} {h : AHp} : Rf d 164 6 [a0, a1, .int x] [] h = Rf d 164 7 [a0, a1, .int x] [.int x] h := Rf_go ((stp_of c164_6).trans rfl)
theorem c164_7 : cd 164 7 = some (7, .aload_n 0, 1, []) := by decide +kernel
theorem x164_7 {d : Nat} {a1 a2 : Value} {s0 : Int32} {x : Nat} {h : AHp} : Rf d 164 7 [.ref x, a1, a2] [.int s0] h = Rf d 164 8 [.ref x, a1, a2] [.ref x, .int s0] h := Rf_go ((stp_of c164_7).trans rfl)
theorem c164_8 : cd 164 8 = some (8, .invokevirtual 124, 3, [(12, 152)]) := by decide +kernel
theorem xc164_8 {d : Nat} {a0 a1 a2 : Value} {s0 : Nat} {s1 : Int32} {h : AHp} {h1 : AHp} {v : Int32} (hr : cls (h.1 s0) = 12) (hq : Rf d 152 0 [.ref s0] [] h = some (some (.int v), h1)) : Rf (d + 1) 164 8 [a0, a1, a2] [.ref s0, .int s1] h = Rf (d + 1) 164 11 [a0, a1, a2] [.int v, .int s1] h1 := clV (c := 152) (as := []) c164_8 rfl (by simp [isV]) (by rw [hr]; rfl) hq
theorem c164_11 : cd 164 11 = some (11, .iadd, 1, []) := by decide +kernel
theorem x164_11 {d : Nat} {a0 a1 a2 : Value} {s0 : Int32} {s1 : Int32} {h : AHp} : Rf d 164 11 [a0, a1, a2] [.int s0, .int s1] h = Rf d 164 12 [a0, a1, a2] [.int (s1 + s0)] h := Rf_go ((stp_of c164_11).trans rfl)
theorem c164_12 : cd 164 12 = some (12, .ifCond .ge 22, 3, [(34, 0)]) := by decide +kernel
theorem x164_12 {d : Nat} {a0 a1 a2 : Value} {s0 : Int32} {h : AHp} : Rf d 164 12 [a0, a1, a2] [.int s0] h = if s0 < 0 then Rf d 164 15 [a0, a1, a2] [] h else Rf d 164 34 [a0, a1, a2] [] h := Rf_brn ((stp_of c164_12).trans rfl)
theorem c164_34 : cd 164 34 = some (34, .iload_n 2, 1, []) := by decide +kernel
theorem x164_34 {d : Nat} {a0 a1 : Value} {x : Int32} {h : AHp} : Rf d 164 34 [a0, a1, .int x] [] h = Rf d 164 35 [a0, a1, .int x] [.int x] h := Rf_go ((stp_of c164_34).trans rfl)
theorem c164_35 : cd 164 35 = some (35, .ifCond .lt 11, 3, [(46, 0)]) := by decide +kernel
theorem x164_35 {d : Nat} {a0 a1 a2 : Value} {s0 : Int32} {h : AHp} : Rf d 164 35 [a0, a1, a2] [.int s0] h = if s0 < 0 then Rf d 164 46 [a0, a1, a2] [] h else Rf d 164 38 [a0, a1, a2] [] h := Rf_brd ((stp_of c164_35).trans rfl)
theorem c164_46 : cd 164 46 = some (46, .iconst 1, 1, []) := by decide +kernel
theorem x164_46 {d : Nat} {a0 a1 a2 : Value} {h : AHp} : Rf d 164 46 [a0, a1, a2] [] h = Rf d 164 47 [a0, a1, a2] [.int 1] h := Rf_go ((stp_of c164_46).trans rfl)
theorem c164_47 : cd 164 47 = some (47, .goto 4, 3, [(51, 0)]) := by decide +kernel
theorem x164_47 {d : Nat} {a0 a1 a2 : Value} {s0 : Int32} {h : AHp} : Rf d 164 47 [a0, a1, a2] [.int s0] h = Rf d 164 51 [a0, a1, a2] [.int s0] h := Rf_go ((stp_of c164_47).trans rfl)
theorem c164_51 : cd 164 51 = some (51, .ireturn, 1, []) := by decide +kernel
theorem x164_51 {d : Nat} {a0 a1 a2 : Value} {s0 : Int32} {h : AHp} : Rf d 164 51 [a0, a1, a2] [.int s0] h = some (some (.int s0), h) := Rf_end (by rw [stp_of c164_51]; simp only [stpI]; rw [if_pos (show retI (mH 164).2.2.1 s0 = true from retI_int)])
theorem c164_38 : cd 164 38 = some (38, .aload_n 0, 1, []) := by decide +kernel
theorem x164_38 {d : Nat} {a1 a2 : Value} {x : Nat} {h : AHp} : Rf d 164 38 [.ref x, a1, a2] [] h = Rf d 164 39 [.ref x, a1, a2] [.ref x] h := Rf_go ((stp_of c164_38).trans rfl)
theorem c164_39 : cd 164 39 = some (39, .iload_n 1, 1, []) := by decide +kernel
theorem x164_39 {d : Nat} {a0 a2 : Value} {s0 : Nat} {x : Int32} {h : AHp} : Rf d 164 39 [a0, .int x, a2] [.ref s0] h = Rf d 164 40 [a0, .int x, a2] [.int x, .ref s0] h := Rf_go ((stp_of c164_39).trans rfl)
theorem c164_40 : cd 164 40 = some (40, .invokevirtual 155, 3, [(12, 151)]) := by decide +kernel
theorem xc164_40 {d : Nat} {a0 a1 a2 : Value} {s0 : Int32} {s1 : Nat} {h : AHp} {h1 : AHp} {v : Int32} (hr : cls (h.1 s1) = 12) (hq : Rf d 151 0 [.ref s1, .int s0] [] h = some (some (.int v), h1)) : Rf (d + 1) 164 40 [a0, a1, a2] [.int s0, .ref s1] h = Rf (d + 1) 164 43 [a0, a1, a2] [.int v] h1 := clV (c := 151) (as := [.int s0]) c164_40 rfl (by simp [isV]) (by rw [hr]; rfl) hq
theorem c164_43 : cd 164 43 = some (43, .ifCond .le 7, 3, [(50, 0)]) := by decide +kernel
theorem x164_43 {d : Nat} {a0 a1 a2 : Value} {s0 : Int32} {h : AHp} : Rf d 164 43 [a0, a1, a2] [.int s0] h = if 0 < s0 then Rf d 164 46 [a0, a1, a2] [] h else Rf d 164 50 [a0, a1, a2] [] h := Rf_brn ((stp_of c164_43).trans rfl)
theorem c164_50 : cd 164 50 = some (50, .iconst 0, 1, []) := by decide +kernel
theorem x164_50 {d : Nat} {a0 a1 a2 : Value} {h : AHp} : Rf d 164 50 [a0, a1, a2] [] h = Rf d 164 51 [a0, a1, a2] [.int 0] h := Rf_go ((stp_of c164_50).trans rfl)
theorem c164_15 : cd 164 15 = some (15, .aload_n 0, 1, []) := by decide +kernel
theorem x164_15 {d : Nat} {a1 a2 : Value} {x : Nat} {h : AHp} : Rf d 164 15 [.ref x, a1, a2] [] h = Rf d 164 16 [.ref x, a1, a2] [.ref x] h := Rf_go ((stp_of c164_15).trans rfl)
theorem c164_16 : cd 164 16 = some (16, .iload_n 1, 1, []) := by decide +kernel
theorem x164_16 {d : Nat} {a0 a2 : Value} {s0 : Nat} {x : Int32} {h : AHp} : Rf d 164 16 [a0, .int x, a2] [.ref s0] h = Rf d 164 17 [a0, .int x, a2] [.int x, .ref s0] h := Rf_go ((stp_of c164_16).trans rfl)
theorem c164_17 : cd 164 17 = some (17, .invokevirtual 152, 3, [(12, 150)]) := by decide +kernel
theorem xc164_17 {d : Nat} {a0 a1 a2 : Value} {s0 : Int32} {s1 : Nat} {h : AHp} {h1 : AHp} {v : Int32} (hr : cls (h.1 s1) = 12) (hq : Rf d 150 0 [.ref s1, .int s0] [] h = some (some (.int v), h1)) : Rf (d + 1) 164 17 [a0, a1, a2] [.int s0, .ref s1] h = Rf (d + 1) 164 20 [a0, a1, a2] [.int v] h1 := clV (c := 150) (as := [.int s0]) c164_17 rfl (by simp [isV]) (by rw [hr]; rfl) hq
theorem c164_20 : cd 164 20 = some (20, .aload_n 0, 1, []) := by decide +kernel
theorem x164_20 {d : Nat} {a1 a2 : Value} {s0 : Int32} {x : Nat} {h : AHp} : Rf d 164 20 [.ref x, a1, a2] [.int s0] h = Rf d 164 21 [.ref x, a1, a2] [.ref x, .int s0] h := Rf_go ((stp_of c164_20).trans rfl)
theorem c164_21 : cd 164 21 = some (21, .getfield 9, 3, [(12, 0)]) := by decide +kernel
theorem x164_21 {d : Nat} {a0 a1 a2 : Value} {s0 : Nat} {s1 : Int32} {h : AHp} : Rf d 164 21 [a0, a1, a2] [.ref s0, .int s1] h = if cls (h.1 s0) = 12 ∧ oKr (h.1 s0) 0 = true then Rf d 164 24 [a0, a1, a2] [.ref (oR (h.1 s0) 0), .int s1] h else Rx d 164 21 [a0, a1, a2] [.ref s0, .int s1] h := getR c164_21
theorem c164_24 : cd 164 24 = some (24, .bipush 20, 2, []) := by decide +kernel
theorem x164_24 {d : Nat} {a0 a1 a2 : Value} {s0 : Nat} {s1 : Int32} {h : AHp} : Rf d 164 24 [a0, a1, a2] [.ref s0, .int s1] h = Rf d 164 26 [a0, a1, a2] [.int 20, .ref s0, .int s1] h := Rf_go ((stp_of c164_24).trans rfl)
theorem c164_26 : cd 164 26 = some (26, .iload_n 1, 1, []) := by decide +kernel
theorem x164_26 {d : Nat} {a0 a2 : Value} {s0 : Int32} {s1 : Nat} {s2 : Int32} {x : Int32} {h : AHp} : Rf d 164 26 [a0, .int x, a2] [.int s0, .ref s1, .int s2] h = Rf d 164 27 [a0, .int x, a2] [.int x, .int s0, .ref s1, .int s2] h := Rf_go ((stp_of c164_26).trans rfl)
theorem c164_27 : cd 164 27 = some (27, .iadd, 1, []) := by decide +kernel
theorem x164_27 {d : Nat} {a0 a1 a2 : Value} {s0 : Int32} {s1 : Int32} {s2 : Nat} {s3 : Int32} {h : AHp} : Rf d 164 27 [a0, a1, a2] [.int s0, .int s1, .ref s2, .int s3] h = Rf d 164 28 [a0, a1, a2] [.int (s1 + s0), .ref s2, .int s3] h := Rf_go ((stp_of c164_27).trans rfl)
theorem c164_28 : cd 164 28 = some (28, .iaload, 1, []) := by decide +kernel
theorem x164_28 {d : Nat} {a0 a1 a2 : Value} {s0 : Int32} {s1 : Nat} {s2 : Int32} {h : AHp} : Rf d 164 28 [a0, a1, a2] [.int s0, .ref s1, .int s2] h = if (aT (h.1 s1) = 0 ∨ aT (h.1 s1) = 10) ∧ inB s0 (aN (h.1 s1)) = true then Rf d 164 29 [a0, a1, a2] [.int (aF (h.1 s1) s0.toNatClampNeg), .int s2] h else Rx d 164 28 [a0, a1, a2] [.int s0, .ref s1, .int s2] h := ldI c164_28
theorem c164_29 : cd 164 29 = some (29, .if_icmp .le 5, 3, [(34, 0)]) := by decide +kernel
theorem x164_29 {d : Nat} {a0 a1 a2 : Value} {s0 : Int32} {s1 : Int32} {h : AHp} : Rf d 164 29 [a0, a1, a2] [.int s0, .int s1] h = if s0 < s1 then Rf d 164 32 [a0, a1, a2] [] h else Rf d 164 34 [a0, a1, a2] [] h := Rf_brn ((stp_of c164_29).trans rfl)
theorem c164_32 : cd 164 32 = some (32, .iconst 2, 1, []) := by decide +kernel
theorem x164_32 {d : Nat} {a0 a1 a2 : Value} {h : AHp} : Rf d 164 32 [a0, a1, a2] [] h = Rf d 164 33 [a0, a1, a2] [.int 2] h := Rf_go ((stp_of c164_32).trans rfl)
theorem c164_33 : cd 164 33 = some (33, .ireturn, 1, []) := by decide +kernel
theorem x164_33 {d : Nat} {a0 a1 a2 : Value} {s0 : Int32} {h : AHp} : Rf d 164 33 [a0, a1, a2] [.int s0] h = some (some (.int s0), h) := Rf_end (by rw [stp_of c164_33]; simp only [stpI]; rw [if_pos (show retI (mH 164).2.2.1 s0 = true from retI_int)])
-- 165: X12_of
theorem c165_0 : cd 165 0 = some (0, .aload_n 0, 1, []) := by decide +kernel
theorem x165_0 {d : Nat} {a1 a2 : Value} {x : Nat} {h : AHp} : Rf d 165 0 [.ref x, a1, a2] [] h = Rf d 165 1 [.ref x, a1, a2] [.ref x] h := Rf_go ((stp_of c165_0).trans rfl)
theorem c165_1 : cd 165 1 = some (1, .iload_n 1, 1, []) := by decide +kernel
theorem x165_1 {d : Nat} {a0 a2 : Value} {s0 : Nat} {x : Int32} {h : AHp} : Rf d 165 1 [a0, .int x, a2] [.ref s0] h = Rf d 165 2 [a0, .int x, a2] [.int x, .ref s0] h := Rf_go ((stp_of c165_1).trans rfl)
theorem c165_2 : cd 165 2 = some (2, .invokevirtual 140, 3, [(12, 132)]) := by decide +kernel
theorem xc165_2 {d : Nat} {a0 a1 a2 : Value} {s0 : Int32} {s1 : Nat} {h : AHp} {h1 : AHp} {v : Int32} (hr : cls (h.1 s1) = 12) (hq : Rf d 132 0 [.ref s1, .int s0] [] h = some (some (.int v), h1)) : Rf (d + 1) 165 2 [a0, a1, a2] [.int s0, .ref s1] h = Rf (d + 1) 165 5 [a0, a1, a2] [.int v] h1 := clV (c := 132) (as := [.int s0]) c165_2 rfl (by simp [isV]) (by rw [hr]; rfl) hq
theorem c165_5 : cd 165 5 = some (5, .ifCond .ne 7, 3, [(12, 0)]) := by decide +kernel
theorem x165_5 {d : Nat} {a0 a1 a2 : Value} {s0 : Int32} {h : AHp} : Rf d 165 5 [a0, a1, a2] [.int s0] h = if s0 = 0 then Rf d 165 8 [a0, a1, a2] [] h else Rf d 165 12 [a0, a1, a2] [] h := Rf_brn ((stp_of c165_5).trans rfl)
theorem c165_12 : cd 165 12 = some (12, .iload_n 2, 1, []) := by decide +kernel
theorem x165_12 {d : Nat} {a0 a1 : Value} {x : Int32} {h : AHp} : Rf d 165 12 [a0, a1, .int x] [] h = Rf d 165 13 [a0, a1, .int x] [.int x] h := Rf_go ((stp_of c165_12).trans rfl)
theorem c165_13 : cd 165 13 = some (13, .tableswitch 180 0 11 #[63, 73, 83, 93, 103, 130, 140, 150, 156, 162, 168, 174], 63, [(0, 193), (0, 76), (1, 86), (2, 96), (3, 106), (4, 116), (5, 143), (6, 153), (7, 163), (8, 169), (9, 175), (10, 181), (11, 187)]) := by decide +kernel
theorem x165_13 {d : Nat} {a0 a1 a2 : Value} {s0 : Int32} {h : AHp} : Rf d 165 13 [a0, a1, a2] [.int s0] h = if s0 = 0 then Rf d 165 76 [a0, a1, a2] [] h else (if s0 = 1 then Rf d 165 86 [a0, a1, a2] [] h else (if s0 = 2 then Rf d 165 96 [a0, a1, a2] [] h else (if s0 = 3 then Rf d 165 106 [a0, a1, a2] [] h else (if s0 = 4 then Rf d 165 116 [a0, a1, a2] [] h else (if s0 = 5 then Rf d 165 143 [a0, a1, a2] [] h else (if s0 = 6 then Rf d 165 153 [a0, a1, a2] [] h else (if s0 = 7 then Rf d 165 163 [a0, a1, a2] [] h else (if s0 = 8 then Rf d 165 169 [a0, a1, a2] [] h else (if s0 = 9 then Rf d 165 175 [a0, a1, a2] [] h else (if s0 = 10 then Rf d 165 181 [a0, a1, a2] [] h else (if s0 = 11 then Rf d 165 187 [a0, a1, a2] [] h else (Rf d 165 193 [a0, a1, a2] [] h)))))))))))) := (swE (e := 193) c165_13 rfl).trans (by simp only [List.drop, swT, Rf_ite]; rfl)
theorem c165_187 : cd 165 187 = some (187, .aload_n 0, 1, []) := by decide +kernel
theorem x165_187 {d : Nat} {a1 a2 : Value} {x : Nat} {h : AHp} : Rf d 165 187 [.ref x, a1, a2] [] h = Rf d 165 188 [.ref x, a1, a2] [.ref x] h := Rf_go ((stp_of c165_187).trans rfl)
theorem c165_188 : cd 165 188 = some (188, .iload_n 1, 1, []) := by decide +kernel
theorem x165_188 {d : Nat} {a0 a2 : Value} {s0 : Nat} {x : Int32} {h : AHp} : Rf d 165 188 [a0, .int x, a2] [.ref s0] h = Rf d 165 189 [a0, .int x, a2] [.int x, .ref s0] h := Rf_go ((stp_of c165_188).trans rfl)
theorem c165_189 : cd 165 189 = some (189, .invokevirtual 158, 3, [(12, 164)]) := by decide +kernel
theorem xc165_189 {d : Nat} {a0 a1 a2 : Value} {s0 : Int32} {s1 : Nat} {h : AHp} {h1 : AHp} {v : Int32} (hr : cls (h.1 s1) = 12) (hq : Rf d 164 0 [.ref s1, .int s0, noV] [] h = some (some (.int v), h1)) : Rf (d + 1) 165 189 [a0, a1, a2] [.int s0, .ref s1] h = Rf (d + 1) 165 192 [a0, a1, a2] [.int v] h1 := clV (c := 164) (as := [.int s0]) c165_189 rfl (by simp [isV]) (by rw [hr]; rfl) hq
theorem c165_192 : cd 165 192 = some (192, .ireturn, 1, []) := by decide +kernel
theorem x165_192 {d : Nat} {a0 a1 a2 : Value} {s0 : Int32} {h : AHp} : Rf d 165 192 [a0, a1, a2] [.int s0] h = some (some (.int s0), h) := Rf_end (by rw [stp_of c165_192]; simp only [stpI]; rw [if_pos (show retI (mH 165).2.2.1 s0 = true from retI_int)])
theorem c165_181 : cd 165 181 = some (181, .aload_n 0, 1, []) := by decide +kernel
theorem x165_181 {d : Nat} {a1 a2 : Value} {x : Nat} {h : AHp} : Rf d 165 181 [.ref x, a1, a2] [] h = Rf d 165 182 [.ref x, a1, a2] [.ref x] h := Rf_go ((stp_of c165_181).trans rfl)
theorem c165_182 : cd 165 182 = some (182, .iload_n 1, 1, []) := by decide +kernel
theorem x165_182 {d : Nat} {a0 a2 : Value} {s0 : Nat} {x : Int32} {h : AHp} : Rf d 165 182 [a0, .int x, a2] [.ref s0] h = Rf d 165 183 [a0, .int x, a2] [.int x, .ref s0] h := Rf_go ((stp_of c165_182).trans rfl)
theorem c165_183 : cd 165 183 = some (183, .invokevirtual 155, 3, [(12, 151)]) := by decide +kernel
theorem xc165_183 {d : Nat} {a0 a1 a2 : Value} {s0 : Int32} {s1 : Nat} {h : AHp} {h1 : AHp} {v : Int32} (hr : cls (h.1 s1) = 12) (hq : Rf d 151 0 [.ref s1, .int s0] [] h = some (some (.int v), h1)) : Rf (d + 1) 165 183 [a0, a1, a2] [.int s0, .ref s1] h = Rf (d + 1) 165 186 [a0, a1, a2] [.int v] h1 := clV (c := 151) (as := [.int s0]) c165_183 rfl (by simp [isV]) (by rw [hr]; rfl) hq
theorem c165_186 : cd 165 186 = some (186, .ireturn, 1, []) := by decide +kernel
theorem x165_186 {d : Nat} {a0 a1 a2 : Value} {s0 : Int32} {h : AHp} : Rf d 165 186 [a0, a1, a2] [.int s0] h = some (some (.int s0), h) := Rf_end (by rw [stp_of c165_186]; simp only [stpI]; rw [if_pos (show retI (mH 165).2.2.1 s0 = true from retI_int)])
theorem c165_175 : cd 165 175 = some (175, .aload_n 0, 1, []) := by decide +kernel
theorem x165_175 {d : Nat} {a1 a2 : Value} {x : Nat} {h : AHp} : Rf d 165 175 [.ref x, a1, a2] [] h = Rf d 165 176 [.ref x, a1, a2] [.ref x] h := Rf_go ((stp_of c165_175).trans rfl)
theorem c165_176 : cd 165 176 = some (176, .iload_n 1, 1, []) := by decide +kernel
theorem x165_176 {d : Nat} {a0 a2 : Value} {s0 : Nat} {x : Int32} {h : AHp} : Rf d 165 176 [a0, .int x, a2] [.ref s0] h = Rf d 165 177 [a0, .int x, a2] [.int x, .ref s0] h := Rf_go ((stp_of c165_176).trans rfl)
theorem c165_177 : cd 165 177 = some (177, .invokevirtual 152, 3, [(12, 150)]) := by decide +kernel
theorem xc165_177 {d : Nat} {a0 a1 a2 : Value} {s0 : Int32} {s1 : Nat} {h : AHp} {h1 : AHp} {v : Int32} (hr : cls (h.1 s1) = 12) (hq : Rf d 150 0 [.ref s1, .int s0] [] h = some (some (.int v), h1)) : Rf (d + 1) 165 177 [a0, a1, a2] [.int s0, .ref s1] h = Rf (d + 1) 165 180 [a0, a1, a2] [.int v] h1 := clV (c := 150) (as := [.int s0]) c165_177 rfl (by simp [isV]) (by rw [hr]; rfl) hq
theorem c165_180 : cd 165 180 = some (180, .ireturn, 1, []) := by decide +kernel
theorem x165_180 {d : Nat} {a0 a1 a2 : Value} {s0 : Int32} {h : AHp} : Rf d 165 180 [a0, a1, a2] [.int s0] h = some (some (.int s0), h) := Rf_end (by rw [stp_of c165_180]; simp only [stpI]; rw [if_pos (show retI (mH 165).2.2.1 s0 = true from retI_int)])
theorem c165_169 : cd 165 169 = some (169, .aload_n 0, 1, []) := by decide +kernel
theorem x165_169 {d : Nat} {a1 a2 : Value} {x : Nat} {h : AHp} : Rf d 165 169 [.ref x, a1, a2] [] h = Rf d 165 170 [.ref x, a1, a2] [.ref x] h := Rf_go ((stp_of c165_169).trans rfl)
theorem c165_170 : cd 165 170 = some (170, .iload_n 1, 1, []) := by decide +kernel
theorem x165_170 {d : Nat} {a0 a2 : Value} {s0 : Nat} {x : Int32} {h : AHp} : Rf d 165 170 [a0, .int x, a2] [.ref s0] h = Rf d 165 171 [a0, .int x, a2] [.int x, .ref s0] h := Rf_go ((stp_of c165_170).trans rfl)
theorem c165_171 : cd 165 171 = some (171, .invokevirtual 149, 3, [(12, 163)]) := by decide +kernel
theorem xc165_171 {d : Nat} {a0 a1 a2 : Value} {s0 : Int32} {s1 : Nat} {h : AHp} {h1 : AHp} {v : Int32} (hr : cls (h.1 s1) = 12) (hq : Rf d 163 0 [.ref s1, .int s0, noV] [] h = some (some (.int v), h1)) : Rf (d + 1) 165 171 [a0, a1, a2] [.int s0, .ref s1] h = Rf (d + 1) 165 174 [a0, a1, a2] [.int v] h1 := clV (c := 163) (as := [.int s0]) c165_171 rfl (by simp [isV]) (by rw [hr]; rfl) hq
theorem c165_174 : cd 165 174 = some (174, .ireturn, 1, []) := by decide +kernel
theorem x165_174 {d : Nat} {a0 a1 a2 : Value} {s0 : Int32} {h : AHp} : Rf d 165 174 [a0, a1, a2] [.int s0] h = some (some (.int s0), h) := Rf_end (by rw [stp_of c165_174]; simp only [stpI]; rw [if_pos (show retI (mH 165).2.2.1 s0 = true from retI_int)])
theorem c165_163 : cd 165 163 = some (163, .aload_n 0, 1, []) := by decide +kernel
theorem x165_163 {d : Nat} {a1 a2 : Value} {x : Nat} {h : AHp} : Rf d 165 163 [.ref x, a1, a2] [] h = Rf d 165 164 [.ref x, a1, a2] [.ref x] h := Rf_go ((stp_of c165_163).trans rfl)
theorem c165_164 : cd 165 164 = some (164, .iload_n 1, 1, []) := by decide +kernel
theorem x165_164 {d : Nat} {a0 a2 : Value} {s0 : Nat} {x : Int32} {h : AHp} : Rf d 165 164 [a0, .int x, a2] [.ref s0] h = Rf d 165 165 [a0, .int x, a2] [.int x, .ref s0] h := Rf_go ((stp_of c165_164).trans rfl)
theorem c165_165 : cd 165 165 = some (165, .invokevirtual 146, 3, [(12, 162)]) := by decide +kernel
theorem xc165_165 {d : Nat} {a0 a1 a2 : Value} {s0 : Int32} {s1 : Nat} {h : AHp} {h1 : AHp} {v : Int32} (hr : cls (h.1 s1) = 12) (hq : Rf d 162 0 [.ref s1, .int s0, noV, noV, noV, noV, noV, noV, noV, noV] [] h = some (some (.int v), h1)) : Rf (d + 1) 165 165 [a0, a1, a2] [.int s0, .ref s1] h = Rf (d + 1) 165 168 [a0, a1, a2] [.int v] h1 := clV (c := 162) (as := [.int s0]) c165_165 rfl (by simp [isV]) (by rw [hr]; rfl) hq
theorem c165_168 : cd 165 168 = some (168, .ireturn, 1, []) := by decide +kernel
theorem x165_168 {d : Nat} {a0 a1 a2 : Value} {s0 : Int32} {h : AHp} : Rf d 165 168 [a0, a1, a2] [.int s0] h = some (some (.int s0), h) := Rf_end (by rw [stp_of c165_168]; simp only [stpI]; rw [if_pos (show retI (mH 165).2.2.1 s0 = true from retI_int)])
theorem c165_153 : cd 165 153 = some (153, .aload_n 0, 1, []) := by decide +kernel
theorem x165_153 {d : Nat} {a1 a2 : Value} {x : Nat} {h : AHp} : Rf d 165 153 [.ref x, a1, a2] [] h = Rf d 165 154 [.ref x, a1, a2] [.ref x] h := Rf_go ((stp_of c165_153).trans rfl)
theorem c165_154 : cd 165 154 = some (154, .getfield 9, 3, [(12, 0)]) := by decide +kernel
theorem x165_154 {d : Nat} {a0 a1 a2 : Value} {s0 : Nat} {h : AHp} : Rf d 165 154 [a0, a1, a2] [.ref s0] h = if cls (h.1 s0) = 12 ∧ oKr (h.1 s0) 0 = true then Rf d 165 157 [a0, a1, a2] [.ref (oR (h.1 s0) 0)] h else Rx d 165 154 [a0, a1, a2] [.ref s0] h := getR c165_154
theorem c165_157 : cd 165 157 = some (157, .bipush 70, 2, []) := by decide +kernel
theorem x165_157 {d : Nat} {a0 a1 a2 : Value} {s0 : Nat} {h : AHp} : Rf d 165 157 [a0, a1, a2] [.ref s0] h = Rf d 165 159 [a0, a1, a2] [.int 70, .ref s0] h := Rf_go ((stp_of c165_157).trans rfl)
theorem c165_159 : cd 165 159 = some (159, .iload_n 1, 1, []) := by decide +kernel
theorem x165_159 {d : Nat} {a0 a2 : Value} {s0 : Int32} {s1 : Nat} {x : Int32} {h : AHp} : Rf d 165 159 [a0, .int x, a2] [.int s0, .ref s1] h = Rf d 165 160 [a0, .int x, a2] [.int x, .int s0, .ref s1] h := Rf_go ((stp_of c165_159).trans rfl)
theorem c165_160 : cd 165 160 = some (160, .iadd, 1, []) := by decide +kernel
theorem x165_160 {d : Nat} {a0 a1 a2 : Value} {s0 : Int32} {s1 : Int32} {s2 : Nat} {h : AHp} : Rf d 165 160 [a0, a1, a2] [.int s0, .int s1, .ref s2] h = Rf d 165 161 [a0, a1, a2] [.int (s1 + s0), .ref s2] h := Rf_go ((stp_of c165_160).trans rfl)
theorem c165_161 : cd 165 161 = some (161, .iaload, 1, []) := by decide +kernel
theorem x165_161 {d : Nat} {a0 a1 a2 : Value} {s0 : Int32} {s1 : Nat} {h : AHp} : Rf d 165 161 [a0, a1, a2] [.int s0, .ref s1] h = if (aT (h.1 s1) = 0 ∨ aT (h.1 s1) = 10) ∧ inB s0 (aN (h.1 s1)) = true then Rf d 165 162 [a0, a1, a2] [.int (aF (h.1 s1) s0.toNatClampNeg)] h else Rx d 165 161 [a0, a1, a2] [.int s0, .ref s1] h := ldI c165_161
theorem c165_162 : cd 165 162 = some (162, .ireturn, 1, []) := by decide +kernel
theorem x165_162 {d : Nat} {a0 a1 a2 : Value} {s0 : Int32} {h : AHp} : Rf d 165 162 [a0, a1, a2] [.int s0] h = some (some (.int s0), h) := Rf_end (by rw [stp_of c165_162]; simp only [stpI]; rw [if_pos (show retI (mH 165).2.2.1 s0 = true from retI_int)])
theorem c165_143 : cd 165 143 = some (143, .aload_n 0, 1, []) := by decide +kernel
theorem x165_143 {d : Nat} {a1 a2 : Value} {x : Nat} {h : AHp} : Rf d 165 143 [.ref x, a1, a2] [] h = Rf d 165 144 [.ref x, a1, a2] [.ref x] h := Rf_go ((stp_of c165_143).trans rfl)
theorem c165_144 : cd 165 144 = some (144, .getfield 9, 3, [(12, 0)]) := by decide +kernel
theorem x165_144 {d : Nat} {a0 a1 a2 : Value} {s0 : Nat} {h : AHp} : Rf d 165 144 [a0, a1, a2] [.ref s0] h = if cls (h.1 s0) = 12 ∧ oKr (h.1 s0) 0 = true then Rf d 165 147 [a0, a1, a2] [.ref (oR (h.1 s0) 0)] h else Rx d 165 144 [a0, a1, a2] [.ref s0] h := getR c165_144
theorem c165_147 : cd 165 147 = some (147, .bipush 60, 2, []) := by decide +kernel
theorem x165_147 {d : Nat} {a0 a1 a2 : Value} {s0 : Nat} {h : AHp} : Rf d 165 147 [a0, a1, a2] [.ref s0] h = Rf d 165 149 [a0, a1, a2] [.int 60, .ref s0] h := Rf_go ((stp_of c165_147).trans rfl)
theorem c165_149 : cd 165 149 = some (149, .iload_n 1, 1, []) := by decide +kernel
theorem x165_149 {d : Nat} {a0 a2 : Value} {s0 : Int32} {s1 : Nat} {x : Int32} {h : AHp} : Rf d 165 149 [a0, .int x, a2] [.int s0, .ref s1] h = Rf d 165 150 [a0, .int x, a2] [.int x, .int s0, .ref s1] h := Rf_go ((stp_of c165_149).trans rfl)
theorem c165_150 : cd 165 150 = some (150, .iadd, 1, []) := by decide +kernel
theorem x165_150 {d : Nat} {a0 a1 a2 : Value} {s0 : Int32} {s1 : Int32} {s2 : Nat} {h : AHp} : Rf d 165 150 [a0, a1, a2] [.int s0, .int s1, .ref s2] h = Rf d 165 151 [a0, a1, a2] [.int (s1 + s0), .ref s2] h := Rf_go ((stp_of c165_150).trans rfl)
theorem c165_151 : cd 165 151 = some (151, .iaload, 1, []) := by decide +kernel
theorem x165_151 {d : Nat} {a0 a1 a2 : Value} {s0 : Int32} {s1 : Nat} {h : AHp} : Rf d 165 151 [a0, a1, a2] [.int s0, .ref s1] h = if (aT (h.1 s1) = 0 ∨ aT (h.1 s1) = 10) ∧ inB s0 (aN (h.1 s1)) = true then Rf d 165 152 [a0, a1, a2] [.int (aF (h.1 s1) s0.toNatClampNeg)] h else Rx d 165 151 [a0, a1, a2] [.int s0, .ref s1] h := ldI c165_151
theorem c165_152 : cd 165 152 = some (152, .ireturn, 1, []) := by decide +kernel
theorem x165_152 {d : Nat} {a0 a1 a2 : Value} {s0 : Int32} {h : AHp} : Rf d 165 152 [a0, a1, a2] [.int s0] h = some (some (.int s0), h) := Rf_end (by rw [stp_of c165_152]; simp only [stpI]; rw [if_pos (show retI (mH 165).2.2.1 s0 = true from retI_int)])
theorem c165_116 : cd 165 116 = some (116, .aload_n 0, 1, []) := by decide +kernel
theorem x165_116 {d : Nat} {a1 a2 : Value} {x : Nat} {h : AHp} : Rf d 165 116 [.ref x, a1, a2] [] h = Rf d 165 117 [.ref x, a1, a2] [.ref x] h := Rf_go ((stp_of c165_116).trans rfl)
theorem c165_117 : cd 165 117 = some (117, .getfield 9, 3, [(12, 0)]) := by decide +kernel
theorem x165_117 {d : Nat} {a0 a1 a2 : Value} {s0 : Nat} {h : AHp} : Rf d 165 117 [a0, a1, a2] [.ref s0] h = if cls (h.1 s0) = 12 ∧ oKr (h.1 s0) 0 = true then Rf d 165 120 [a0, a1, a2] [.ref (oR (h.1 s0) 0)] h else Rx d 165 117 [a0, a1, a2] [.ref s0] h := getR c165_117
theorem c165_120 : cd 165 120 = some (120, .bipush 50, 2, []) := by decide +kernel
theorem x165_120 {d : Nat} {a0 a1 a2 : Value} {s0 : Nat} {h : AHp} : Rf d 165 120 [a0, a1, a2] [.ref s0] h = Rf d 165 122 [a0, a1, a2] [.int 50, .ref s0] h := Rf_go ((stp_of c165_120).trans rfl)
theorem c165_122 : cd 165 122 = some (122, .iload_n 1, 1, []) := by decide +kernel
theorem x165_122 {d : Nat} {a0 a2 : Value} {s0 : Int32} {s1 : Nat} {x : Int32} {h : AHp} : Rf d 165 122 [a0, .int x, a2] [.int s0, .ref s1] h = Rf d 165 123 [a0, .int x, a2] [.int x, .int s0, .ref s1] h := Rf_go ((stp_of c165_122).trans rfl)
theorem c165_123 : cd 165 123 = some (123, .iadd, 1, []) := by decide +kernel
theorem x165_123 {d : Nat} {a0 a1 a2 : Value} {s0 : Int32} {s1 : Int32} {s2 : Nat} {h : AHp} : Rf d 165 123 [a0, a1, a2] [.int s0, .int s1, .ref s2] h = Rf d 165 124 [a0, a1, a2] [.int (s1 + s0), .ref s2] h := Rf_go ((stp_of c165_123).trans rfl)
theorem c165_124 : cd 165 124 = some (124, .iaload, 1, []) := by decide +kernel
theorem x165_124 {d : Nat} {a0 a1 a2 : Value} {s0 : Int32} {s1 : Nat} {h : AHp} : Rf d 165 124 [a0, a1, a2] [.int s0, .ref s1] h = if (aT (h.1 s1) = 0 ∨ aT (h.1 s1) = 10) ∧ inB s0 (aN (h.1 s1)) = true then Rf d 165 125 [a0, a1, a2] [.int (aF (h.1 s1) s0.toNatClampNeg)] h else Rx d 165 124 [a0, a1, a2] [.int s0, .ref s1] h := ldI c165_124
theorem c165_125 : cd 165 125 = some (125, .ifCond .ge 8, 3, [(133, 0)]) := by decide +kernel
theorem x165_125 {d : Nat} {a0 a1 a2 : Value} {s0 : Int32} {h : AHp} : Rf d 165 125 [a0, a1, a2] [.int s0] h = if s0 < 0 then Rf d 165 128 [a0, a1, a2] [] h else Rf d 165 133 [a0, a1, a2] [] h := Rf_brn ((stp_of c165_125).trans rfl)
theorem c165_133 : cd 165 133 = some (133, .aload_n 0, 1, []) := by decide +kernel
theorem x165_133 {d : Nat} {a1 a2 : Value} {x : Nat} {h : AHp} : Rf d 165 133 [.ref x, a1, a2] [] h = Rf d 165 134 [.ref x, a1, a2] [.ref x] h := Rf_go ((stp_of c165_133).trans rfl)
theorem c165_134 : cd 165 134 = some (134, .getfield 9, 3, [(12, 0)]) := by decide +kernel
theorem x165_134 {d : Nat} {a0 a1 a2 : Value} {s0 : Nat} {h : AHp} : Rf d 165 134 [a0, a1, a2] [.ref s0] h = if cls (h.1 s0) = 12 ∧ oKr (h.1 s0) 0 = true then Rf d 165 137 [a0, a1, a2] [.ref (oR (h.1 s0) 0)] h else Rx d 165 134 [a0, a1, a2] [.ref s0] h := getR c165_134
theorem c165_137 : cd 165 137 = some (137, .bipush 50, 2, []) := by decide +kernel
theorem x165_137 {d : Nat} {a0 a1 a2 : Value} {s0 : Nat} {h : AHp} : Rf d 165 137 [a0, a1, a2] [.ref s0] h = Rf d 165 139 [a0, a1, a2] [.int 50, .ref s0] h := Rf_go ((stp_of c165_137).trans rfl)
theorem c165_139 : cd 165 139 = some (139, .iload_n 1, 1, []) := by decide +kernel
theorem x165_139 {d : Nat} {a0 a2 : Value} {s0 : Int32} {s1 : Nat} {x : Int32} {h : AHp} : Rf d 165 139 [a0, .int x, a2] [.int s0, .ref s1] h = Rf d 165 140 [a0, .int x, a2] [.int x, .int s0, .ref s1] h := Rf_go ((stp_of c165_139).trans rfl)
theorem c165_140 : cd 165 140 = some (140, .iadd, 1, []) := by decide +kernel
theorem x165_140 {d : Nat} {a0 a1 a2 : Value} {s0 : Int32} {s1 : Int32} {s2 : Nat} {h : AHp} : Rf d 165 140 [a0, a1, a2] [.int s0, .int s1, .ref s2] h = Rf d 165 141 [a0, a1, a2] [.int (s1 + s0), .ref s2] h := Rf_go ((stp_of c165_140).trans rfl)
theorem c165_141 : cd 165 141 = some (141, .iaload, 1, []) := by decide +kernel
theorem x165_141 {d : Nat} {a0 a1 a2 : Value} {s0 : Int32} {s1 : Nat} {h : AHp} : Rf d 165 141 [a0, a1, a2] [.int s0, .ref s1] h = if (aT (h.1 s1) = 0 ∨ aT (h.1 s1) = 10) ∧ inB s0 (aN (h.1 s1)) = true then Rf d 165 142 [a0, a1, a2] [.int (aF (h.1 s1) s0.toNatClampNeg)] h else Rx d 165 141 [a0, a1, a2] [.int s0, .ref s1] h := ldI c165_141
theorem c165_142 : cd 165 142 = some (142, .ireturn, 1, []) := by decide +kernel
theorem x165_142 {d : Nat} {a0 a1 a2 : Value} {s0 : Int32} {h : AHp} : Rf d 165 142 [a0, a1, a2] [.int s0] h = some (some (.int s0), h) := Rf_end (by rw [stp_of c165_142]; simp only [stpI]; rw [if_pos (show retI (mH 165).2.2.1 s0 = true from retI_int)])
theorem c165_128 : cd 165 128 = some (128, .bipush (-5), 2, []) := by decide +kernel
theorem x165_128 {d : Nat} {a0 a1 a2 : Value} {h : AHp} : Rf d 165 128 [a0, a1, a2] [] h = Rf d 165 130 [a0, a1, a2] [.int (-5)] h := Rf_go ((stp_of c165_128).trans rfl)
theorem c165_130 : cd 165 130 = some (130, .goto 12, 3, [(142, 0)]) := by decide +kernel
theorem x165_130 {d : Nat} {a0 a1 a2 : Value} {s0 : Int32} {h : AHp} : Rf d 165 130 [a0, a1, a2] [.int s0] h = Rf d 165 142 [a0, a1, a2] [.int s0] h := Rf_go ((stp_of c165_130).trans rfl)
theorem c165_106 : cd 165 106 = some (106, .aload_n 0, 1, []) := by decide +kernel
theorem x165_106 {d : Nat} {a1 a2 : Value} {x : Nat} {h : AHp} : Rf d 165 106 [.ref x, a1, a2] [] h = Rf d 165 107 [.ref x, a1, a2] [.ref x] h := Rf_go ((stp_of c165_106).trans rfl)
theorem c165_107 : cd 165 107 = some (107, .getfield 9, 3, [(12, 0)]) := by decide +kernel
theorem x165_107 {d : Nat} {a0 a1 a2 : Value} {s0 : Nat} {h : AHp} : Rf d 165 107 [a0, a1, a2] [.ref s0] h = if cls (h.1 s0) = 12 ∧ oKr (h.1 s0) 0 = true then Rf d 165 110 [a0, a1, a2] [.ref (oR (h.1 s0) 0)] h else Rx d 165 107 [a0, a1, a2] [.ref s0] h := getR c165_107
theorem c165_110 : cd 165 110 = some (110, .bipush 40, 2, []) := by decide +kernel
theorem x165_110 {d : Nat} {a0 a1 a2 : Value} {s0 : Nat} {h : AHp} : Rf d 165 110 [a0, a1, a2] [.ref s0] h = Rf d 165 112 [a0, a1, a2] [.int 40, .ref s0] h := Rf_go ((stp_of c165_110).trans rfl)
theorem c165_112 : cd 165 112 = some (112, .iload_n 1, 1, []) := by decide +kernel
theorem x165_112 {d : Nat} {a0 a2 : Value} {s0 : Int32} {s1 : Nat} {x : Int32} {h : AHp} : Rf d 165 112 [a0, .int x, a2] [.int s0, .ref s1] h = Rf d 165 113 [a0, .int x, a2] [.int x, .int s0, .ref s1] h := Rf_go ((stp_of c165_112).trans rfl)
theorem c165_113 : cd 165 113 = some (113, .iadd, 1, []) := by decide +kernel
theorem x165_113 {d : Nat} {a0 a1 a2 : Value} {s0 : Int32} {s1 : Int32} {s2 : Nat} {h : AHp} : Rf d 165 113 [a0, a1, a2] [.int s0, .int s1, .ref s2] h = Rf d 165 114 [a0, a1, a2] [.int (s1 + s0), .ref s2] h := Rf_go ((stp_of c165_113).trans rfl)
theorem c165_114 : cd 165 114 = some (114, .iaload, 1, []) := by decide +kernel
theorem x165_114 {d : Nat} {a0 a1 a2 : Value} {s0 : Int32} {s1 : Nat} {h : AHp} : Rf d 165 114 [a0, a1, a2] [.int s0, .ref s1] h = if (aT (h.1 s1) = 0 ∨ aT (h.1 s1) = 10) ∧ inB s0 (aN (h.1 s1)) = true then Rf d 165 115 [a0, a1, a2] [.int (aF (h.1 s1) s0.toNatClampNeg)] h else Rx d 165 114 [a0, a1, a2] [.int s0, .ref s1] h := ldI c165_114
theorem c165_115 : cd 165 115 = some (115, .ireturn, 1, []) := by decide +kernel
theorem x165_115 {d : Nat} {a0 a1 a2 : Value} {s0 : Int32} {h : AHp} : Rf d 165 115 [a0, a1, a2] [.int s0] h = some (some (.int s0), h) := Rf_end (by rw [stp_of c165_115]; simp only [stpI]; rw [if_pos (show retI (mH 165).2.2.1 s0 = true from retI_int)])
theorem c165_96 : cd 165 96 = some (96, .aload_n 0, 1, []) := by decide +kernel
theorem x165_96 {d : Nat} {a1 a2 : Value} {x : Nat} {h : AHp} : Rf d 165 96 [.ref x, a1, a2] [] h = Rf d 165 97 [.ref x, a1, a2] [.ref x] h := Rf_go ((stp_of c165_96).trans rfl)
theorem c165_97 : cd 165 97 = some (97, .getfield 9, 3, [(12, 0)]) := by decide +kernel
theorem x165_97 {d : Nat} {a0 a1 a2 : Value} {s0 : Nat} {h : AHp} : Rf d 165 97 [a0, a1, a2] [.ref s0] h = if cls (h.1 s0) = 12 ∧ oKr (h.1 s0) 0 = true then Rf d 165 100 [a0, a1, a2] [.ref (oR (h.1 s0) 0)] h else Rx d 165 97 [a0, a1, a2] [.ref s0] h := getR c165_97
theorem c165_100 : cd 165 100 = some (100, .bipush 30, 2, []) := by decide +kernel
theorem x165_100 {d : Nat} {a0 a1 a2 : Value} {s0 : Nat} {h : AHp} : Rf d 165 100 [a0, a1, a2] [.ref s0] h = Rf d 165 102 [a0, a1, a2] [.int 30, .ref s0] h := Rf_go ((stp_of c165_100).trans rfl)
theorem c165_102 : cd 165 102 = some (102, .iload_n 1, 1, []) := by decide +kernel
theorem x165_102 {d : Nat} {a0 a2 : Value} {s0 : Int32} {s1 : Nat} {x : Int32} {h : AHp} : Rf d 165 102 [a0, .int x, a2] [.int s0, .ref s1] h = Rf d 165 103 [a0, .int x, a2] [.int x, .int s0, .ref s1] h := Rf_go ((stp_of c165_102).trans rfl)
theorem c165_103 : cd 165 103 = some (103, .iadd, 1, []) := by decide +kernel
theorem x165_103 {d : Nat} {a0 a1 a2 : Value} {s0 : Int32} {s1 : Int32} {s2 : Nat} {h : AHp} : Rf d 165 103 [a0, a1, a2] [.int s0, .int s1, .ref s2] h = Rf d 165 104 [a0, a1, a2] [.int (s1 + s0), .ref s2] h := Rf_go ((stp_of c165_103).trans rfl)
theorem c165_104 : cd 165 104 = some (104, .iaload, 1, []) := by decide +kernel
theorem x165_104 {d : Nat} {a0 a1 a2 : Value} {s0 : Int32} {s1 : Nat} {h : AHp} : Rf d 165 104 [a0, a1, a2] [.int s0, .ref s1] h = if (aT (h.1 s1) = 0 ∨ aT (h.1 s1) = 10) ∧ inB s0 (aN (h.1 s1)) = true then Rf d 165 105 [a0, a1, a2] [.int (aF (h.1 s1) s0.toNatClampNeg)] h else Rx d 165 104 [a0, a1, a2] [.int s0, .ref s1] h := ldI c165_104
theorem c165_105 : cd 165 105 = some (105, .ireturn, 1, []) := by decide +kernel
theorem x165_105 {d : Nat} {a0 a1 a2 : Value} {s0 : Int32} {h : AHp} : Rf d 165 105 [a0, a1, a2] [.int s0] h = some (some (.int s0), h) := Rf_end (by rw [stp_of c165_105]; simp only [stpI]; rw [if_pos (show retI (mH 165).2.2.1 s0 = true from retI_int)])
theorem c165_86 : cd 165 86 = some (86, .aload_n 0, 1, []) := by decide +kernel
theorem x165_86 {d : Nat} {a1 a2 : Value} {x : Nat} {h : AHp} : Rf d 165 86 [.ref x, a1, a2] [] h = Rf d 165 87 [.ref x, a1, a2] [.ref x] h := Rf_go ((stp_of c165_86).trans rfl)
theorem c165_87 : cd 165 87 = some (87, .getfield 9, 3, [(12, 0)]) := by decide +kernel
theorem x165_87 {d : Nat} {a0 a1 a2 : Value} {s0 : Nat} {h : AHp} : Rf d 165 87 [a0, a1, a2] [.ref s0] h = if cls (h.1 s0) = 12 ∧ oKr (h.1 s0) 0 = true then Rf d 165 90 [a0, a1, a2] [.ref (oR (h.1 s0) 0)] h else Rx d 165 87 [a0, a1, a2] [.ref s0] h := getR c165_87
theorem c165_90 : cd 165 90 = some (90, .bipush 20, 2, []) := by decide +kernel
theorem x165_90 {d : Nat} {a0 a1 a2 : Value} {s0 : Nat} {h : AHp} : Rf d 165 90 [a0, a1, a2] [.ref s0] h = Rf d 165 92 [a0, a1, a2] [.int 20, .ref s0] h := Rf_go ((stp_of c165_90).trans rfl)
theorem c165_92 : cd 165 92 = some (92, .iload_n 1, 1, []) := by decide +kernel
theorem x165_92 {d : Nat} {a0 a2 : Value} {s0 : Int32} {s1 : Nat} {x : Int32} {h : AHp} : Rf d 165 92 [a0, .int x, a2] [.int s0, .ref s1] h = Rf d 165 93 [a0, .int x, a2] [.int x, .int s0, .ref s1] h := Rf_go ((stp_of c165_92).trans rfl)
theorem c165_93 : cd 165 93 = some (93, .iadd, 1, []) := by decide +kernel
theorem x165_93 {d : Nat} {a0 a1 a2 : Value} {s0 : Int32} {s1 : Int32} {s2 : Nat} {h : AHp} : Rf d 165 93 [a0, a1, a2] [.int s0, .int s1, .ref s2] h = Rf d 165 94 [a0, a1, a2] [.int (s1 + s0), .ref s2] h := Rf_go ((stp_of c165_93).trans rfl)
theorem c165_94 : cd 165 94 = some (94, .iaload, 1, []) := by decide +kernel
theorem x165_94 {d : Nat} {a0 a1 a2 : Value} {s0 : Int32} {s1 : Nat} {h : AHp} : Rf d 165 94 [a0, a1, a2] [.int s0, .ref s1] h = if (aT (h.1 s1) = 0 ∨ aT (h.1 s1) = 10) ∧ inB s0 (aN (h.1 s1)) = true then Rf d 165 95 [a0, a1, a2] [.int (aF (h.1 s1) s0.toNatClampNeg)] h else Rx d 165 94 [a0, a1, a2] [.int s0, .ref s1] h := ldI c165_94
theorem c165_95 : cd 165 95 = some (95, .ireturn, 1, []) := by decide +kernel
theorem x165_95 {d : Nat} {a0 a1 a2 : Value} {s0 : Int32} {h : AHp} : Rf d 165 95 [a0, a1, a2] [.int s0] h = some (some (.int s0), h) := Rf_end (by rw [stp_of c165_95]; simp only [stpI]; rw [if_pos (show retI (mH 165).2.2.1 s0 = true from retI_int)])
theorem c165_76 : cd 165 76 = some (76, .aload_n 0, 1, []) := by decide +kernel
theorem x165_76 {d : Nat} {a1 a2 : Value} {x : Nat} {h : AHp} : Rf d 165 76 [.ref x, a1, a2] [] h = Rf d 165 77 [.ref x, a1, a2] [.ref x] h := Rf_go ((stp_of c165_76).trans rfl)
theorem c165_77 : cd 165 77 = some (77, .getfield 9, 3, [(12, 0)]) := by decide +kernel
theorem x165_77 {d : Nat} {a0 a1 a2 : Value} {s0 : Nat} {h : AHp} : Rf d 165 77 [a0, a1, a2] [.ref s0] h = if cls (h.1 s0) = 12 ∧ oKr (h.1 s0) 0 = true then Rf d 165 80 [a0, a1, a2] [.ref (oR (h.1 s0) 0)] h else Rx d 165 77 [a0, a1, a2] [.ref s0] h := getR c165_77
theorem c165_80 : cd 165 80 = some (80, .bipush 10, 2, []) := by decide +kernel
theorem x165_80 {d : Nat} {a0 a1 a2 : Value} {s0 : Nat} {h : AHp} : Rf d 165 80 [a0, a1, a2] [.ref s0] h = Rf d 165 82 [a0, a1, a2] [.int 10, .ref s0] h := Rf_go ((stp_of c165_80).trans rfl)
theorem c165_82 : cd 165 82 = some (82, .iload_n 1, 1, []) := by decide +kernel
theorem x165_82 {d : Nat} {a0 a2 : Value} {s0 : Int32} {s1 : Nat} {x : Int32} {h : AHp} : Rf d 165 82 [a0, .int x, a2] [.int s0, .ref s1] h = Rf d 165 83 [a0, .int x, a2] [.int x, .int s0, .ref s1] h := Rf_go ((stp_of c165_82).trans rfl)
theorem c165_83 : cd 165 83 = some (83, .iadd, 1, []) := by decide +kernel
theorem x165_83 {d : Nat} {a0 a1 a2 : Value} {s0 : Int32} {s1 : Int32} {s2 : Nat} {h : AHp} : Rf d 165 83 [a0, a1, a2] [.int s0, .int s1, .ref s2] h = Rf d 165 84 [a0, a1, a2] [.int (s1 + s0), .ref s2] h := Rf_go ((stp_of c165_83).trans rfl)
theorem c165_84 : cd 165 84 = some (84, .iaload, 1, []) := by decide +kernel
theorem x165_84 {d : Nat} {a0 a1 a2 : Value} {s0 : Int32} {s1 : Nat} {h : AHp} : Rf d 165 84 [a0, a1, a2] [.int s0, .ref s1] h = if (aT (h.1 s1) = 0 ∨ aT (h.1 s1) = 10) ∧ inB s0 (aN (h.1 s1)) = true then Rf d 165 85 [a0, a1, a2] [.int (aF (h.1 s1) s0.toNatClampNeg)] h else Rx d 165 84 [a0, a1, a2] [.int s0, .ref s1] h := ldI c165_84
theorem c165_85 : cd 165 85 = some (85, .ireturn, 1, []) := by decide +kernel
theorem x165_85 {d : Nat} {a0 a1 a2 : Value} {s0 : Int32} {h : AHp} : Rf d 165 85 [a0, a1, a2] [.int s0] h = some (some (.int s0), h) := Rf_end (by rw [stp_of c165_85]; simp only [stpI]; rw [if_pos (show retI (mH 165).2.2.1 s0 = true from retI_int)])
theorem c165_193 : cd 165 193 = some (193, .sipush (-10001), 3, []) := by decide +kernel
theorem x165_193 {d : Nat} {a0 a1 a2 : Value} {h : AHp} : Rf d 165 193 [a0, a1, a2] [] h = Rf d 165 196 [a0, a1, a2] [.int (-10001)] h := Rf_go ((stp_of c165_193).trans rfl)
theorem c165_196 : cd 165 196 = some (196, .ireturn, 1, []) := by decide +kernel
theorem x165_196 {d : Nat} {a0 a1 a2 : Value} {s0 : Int32} {h : AHp} : Rf d 165 196 [a0, a1, a2] [.int s0] h = some (some (.int s0), h) := Rf_end (by rw [stp_of c165_196]; simp only [stpI]; rw [if_pos (show retI (mH 165).2.2.1 s0 = true from retI_int)])
theorem c165_8 : cd 165 8 = some (8, .sipush (-10001), 3, []) := by decide +kernel
theorem x165_8 {d : Nat} {a0 a1 a2 : Value} {h : AHp} : Rf d 165 8 [a0, a1, a2] [] h = Rf d 165 11 [a0, a1, a2] [.int (-10001)] h := Rf_go ((stp_of c165_8).trans rfl)
theorem c165_11 : cd 165 11 = some (11, .ireturn, 1, []) := by decide +kernel
theorem x165_11 {d : Nat} {a0 a1 a2 : Value} {s0 : Int32} {h : AHp} : Rf d 165 11 [a0, a1, a2] [.int s0] h = some (some (.int s0), h) := Rf_end (by rw [stp_of c165_11]; simp only [stpI]; rw [if_pos (show retI (mH 165).2.2.1 s0 = true from retI_int)])
