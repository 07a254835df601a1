-- 217: L_law
theorem c217_0 : cd 217 0 = some (0, .new 7, 3, [(11, 7)]) := by decide +kernel
theorem x217_0 {d : Nat} {a0 a1 a2 a3 : Value} {h : AHp} : Rf d 217 0 [a0, a1, a2, a3] [] h = Rf d 217 3 [a0, a1, a2, a3] [.ref h.2.1] (hnew h (.inr (11, [.null, .null, .null, .null, .null, .null, .int 0])) 7) := (Rf_go ((stp_of c217_0).trans rfl)).trans (by rw [df11])
theorem c217_3 : cd 217 3 = some (3, .dup, 1, []) := by decide +kernel
theorem x217_3 {d : Nat} {a0 a1 a2 a3 : Value} {s0 : Nat} {h : AHp} : Rf d 217 3 [a0, a1, a2, a3] [.ref s0] h = Rf d 217 4 [a0, a1, a2, a3] [.ref s0, .ref s0] h := Rf_go ((stp_of c217_3).trans rfl)
theorem c217_4 : cd 217 4 = some (4, .invokespecial 9, 3, [(1003, 94)]) := by decide +kernel
theorem xc217_4 {d : Nat} {a0 a1 a2 a3 : Value} {s0 : Nat} {s1 : Nat} {h : AHp} {h1 : AHp} (hr : cls (h.1 s0) < 13) (hq : Rf d 94 0 [.ref s0] [] h = some (none, h1)) : Rf (d + 1) 217 4 [a0, a1, a2, a3] [.ref s0, .ref s1] h = Rf (d + 1) 217 7 [a0, a1, a2, a3] [.ref s1] h1 := clP (as := []) c217_4 rfl rfl (by simp [isV]) hr hq
theorem c217_7 : cd 217 7 = some (7, .astore_n 1, 1, []) := by decide +kernel
theorem x217_7 {d : Nat} {a0 a1 a2 a3 : Value} {s0 : Nat} {h : AHp} : Rf d 217 7 [a0, a1, a2, a3] [.ref s0] h = Rf d 217 8 [a0, .ref s0, a2, a3] [] h := Rf_go ((stp_of c217_7).trans rfl)
theorem c217_8 : cd 217 8 = some (8, .new 10, 3, [(12, 12)]) := by decide +kernel
theorem x217_8 {d : Nat} {a0 a1 a2 a3 : Value} {h : AHp} : Rf d 217 8 [a0, a1, a2, a3] [] h = Rf d 217 11 [a0, a1, a2, a3] [.ref h.2.1] (hnew h (.inr (12, [.null, .null, .int 0, .int 0, .int 0, .int 0, .null, .null, .null, .null, .int 0, .null])) 12) := (Rf_go ((stp_of c217_8).trans rfl)).trans (by rw [df12])
theorem c217_11 : cd 217 11 = some (11, .dup, 1, []) := by decide +kernel
theorem x217_11 {d : Nat} {a0 a1 a2 a3 : Value} {s0 : Nat} {h : AHp} : Rf d 217 11 [a0, a1, a2, a3] [.ref s0] h = Rf d 217 12 [a0, a1, a2, a3] [.ref s0, .ref s0] h := Rf_go ((stp_of c217_11).trans rfl)
theorem c217_12 : cd 217 12 = some (12, .invokespecial 12, 3, [(1003, 130)]) := by decide +kernel
theorem xc217_12 {d : Nat} {a0 a1 a2 a3 : Value} {s0 : Nat} {s1 : Nat} {h : AHp} {h1 : AHp} (hr : cls (h.1 s0) < 13) (hq : Rf d 130 0 [.ref s0] [] h = some (none, h1)) : Rf (d + 1) 217 12 [a0, a1, a2, a3] [.ref s0, .ref s1] h = Rf (d + 1) 217 15 [a0, a1, a2, a3] [.ref s1] h1 := clP (as := []) c217_12 rfl rfl (by simp [isV]) hr hq
theorem c217_15 : cd 217 15 = some (15, .astore_n 2, 1, []) := by decide +kernel
theorem x217_15 {d : Nat} {a0 a1 a2 a3 : Value} {s0 : Nat} {h : AHp} : Rf d 217 15 [a0, a1, a2, a3] [.ref s0] h = Rf d 217 16 [a0, a1, .ref s0, a3] [] h := Rf_go ((stp_of c217_15).trans rfl)
theorem c217_16 : cd 217 16 = some (16, .iconst 0, 1, []) := by decide +kernel
theorem x217_16 {d : Nat} {a0 a1 a2 a3 : Value} {h : AHp} : Rf d 217 16 [a0, a1, a2, a3] [] h = Rf d 217 17 [a0, a1, a2, a3] [.int 0] h := Rf_go ((stp_of c217_16).trans rfl)
theorem c217_17 : cd 217 17 = some (17, .istore_n 3, 1, []) := by decide +kernel
theorem x217_17 {d : Nat} {a0 a1 a2 a3 : Value} {s0 : Int32} {h : AHp} : Rf d 217 17 [a0, a1, a2, a3] [.int s0] h = Rf d 217 18 [a0, a1, a2, .int s0] [] h := Rf_go ((stp_of c217_17).trans rfl)
theorem c217_18 : cd 217 18 = some (18, .iload_n 3, 1, []) := by decide +kernel
theorem x217_18 {d : Nat} {a0 a1 a2 : Value} {x : Int32} {h : AHp} : Rf d 217 18 [a0, a1, a2, .int x] [] h = Rf d 217 19 [a0, a1, a2, .int x] [.int x] h := Rf_go ((stp_of c217_18).trans rfl)
theorem c217_19 : cd 217 19 = some (19, .aload_n 0, 1, []) := by decide +kernel
theorem x217_19 {d : Nat} {a1 a2 a3 : Value} {s0 : Int32} {x : Nat} {h : AHp} : Rf d 217 19 [.ref x, a1, a2, a3] [.int s0] h = Rf d 217 20 [.ref x, a1, a2, a3] [.ref x, .int s0] h := Rf_go ((stp_of c217_19).trans rfl)
theorem c217_20 : cd 217 20 = some (20, .arraylength, 1, []) := by decide +kernel
theorem x217_20 {d : Nat} {a0 a1 a2 a3 : Value} {s0 : Nat} {s1 : Int32} {h : AHp} : Rf d 217 20 [a0, a1, a2, a3] [.ref s0, .int s1] h = if aT (h.1 s0) = 0 ∨ aT (h.1 s0) = 1 ∨ aT (h.1 s0) = 10 ∨ aT (h.1 s0) = 11 then Rf d 217 21 [a0, a1, a2, a3] [.int (nI (aN (h.1 s0))), .int s1] h else Rx d 217 20 [a0, a1, a2, a3] [.ref s0, .int s1] h := alI c217_20
theorem c217_21 : cd 217 21 = some (21, .iconst 5, 1, []) := by decide +kernel
theorem x217_21 {d : Nat} {a0 a1 a2 a3 : Value} {s0 : Int32} {s1 : Int32} {h : AHp} : Rf d 217 21 [a0, a1, a2, a3] [.int s0, .int s1] h = Rf d 217 22 [a0, a1, a2, a3] [.int 5, .int s0, .int s1] h := Rf_go ((stp_of c217_21).trans rfl)
theorem c217_22 : cd 217 22 = some (22, .isub, 1, []) := by decide +kernel
theorem x217_22 {d : Nat} {a0 a1 a2 a3 : Value} {s0 : Int32} {s1 : Int32} {s2 : Int32} {h : AHp} : Rf d 217 22 [a0, a1, a2, a3] [.int s0, .int s1, .int s2] h = Rf d 217 23 [a0, a1, a2, a3] [.int (s1 - s0), .int s2] h := Rf_go ((stp_of c217_22).trans rfl)
theorem c217_23 : cd 217 23 = some (23, .if_icmp .gt 991, 3, [(1014, 0)]) := by decide +kernel
theorem x217_23 {d : Nat} {a0 a1 a2 a3 : Value} {s0 : Int32} {s1 : Int32} {h : AHp} : Rf d 217 23 [a0, a1, a2, a3] [.int s0, .int s1] h = if s0 < s1 then Rf d 217 1014 [a0, a1, a2, a3] [] h else Rf d 217 26 [a0, a1, a2, a3] [] h := Rf_brd ((stp_of c217_23).trans rfl)
theorem c217_1014 : cd 217 1014 = some (1014, .iconst 1, 1, []) := by decide +kernel
theorem x217_1014 {d : Nat} {a0 a1 a2 a3 : Value} {h : AHp} : Rf d 217 1014 [a0, a1, a2, a3] [] h = Rf d 217 1015 [a0, a1, a2, a3] [.int 1] h := Rf_go ((stp_of c217_1014).trans rfl)
theorem c217_1015 : cd 217 1015 = some (1015, .ireturn, 1, []) := by decide +kernel
theorem x217_1015 {d : Nat} {a0 a1 a2 a3 : Value} {s0 : Int32} {h : AHp} : Rf d 217 1015 [a0, a1, a2, a3] [.int s0] h = if retI (some .boolean) s0 = true then some (some (.int s0), h) else Rx d 217 1015 [a0, a1, a2, a3] [.int s0] h := Rf_ife (fun hk => by rw [stp_of c217_1015]; exact if_pos hk)
theorem c217_26 : cd 217 26 = some (26, .aload_n 0, 1, []) := by decide +kernel
theorem x217_26 {d : Nat} {a1 a2 a3 : Value} {x : Nat} {h : AHp} : Rf d 217 26 [.ref x, a1, a2, a3] [] h = Rf d 217 27 [.ref x, a1, a2, a3] [.ref x] h := Rf_go ((stp_of c217_26).trans rfl)
theorem c217_27 : cd 217 27 = some (27, .iload_n 3, 1, []) := by decide +kernel
theorem x217_27 {d : Nat} {a0 a1 a2 : Value} {s0 : Nat} {x : Int32} {h : AHp} : Rf d 217 27 [a0, a1, a2, .int x] [.ref s0] h = Rf d 217 28 [a0, a1, a2, .int x] [.int x, .ref s0] h := Rf_go ((stp_of c217_27).trans rfl)
theorem c217_28 : cd 217 28 = some (28, .iaload, 1, []) := by decide +kernel
theorem x217_28 {d : Nat} {a0 a1 a2 a3 : Value} {s0 : Int32} {s1 : Nat} {h : AHp} : Rf d 217 28 [a0, a1, a2, a3] [.int s0, .ref s1] h = if (aT (h.1 s1) = 0 ∨ aT (h.1 s1) = 10) ∧ inB s0 (aN (h.1 s1)) = true then Rf d 217 29 [a0, a1, a2, a3] [.int (aF (h.1 s1) s0.toNatClampNeg)] h else Rx d 217 28 [a0, a1, a2, a3] [.int s0, .ref s1] h := ldI c217_28
theorem c217_29 : cd 217 29 = some (29, .bipush 31, 2, []) := by decide +kernel
theorem x217_29 {d : Nat} {a0 a1 a2 a3 : Value} {s0 : Int32} {h : AHp} : Rf d 217 29 [a0, a1, a2, a3] [.int s0] h = Rf d 217 31 [a0, a1, a2, a3] [.int 31, .int s0] h := Rf_go ((stp_of c217_29).trans rfl)
theorem c217_31 : cd 217 31 = some (31, .iand, 1, []) := by decide +kernel
theorem x217_31 {d : Nat} {a0 a1 a2 a3 : Value} {s0 : Int32} {s1 : Int32} {h : AHp} : Rf d 217 31 [a0, a1, a2, a3] [.int s0, .int s1] h = Rf d 217 32 [a0, a1, a2, a3] [.int (s1 &&& s0)] h := Rf_go ((stp_of c217_31).trans rfl)
theorem c217_32 : cd 217 32 = some (32, .tableswitch 976 0 29 #[136, 159, 172, 195, 248, 291, 324, 357, 400, 423, 436, 479, 502, 525, 558, 601, 624, 647, 670, 713, 726, 759, 782, 805, 828, 871, 894, 927, 940, 953], 136, [(0, 1008), (0, 168), (1, 191), (2, 204), (3, 227), (4, 280), (5, 323), (6, 356), (7, 389), (8, 432), (9, 455), (10, 468), (11, 511), (12, 534), (13, 557), (14, 590), (15, 633), (16, 656), (17, 679), (18, 702), (19, 745), (20, 758), (21, 791), (22, 814), (23, 837), (24, 860), (25, 903), (26, 926), (27, 959), (28, 972), (29, 985)]) := by decide +kernel
theorem x217_32 {d : Nat} {a0 a1 a2 a3 : Value} {s0 : Int32} {h : AHp} : Rf d 217 32 [a0, a1, a2, a3] [.int s0] h = if s0 = 0 then Rf d 217 168 [a0, a1, a2, a3] [] h else (if s0 = 1 then Rf d 217 191 [a0, a1, a2, a3] [] h else (if s0 = 2 then Rf d 217 204 [a0, a1, a2, a3] [] h else (if s0 = 3 then Rf d 217 227 [a0, a1, a2, a3] [] h else (if s0 = 4 then Rf d 217 280 [a0, a1, a2, a3] [] h else (if s0 = 5 then Rf d 217 323 [a0, a1, a2, a3] [] h else (if s0 = 6 then Rf d 217 356 [a0, a1, a2, a3] [] h else (if s0 = 7 then Rf d 217 389 [a0, a1, a2, a3] [] h else (if s0 = 8 then Rf d 217 432 [a0, a1, a2, a3] [] h else (if s0 = 9 then Rf d 217 455 [a0, a1, a2, a3] [] h else (if s0 = 10 then Rf d 217 468 [a0, a1, a2, a3] [] h else (if s0 = 11 then Rf d 217 511 [a0, a1, a2, a3] [] h else (if s0 = 12 then Rf d 217 534 [a0, a1, a2, a3] [] h else (if s0 = 13 then Rf d 217 557 [a0, a1, a2, a3] [] h else (if s0 = 14 then Rf d 217 590 [a0, a1, a2, a3] [] h else (if s0 = 15 then Rf d 217 633 [a0, a1, a2, a3] [] h else (if s0 = 16 then Rf d 217 656 [a0, a1, a2, a3] [] h else (if s0 = 17 then Rf d 217 679 [a0, a1, a2, a3] [] h else (if s0 = 18 then Rf d 217 702 [a0, a1, a2, a3] [] h else (if s0 = 19 then Rf d 217 745 [a0, a1, a2, a3] [] h else (if s0 = 20 then Rf d 217 758 [a0, a1, a2, a3] [] h else (if s0 = 21 then Rf d 217 791 [a0, a1, a2, a3] [] h else (if s0 = 22 then Rf d 217 814 [a0, a1, a2, a3] [] h else (if s0 = 23 then Rf d 217 837 [a0, a1, a2, a3] [] h else (if s0 = 24 then Rf d 217 860 [a0, a1, a2, a3] [] h else (if s0 = 25 then Rf d 217 903 [a0, a1, a2, a3] [] h else (if s0 = 26 then Rf d 217 926 [a0, a1, a2, a3] [] h else (if s0 = 27 then Rf d 217 959 [a0, a1, a2, a3] [] h else (if s0 = 28 then Rf d 217 972 [a0, a1, a2, a3] [] h else (if s0 = 29 then Rf d 217 985 [a0, a1, a2, a3] [] h else (Rf d 217 1008 [a0, a1, a2, a3] [] h)))))))))))))))))))))))))))))) := (swE (e := 1008) c217_32 rfl).trans (by simp only [List.drop, swT, Rf_ite]; rfl)
theorem c217_985 : cd 217 985 = some (985, .aload_n 1, 1, []) := by decide +kernel
theorem x217_985 {d : Nat} {a0 a2 a3 : Value} {x : Nat} {h : AHp} : Rf d 217 985 [a0, .ref x, a2, a3] [] h = Rf d 217 986 [a0, .ref x, a2, a3] [.ref x] h := Rf_go ((stp_of c217_985).trans rfl)
theorem c217_986 : cd 217 986 = some (986, .aload_n 0, 1, []) := by decide +kernel
theorem x217_986 {d : Nat} {a1 a2 a3 : Value} {s0 : Nat} {x : Nat} {h : AHp} : Rf d 217 986 [.ref x, a1, a2, a3] [.ref s0] h = Rf d 217 987 [.ref x, a1, a2, a3] [.ref x, .ref s0] h := Rf_go ((stp_of c217_986).trans rfl)
theorem c217_987 : cd 217 987 = some (987, .iload_n 3, 1, []) := by decide +kernel
theorem x217_987 {d : Nat} {a0 a1 a2 : Value} {s0 : Nat} {s1 : Nat} {x : Int32} {h : AHp} : Rf d 217 987 [a0, a1, a2, .int x] [.ref s0, .ref s1] h = Rf d 217 988 [a0, a1, a2, .int x] [.int x, .ref s0, .ref s1] h := Rf_go ((stp_of c217_987).trans rfl)
theorem c217_988 : cd 217 988 = some (988, .iconst 1, 1, []) := by decide +kernel
theorem x217_988 {d : Nat} {a0 a1 a2 a3 : Value} {s0 : Int32} {s1 : Nat} {s2 : Nat} {h : AHp} : Rf d 217 988 [a0, a1, a2, a3] [.int s0, .ref s1, .ref s2] h = Rf d 217 989 [a0, a1, a2, a3] [.int 1, .int s0, .ref s1, .ref s2] h := Rf_go ((stp_of c217_988).trans rfl)
theorem c217_989 : cd 217 989 = some (989, .iadd, 1, []) := by decide +kernel
theorem x217_989 {d : Nat} {a0 a1 a2 a3 : Value} {s0 : Int32} {s1 : Int32} {s2 : Nat} {s3 : Nat} {h : AHp} : Rf d 217 989 [a0, a1, a2, a3] [.int s0, .int s1, .ref s2, .ref s3] h = Rf d 217 990 [a0, a1, a2, a3] [.int (s1 + s0), .ref s2, .ref s3] h := Rf_go ((stp_of c217_989).trans rfl)
theorem c217_990 : cd 217 990 = some (990, .iaload, 1, []) := by decide +kernel
theorem x217_990 {d : Nat} {a0 a1 a2 a3 : Value} {s0 : Int32} {s1 : Nat} {s2 : Nat} {h : AHp} : Rf d 217 990 [a0, a1, a2, a3] [.int s0, .ref s1, .ref s2] h = if (aT (h.1 s1) = 0 ∨ aT (h.1 s1) = 10) ∧ inB s0 (aN (h.1 s1)) = true then Rf d 217 991 [a0, a1, a2, a3] [.int (aF (h.1 s1) s0.toNatClampNeg), .ref s2] h else Rx d 217 990 [a0, a1, a2, a3] [.int s0, .ref s1, .ref s2] h := ldI c217_990
theorem c217_991 : cd 217 991 = some (991, .invokevirtual 134, 3, [(11, 128)]) := by decide +kernel
theorem xc217_991 {d : Nat} {a0 a1 a2 a3 : Value} {s0 : Int32} {s1 : Nat} {h : AHp} {h1 : AHp} {v : Int32} (hr : cls (h.1 s1) = 11) (hq : Rf d 128 0 [.ref s1, .int s0] [] h = some (some (.int v), h1)) : Rf (d + 1) 217 991 [a0, a1, a2, a3] [.int s0, .ref s1] h = Rf (d + 1) 217 994 [a0, a1, a2, a3] [.int v] h1 := clV (c := 128) (as := [.int s0]) c217_991 rfl (by simp [isV]) (by rw [hr]; rfl) hq
theorem c217_994 : cd 217 994 = some (994, .aload_n 2, 1, []) := by decide +kernel
theorem x217_994 {d : Nat} {a0 a1 a3 : Value} {s0 : Int32} {x : Nat} {h : AHp} : Rf d 217 994 [a0, a1, .ref x, a3] [.int s0] h = Rf d 217 995 [a0, a1, .ref x, a3] [.ref x, .int s0] h := Rf_go ((stp_of c217_994).trans rfl)
theorem c217_995 : cd 217 995 = some (995, .aload_n 0, 1, []) := by decide +kernel
theorem x217_995 {d : Nat} {a1 a2 a3 : Value} {s0 : Nat} {s1 : Int32} {x : Nat} {h : AHp} : Rf d 217 995 [.ref x, a1, a2, a3] [.ref s0, .int s1] h = Rf d 217 996 [.ref x, a1, a2, a3] [.ref x, .ref s0, .int s1] h := Rf_go ((stp_of c217_995).trans rfl)
theorem c217_996 : cd 217 996 = some (996, .iload_n 3, 1, []) := by decide +kernel
theorem x217_996 {d : Nat} {a0 a1 a2 : Value} {s0 : Nat} {s1 : Nat} {s2 : Int32} {x : Int32} {h : AHp} : Rf d 217 996 [a0, a1, a2, .int x] [.ref s0, .ref s1, .int s2] h = Rf d 217 997 [a0, a1, a2, .int x] [.int x, .ref s0, .ref s1, .int s2] h := Rf_go ((stp_of c217_996).trans rfl)
theorem c217_997 : cd 217 997 = some (997, .iconst 1, 1, []) := by decide +kernel
theorem x217_997 {d : Nat} {a0 a1 a2 a3 : Value} {s0 : Int32} {s1 : Nat} {s2 : Nat} {s3 : Int32} {h : AHp} : Rf d 217 997 [a0, a1, a2, a3] [.int s0, .ref s1, .ref s2, .int s3] h = Rf d 217 998 [a0, a1, a2, a3] [.int 1, .int s0, .ref s1, .ref s2, .int s3] h := Rf_go ((stp_of c217_997).trans rfl)
theorem c217_998 : cd 217 998 = some (998, .iadd, 1, []) := by decide +kernel
theorem x217_998 {d : Nat} {a0 a1 a2 a3 : Value} {s0 : Int32} {s1 : Int32} {s2 : Nat} {s3 : Nat} {s4 : Int32} {h : AHp} : Rf d 217 998 [a0, a1, a2, a3] [.int s0, .int s1, .ref s2, .ref s3, .int s4] h = Rf d 217 999 [a0, a1, a2, a3] [.int (s1 + s0), .ref s2, .ref s3, .int s4] h := Rf_go ((stp_of c217_998).trans rfl)
theorem c217_999 : cd 217 999 = some (999, .iaload, 1, []) := by decide +kernel
theorem x217_999 {d : Nat} {a0 a1 a2 a3 : Value} {s0 : Int32} {s1 : Nat} {s2 : Nat} {s3 : Int32} {h : AHp} : Rf d 217 999 [a0, a1, a2, a3] [.int s0, .ref s1, .ref s2, .int s3] h = if (aT (h.1 s1) = 0 ∨ aT (h.1 s1) = 10) ∧ inB s0 (aN (h.1 s1)) = true then Rf d 217 1000 [a0, a1, a2, a3] [.int (aF (h.1 s1) s0.toNatClampNeg), .ref s2, .int s3] h else Rx d 217 999 [a0, a1, a2, a3] [.int s0, .ref s1, .ref s2, .int s3] h := ldI c217_999
theorem c217_1000 : cd 217 1000 = some (1000, .invokevirtual 137, 3, [(12, 198)]) := by decide +kernel
theorem xc217_1000 {d : Nat} {a0 a1 a2 a3 : Value} {s0 : Int32} {s1 : Nat} {s2 : Int32} {h : AHp} {h1 : AHp} {v : Int32} (hr : cls (h.1 s1) = 12) (hq : Rf d 198 0 [.ref s1, .int s0] [] h = some (some (.int v), h1)) : Rf (d + 1) 217 1000 [a0, a1, a2, a3] [.int s0, .ref s1, .int s2] h = Rf (d + 1) 217 1003 [a0, a1, a2, a3] [.int v, .int s2] h1 := clV (c := 198) (as := [.int s0]) c217_1000 rfl (by simp [isV]) (by rw [hr]; rfl) hq
theorem c217_1003 : cd 217 1003 = some (1003, .if_icmp .eq 5, 3, [(1008, 0)]) := by decide +kernel
theorem x217_1003 {d : Nat} {a0 a1 a2 a3 : Value} {s0 : Int32} {s1 : Int32} {h : AHp} : Rf d 217 1003 [a0, a1, a2, a3] [.int s0, .int s1] h = if s1 = s0 then Rf d 217 1008 [a0, a1, a2, a3] [] h else Rf d 217 1006 [a0, a1, a2, a3] [] h := Rf_brd ((stp_of c217_1003).trans rfl)
theorem c217_1006 : cd 217 1006 = some (1006, .iconst 0, 1, []) := by decide +kernel
theorem x217_1006 {d : Nat} {a0 a1 a2 a3 : Value} {h : AHp} : Rf d 217 1006 [a0, a1, a2, a3] [] h = Rf d 217 1007 [a0, a1, a2, a3] [.int 0] h := Rf_go ((stp_of c217_1006).trans rfl)
theorem c217_1007 : cd 217 1007 = some (1007, .ireturn, 1, []) := by decide +kernel
theorem x217_1007 {d : Nat} {a0 a1 a2 a3 : Value} {s0 : Int32} {h : AHp} : Rf d 217 1007 [a0, a1, a2, a3] [.int s0] h = if retI (some .boolean) s0 = true then some (some (.int s0), h) else Rx d 217 1007 [a0, a1, a2, a3] [.int s0] h := Rf_ife (fun hk => by rw [stp_of c217_1007]; exact if_pos hk)
theorem c217_972 : cd 217 972 = some (972, .aload_n 1, 1, []) := by decide +kernel
theorem x217_972 {d : Nat} {a0 a2 a3 : Value} {x : Nat} {h : AHp} : Rf d 217 972 [a0, .ref x, a2, a3] [] h = Rf d 217 973 [a0, .ref x, a2, a3] [.ref x] h := Rf_go ((stp_of c217_972).trans rfl)
theorem c217_973 : cd 217 973 = some (973, .invokevirtual 130, 3, [(11, 127)]) := by decide +kernel
theorem xc217_973 {d : Nat} {a0 a1 a2 a3 : Value} {s0 : Nat} {h : AHp} {h1 : AHp} {v : Int32} (hr : cls (h.1 s0) = 11) (hq : Rf d 127 0 [.ref s0] [] h = some (some (.int v), h1)) : Rf (d + 1) 217 973 [a0, a1, a2, a3] [.ref s0] h = Rf (d + 1) 217 976 [a0, a1, a2, a3] [.int v] h1 := clV (c := 127) (as := []) c217_973 rfl (by simp [isV]) (by rw [hr]; rfl) hq
theorem c217_976 : cd 217 976 = some (976, .aload_n 2, 1, []) := by decide +kernel
theorem x217_976 {d : Nat} {a0 a1 a3 : Value} {s0 : Int32} {x : Nat} {h : AHp} : Rf d 217 976 [a0, a1, .ref x, a3] [.int s0] h = Rf d 217 977 [a0, a1, .ref x, a3] [.ref x, .int s0] h := Rf_go ((stp_of c217_976).trans rfl)
theorem c217_977 : cd 217 977 = some (977, .invokevirtual 133, 3, [(12, 197)]) := by decide +kernel
theorem xc217_977 {d : Nat} {a0 a1 a2 a3 : Value} {s0 : Nat} {s1 : Int32} {h : AHp} {h1 : AHp} {v : Int32} (hr : cls (h.1 s0) = 12) (hq : Rf d 197 0 [.ref s0, noV] [] h = some (some (.int v), h1)) : Rf (d + 1) 217 977 [a0, a1, a2, a3] [.ref s0, .int s1] h = Rf (d + 1) 217 980 [a0, a1, a2, a3] [.int v, .int s1] h1 := clV (c := 197) (as := []) c217_977 rfl (by simp [isV]) (by rw [hr]; rfl) hq
theorem c217_980 : cd 217 980 = some (980, .if_icmp .eq 28, 3, [(1008, 0)]) := by decide +kernel
theorem x217_980 {d : Nat} {a0 a1 a2 a3 : Value} {s0 : Int32} {s1 : Int32} {h : AHp} : Rf d 217 980 [a0, a1, a2, a3] [.int s0, .int s1] h = if s1 = s0 then Rf d 217 1008 [a0, a1, a2, a3] [] h else Rf d 217 983 [a0, a1, a2, a3] [] h := Rf_brd ((stp_of c217_980).trans rfl)
theorem c217_983 : cd 217 983 = some (983, .iconst 0, 1, []) := by decide +kernel
theorem x217_983 {d : Nat} {a0 a1 a2 a3 : Value} {h : AHp} : Rf d 217 983 [a0, a1, a2, a3] [] h = Rf d 217 984 [a0, a1, a2, a3] [.int 0] h := Rf_go ((stp_of c217_983).trans rfl)
theorem c217_984 : cd 217 984 = some (984, .ireturn, 1, []) := by decide +kernel
theorem x217_984 {d : Nat} {a0 a1 a2 a3 : Value} {s0 : Int32} {h : AHp} : Rf d 217 984 [a0, a1, a2, a3] [.int s0] h = if retI (some .boolean) s0 = true then some (some (.int s0), h) else Rx d 217 984 [a0, a1, a2, a3] [.int s0] h := Rf_ife (fun hk => by rw [stp_of c217_984]; exact if_pos hk)
theorem c217_959 : cd 217 959 = some (959, .aload_n 1, 1, []) := by decide +kernel
theorem x217_959 {d : Nat} {a0 a2 a3 : Value} {x : Nat} {h : AHp} : Rf d 217 959 [a0, .ref x, a2, a3] [] h = Rf d 217 960 [a0, .ref x, a2, a3] [.ref x] h := Rf_go ((stp_of c217_959).trans rfl)
theorem c217_960 : cd 217 960 = some (960, .invokevirtual 126, 3, [(11, 126)]) := by decide +kernel
theorem xc217_960 {d : Nat} {a0 a1 a2 a3 : Value} {s0 : Nat} {h : AHp} {h1 : AHp} {v : Int32} (hr : cls (h.1 s0) = 11) (hq : Rf d 126 0 [.ref s0] [] h = some (some (.int v), h1)) : Rf (d + 1) 217 960 [a0, a1, a2, a3] [.ref s0] h = Rf (d + 1) 217 963 [a0, a1, a2, a3] [.int v] h1 := clV (c := 126) (as := []) c217_960 rfl (by simp [isV]) (by rw [hr]; rfl) hq
theorem c217_963 : cd 217 963 = some (963, .aload_n 2, 1, []) := by decide +kernel
theorem x217_963 {d : Nat} {a0 a1 a3 : Value} {s0 : Int32} {x : Nat} {h : AHp} : Rf d 217 963 [a0, a1, .ref x, a3] [.int s0] h = Rf d 217 964 [a0, a1, .ref x, a3] [.ref x, .int s0] h := Rf_go ((stp_of c217_963).trans rfl)
theorem c217_964 : cd 217 964 = some (964, .invokevirtual 129, 3, [(12, 196)]) := by decide +kernel
theorem xc217_964 {d : Nat} {a0 a1 a2 a3 : Value} {s0 : Nat} {s1 : Int32} {h : AHp} {h1 : AHp} {v : Int32} (hr : cls (h.1 s0) = 12) (hq : Rf d 196 0 [.ref s0, noV] [] h = some (some (.int v), h1)) : Rf (d + 1) 217 964 [a0, a1, a2, a3] [.ref s0, .int s1] h = Rf (d + 1) 217 967 [a0, a1, a2, a3] [.int v, .int s1] h1 := clV (c := 196) (as := []) c217_964 rfl (by simp [isV]) (by rw [hr]; rfl) hq
theorem c217_967 : cd 217 967 = some (967, .if_icmp .eq 41, 3, [(1008, 0)]) := by decide +kernel
theorem x217_967 {d : Nat} {a0 a1 a2 a3 : Value} {s0 : Int32} {s1 : Int32} {h : AHp} : Rf d 217 967 [a0, a1, a2, a3] [.int s0, .int s1] h = if s1 = s0 then Rf d 217 1008 [a0, a1, a2, a3] [] h else Rf d 217 970 [a0, a1, a2, a3] [] h := Rf_brd ((stp_of c217_967).trans rfl)
theorem c217_970 : cd 217 970 = some (970, .iconst 0, 1, []) := by decide +kernel
theorem x217_970 {d : Nat} {a0 a1 a2 a3 : Value} {h : AHp} : Rf d 217 970 [a0, a1, a2, a3] [] h = Rf d 217 971 [a0, a1, a2, a3] [.int 0] h := Rf_go ((stp_of c217_970).trans rfl)
theorem c217_971 : cd 217 971 = some (971, .ireturn, 1, []) := by decide +kernel
theorem x217_971 {d : Nat} {a0 a1 a2 a3 : Value} {s0 : Int32} {h : AHp} : Rf d 217 971 [a0, a1, a2, a3] [.int s0] h = if retI (some .boolean) s0 = true then some (some (.int s0), h) else Rx d 217 971 [a0, a1, a2, a3] [.int s0] h := Rf_ife (fun hk => by rw [stp_of c217_971]; exact if_pos hk)
theorem c217_926 : cd 217 926 = some (926, .aload_n 1, 1, []) := by decide +kernel
theorem x217_926 {d : Nat} {a0 a2 a3 : Value} {x : Nat} {h : AHp} : Rf d 217 926 [a0, .ref x, a2, a3] [] h = Rf d 217 927 [a0, .ref x, a2, a3] [.ref x] h := Rf_go ((stp_of c217_926).trans rfl)
theorem c217_927 : cd 217 927 = some (927, .aload_n 0, 1, []) := by decide +kernel
theorem x217_927 {d : Nat} {a1 a2 a3 : Value} {s0 : Nat} {x : Nat} {h : AHp} : Rf d 217 927 [.ref x, a1, a2, a3] [.ref s0] h = Rf d 217 928 [.ref x, a1, a2, a3] [.ref x, .ref s0] h := Rf_go ((stp_of c217_927).trans rfl)
theorem c217_928 : cd 217 928 = some (928, .iload_n 3, 1, []) := by decide +kernel
theorem x217_928 {d : Nat} {a0 a1 a2 : Value} {s0 : Nat} {s1 : Nat} {x : Int32} {h : AHp} : Rf d 217 928 [a0, a1, a2, .int x] [.ref s0, .ref s1] h = Rf d 217 929 [a0, a1, a2, .int x] [.int x, .ref s0, .ref s1] h := Rf_go ((stp_of c217_928).trans rfl)
theorem c217_929 : cd 217 929 = some (929, .iconst 1, 1, []) := by decide +kernel
theorem x217_929 {d : Nat} {a0 a1 a2 a3 : Value} {s0 : Int32} {s1 : Nat} {s2 : Nat} {h : AHp} : Rf d 217 929 [a0, a1, a2, a3] [.int s0, .ref s1, .ref s2] h = Rf d 217 930 [a0, a1, a2, a3] [.int 1, .int s0, .ref s1, .ref s2] h := Rf_go ((stp_of c217_929).trans rfl)
theorem c217_930 : cd 217 930 = some (930, .iadd, 1, []) := by decide +kernel
theorem x217_930 {d : Nat} {a0 a1 a2 a3 : Value} {s0 : Int32} {s1 : Int32} {s2 : Nat} {s3 : Nat} {h : AHp} : Rf d 217 930 [a0, a1, a2, a3] [.int s0, .int s1, .ref s2, .ref s3] h = Rf d 217 931 [a0, a1, a2, a3] [.int (s1 + s0), .ref s2, .ref s3] h := Rf_go ((stp_of c217_930).trans rfl)
theorem c217_931 : cd 217 931 = some (931, .iaload, 1, []) := by decide +kernel
theorem x217_931 {d : Nat} {a0 a1 a2 a3 : Value} {s0 : Int32} {s1 : Nat} {s2 : Nat} {h : AHp} : Rf d 217 931 [a0, a1, a2, a3] [.int s0, .ref s1, .ref s2] h = if (aT (h.1 s1) = 0 ∨ aT (h.1 s1) = 10) ∧ inB s0 (aN (h.1 s1)) = true then Rf d 217 932 [a0, a1, a2, a3] [.int (aF (h.1 s1) s0.toNatClampNeg), .ref s2] h else Rx d 217 931 [a0, a1, a2, a3] [.int s0, .ref s1, .ref s2] h := ldI c217_931
theorem c217_932 : cd 217 932 = some (932, .aload_n 0, 1, []) := by decide +kernel
theorem x217_932 {d : Nat} {a1 a2 a3 : Value} {s0 : Int32} {s1 : Nat} {x : Nat} {h : AHp} : Rf d 217 932 [.ref x, a1, a2, a3] [.int s0, .ref s1] h = Rf d 217 933 [.ref x, a1, a2, a3] [.ref x, .int s0, .ref s1] h := Rf_go ((stp_of c217_932).trans rfl)
theorem c217_933 : cd 217 933 = some (933, .iload_n 3, 1, []) := by decide +kernel
theorem x217_933 {d : Nat} {a0 a1 a2 : Value} {s0 : Nat} {s1 : Int32} {s2 : Nat} {x : Int32} {h : AHp} : Rf d 217 933 [a0, a1, a2, .int x] [.ref s0, .int s1, .ref s2] h = Rf d 217 934 [a0, a1, a2, .int x] [.int x, .ref s0, .int s1, .ref s2] h := Rf_go ((stp_of c217_933).trans rfl)
theorem c217_934 : cd 217 934 = some (934, .iconst 2, 1, []) := by decide +kernel
theorem x217_934 {d : Nat} {a0 a1 a2 a3 : Value} {s0 : Int32} {s1 : Nat} {s2 : Int32} {s3 : Nat} {h : AHp} : Rf d 217 934 [a0, a1, a2, a3] [.int s0, .ref s1, .int s2, .ref s3] h = Rf d 217 935 [a0, a1, a2, a3] [.int 2, .int s0, .ref s1, .int s2, .ref s3] h := Rf_go ((stp_of c217_934).trans rfl)
theorem c217_935 : cd 217 935 = some (935, .iadd, 1, []) := by decide +kernel
theorem x217_935 {d : Nat} {a0 a1 a2 a3 : Value} {s0 : Int32} {s1 : Int32} {s2 : Nat} {s3 : Int32} {s4 : Nat} {h : AHp} : Rf d 217 935 [a0, a1, a2, a3] [.int s0, .int s1, .ref s2, .int s3, .ref s4] h = Rf d 217 936 [a0, a1, a2, a3] [.int (s1 + s0), .ref s2, .int s3, .ref s4] h := Rf_go ((stp_of c217_935).trans rfl)
theorem c217_936 : cd 217 936 = some (936, .iaload, 1, []) := by decide +kernel
theorem x217_936 {d : Nat} {a0 a1 a2 a3 : Value} {s0 : Int32} {s1 : Nat} {s2 : Int32} {s3 : Nat} {h : AHp} : Rf d 217 936 [a0, a1, a2, a3] [.int s0, .ref s1, .int s2, .ref s3] h = if (aT (h.1 s1) = 0 ∨ aT (h.1 s1) = 10) ∧ inB s0 (aN (h.1 s1)) = true then Rf d 217 937 [a0, a1, a2, a3] [.int (aF (h.1 s1) s0.toNatClampNeg), .int s2, .ref s3] h else Rx d 217 936 [a0, a1, a2, a3] [.int s0, .ref s1, .int s2, .ref s3] h := ldI c217_936
theorem c217_937 : cd 217 937 = some (937, .invokevirtual 122, 3, [(11, 124)]) := by decide +kernel
theorem xc217_937 {d : Nat} {a0 a1 a2 a3 : Value} {s0 : Int32} {s1 : Int32} {s2 : Nat} {h : AHp} {h1 : AHp} {v : Int32} (hr : cls (h.1 s2) = 11) (hq : Rf d 124 0 [.ref s2, .int s1, .int s0, noV] [] h = some (some (.int v), h1)) : Rf (d + 1) 217 937 [a0, a1, a2, a3] [.int s0, .int s1, .ref s2] h = Rf (d + 1) 217 940 [a0, a1, a2, a3] [.int v] h1 := clV (c := 124) (as := [.int s1, .int s0]) c217_937 rfl (by simp [isV]) (by rw [hr]; rfl) hq
theorem c217_940 : cd 217 940 = some (940, .aload_n 2, 1, []) := by decide +kernel
theorem x217_940 {d : Nat} {a0 a1 a3 : Value} {s0 : Int32} {x : Nat} {h : AHp} : Rf d 217 940 [a0, a1, .ref x, a3] [.int s0] h = Rf d 217 941 [a0, a1, .ref x, a3] [.ref x, .int s0] h := Rf_go ((stp_of c217_940).trans rfl)
theorem c217_941 : cd 217 941 = some (941, .aload_n 0, 1, []) := by decide +kernel
theorem x217_941 {d : Nat} {a1 a2 a3 : Value} {s0 : Nat} {s1 : Int32} {x : Nat} {h : AHp} : Rf d 217 941 [.ref x, a1, a2, a3] [.ref s0, .int s1] h = Rf d 217 942 [.ref x, a1, a2, a3] [.ref x, .ref s0, .int s1] h := Rf_go ((stp_of c217_941).trans rfl)
theorem c217_942 : cd 217 942 = some (942, .iload_n 3, 1, []) := by decide +kernel
theorem x217_942 {d : Nat} {a0 a1 a2 : Value} {s0 : Nat} {s1 : Nat} {s2 : Int32} {x : Int32} {h : AHp} : Rf d 217 942 [a0, a1, a2, .int x] [.ref s0, .ref s1, .int s2] h = Rf d 217 943 [a0, a1, a2, .int x] [.int x, .ref s0, .ref s1, .int s2] h := Rf_go ((stp_of c217_942).trans rfl)
theorem c217_943 : cd 217 943 = some (943, .iconst 1, 1, []) := by decide +kernel
theorem x217_943 {d : Nat} {a0 a1 a2 a3 : Value} {s0 : Int32} {s1 : Nat} {s2 : Nat} {s3 : Int32} {h : AHp} : Rf d 217 943 [a0, a1, a2, a3] [.int s0, .ref s1, .ref s2, .int s3] h = Rf d 217 944 [a0, a1, a2, a3] [.int 1, .int s0, .ref s1, .ref s2, .int s3] h := Rf_go ((stp_of c217_943).trans rfl)
theorem c217_944 : cd 217 944 = some (944, .iadd, 1, []) := by decide +kernel
theorem x217_944 {d : Nat} {a0 a1 a2 a3 : Value} {s0 : Int32} {s1 : Int32} {s2 : Nat} {s3 : Nat} {s4 : Int32} {h : AHp} : Rf d 217 944 [a0, a1, a2, a3] [.int s0, .int s1, .ref s2, .ref s3, .int s4] h = Rf d 217 945 [a0, a1, a2, a3] [.int (s1 + s0), .ref s2, .ref s3, .int s4] h := Rf_go ((stp_of c217_944).trans rfl)
theorem c217_945 : cd 217 945 = some (945, .iaload, 1, []) := by decide +kernel
theorem x217_945 {d : Nat} {a0 a1 a2 a3 : Value} {s0 : Int32} {s1 : Nat} {s2 : Nat} {s3 : Int32} {h : AHp} : Rf d 217 945 [a0, a1, a2, a3] [.int s0, .ref s1, .ref s2, .int s3] h = if (aT (h.1 s1) = 0 ∨ aT (h.1 s1) = 10) ∧ inB s0 (aN (h.1 s1)) = true then Rf d 217 946 [a0, a1, a2, a3] [.int (aF (h.1 s1) s0.toNatClampNeg), .ref s2, .int s3] h else Rx d 217 945 [a0, a1, a2, a3] [.int s0, .ref s1, .ref s2, .int s3] h := ldI c217_945
theorem c217_946 : cd 217 946 = some (946, .aload_n 0, 1, []) := by decide +kernel
theorem x217_946 {d : Nat} {a1 a2 a3 : Value} {s0 : Int32} {s1 : Nat} {s2 : Int32} {x : Nat} {h : AHp} : Rf d 217 946 [.ref x, a1, a2, a3] [.int s0, .ref s1, .int s2] h = Rf d 217 947 [.ref x, a1, a2, a3] [.ref x, .int s0, .ref s1, .int s2] h := Rf_go ((stp_of c217_946).trans rfl)
theorem c217_947 : cd 217 947 = some (947, .iload_n 3, 1, []) := by decide +kernel
theorem x217_947 {d : Nat} {a0 a1 a2 : Value} {s0 : Nat} {s1 : Int32} {s2 : Nat} {s3 : Int32} {x : Int32} {h : AHp} : Rf d 217 947 [a0, a1, a2, .int x] [.ref s0, .int s1, .ref s2, .int s3] h = Rf d 217 948 [a0, a1, a2, .int x] [.int x, .ref s0, .int s1, .ref s2, .int s3] h := Rf_go ((stp_of c217_947).trans rfl)
theorem c217_948 : cd 217 948 = some (948, .iconst 2, 1, []) := by decide +kernel
theorem x217_948 {d : Nat} {a0 a1 a2 a3 : Value} {s0 : Int32} {s1 : Nat} {s2 : Int32} {s3 : Nat} {s4 : Int32} {h : AHp} : Rf d 217 948 [a0, a1, a2, a3] [.int s0, .ref s1, .int s2, .ref s3, .int s4] h = Rf d 217 949 [a0, a1, a2, a3] [.int 2, .int s0, .ref s1, .int s2, .ref s3, .int s4] h := Rf_go ((stp_of c217_948).trans rfl)
theorem c217_949 : cd 217 949 = some (949, .iadd, 1, []) := by decide +kernel
theorem x217_949 {d : Nat} {a0 a1 a2 a3 : Value} {s0 : Int32} {s1 : Int32} {s2 : Nat} {s3 : Int32} {s4 : Nat} {s5 : Int32} {h : AHp} : Rf d 217 949 [a0, a1, a2, a3] [.int s0, .int s1, .ref s2, .int s3, .ref s4, .int s5] h = Rf d 217 950 [a0, a1, a2, a3] [.int (s1 + s0), .ref s2, .int s3, .ref s4, .int s5] h := Rf_go ((stp_of c217_949).trans rfl)
theorem c217_950 : cd 217 950 = some (950, .iaload, 1, []) := by decide +kernel
theorem x217_950 {d : Nat} {a0 a1 a2 a3 : Value} {s0 : Int32} {s1 : Nat} {s2 : Int32} {s3 : Nat} {s4 : Int32} {h : AHp} : Rf d 217 950 [a0, a1, a2, a3] [.int s0, .ref s1, .int s2, .ref s3, .int s4] h = if (aT (h.1 s1) = 0 ∨ aT (h.1 s1) = 10) ∧ inB s0 (aN (h.1 s1)) = true then Rf d 217 951 [a0, a1, a2, a3] [.int (aF (h.1 s1) s0.toNatClampNeg), .int s2, .ref s3, .int s4] h else Rx d 217 950 [a0, a1, a2, a3] [.int s0, .ref s1, .int s2, .ref s3, .int s4] h := ldI c217_950
theorem c217_951 : cd 217 951 = some (951, .invokevirtual 125, 3, [(12, 195)]) := by decide +kernel
theorem xc217_951 {d : Nat} {a0 a1 a2 a3 : Value} {s0 : Int32} {s1 : Int32} {s2 : Nat} {s3 : Int32} {h : AHp} {h1 : AHp} {v : Int32} (hr : cls (h.1 s2) = 12) (hq : Rf d 195 0 [.ref s2, .int s1, .int s0, noV] [] h = some (some (.int v), h1)) : Rf (d + 1) 217 951 [a0, a1, a2, a3] [.int s0, .int s1, .ref s2, .int s3] h = Rf (d + 1) 217 954 [a0, a1, a2, a3] [.int v, .int s3] h1 := clV (c := 195) (as := [.int s1, .int s0]) c217_951 rfl (by simp [isV]) (by rw [hr]; rfl) hq
theorem c217_954 : cd 217 954 = some (954, .if_icmp .eq 54, 3, [(1008, 0)]) := by decide +kernel
theorem x217_954 {d : Nat} {a0 a1 a2 a3 : Value} {s0 : Int32} {s1 : Int32} {h : AHp} : Rf d 217 954 [a0, a1, a2, a3] [.int s0, .int s1] h = if s1 = s0 then Rf d 217 1008 [a0, a1, a2, a3] [] h else Rf d 217 957 [a0, a1, a2, a3] [] h := Rf_brd ((stp_of c217_954).trans rfl)
theorem c217_957 : cd 217 957 = some (957, .iconst 0, 1, []) := by decide +kernel
theorem x217_957 {d : Nat} {a0 a1 a2 a3 : Value} {h : AHp} : Rf d 217 957 [a0, a1, a2, a3] [] h = Rf d 217 958 [a0, a1, a2, a3] [.int 0] h := Rf_go ((stp_of c217_957).trans rfl)
theorem c217_958 : cd 217 958 = some (958, .ireturn, 1, []) := by decide +kernel
theorem x217_958 {d : Nat} {a0 a1 a2 a3 : Value} {s0 : Int32} {h : AHp} : Rf d 217 958 [a0, a1, a2, a3] [.int s0] h = if retI (some .boolean) s0 = true then some (some (.int s0), h) else Rx d 217 958 [a0, a1, a2, a3] [.int s0] h := Rf_ife (fun hk => by rw [stp_of c217_958]; exact if_pos hk)
theorem c217_903 : cd 217 903 = some (903, .aload_n 1, 1, []) := by decide +kernel
theorem x217_903 {d : Nat} {a0 a2 a3 : Value} {x : Nat} {h : AHp} : Rf d 217 903 [a0, .ref x, a2, a3] [] h = Rf d 217 904 [a0, .ref x, a2, a3] [.ref x] h := Rf_go ((stp_of c217_903).trans rfl)
theorem c217_904 : cd 217 904 = some (904, .aload_n 0, 1, []) := by decide +kernel
theorem x217_904 {d : Nat} {a1 a2 a3 : Value} {s0 : Nat} {x : Nat} {h : AHp} : Rf d 217 904 [.ref x, a1, a2, a3] [.ref s0] h = Rf d 217 905 [.ref x, a1, a2, a3] [.ref x, .ref s0] h := Rf_go ((stp_of c217_904).trans rfl)
theorem c217_905 : cd 217 905 = some (905, .iload_n 3, 1, []) := by decide +kernel
theorem x217_905 {d : Nat} {a0 a1 a2 : Value} {s0 : Nat} {s1 : Nat} {x : Int32} {h : AHp} : Rf d 217 905 [a0, a1, a2, .int x] [.ref s0, .ref s1] h = Rf d 217 906 [a0, a1, a2, .int x] [.int x, .ref s0, .ref s1] h := Rf_go ((stp_of c217_905).trans rfl)
theorem c217_906 : cd 217 906 = some (906, .iconst 1, 1, []) := by decide +kernel
theorem x217_906 {d : Nat} {a0 a1 a2 a3 : Value} {s0 : Int32} {s1 : Nat} {s2 : Nat} {h : AHp} : Rf d 217 906 [a0, a1, a2, a3] [.int s0, .ref s1, .ref s2] h = Rf d 217 907 [a0, a1, a2, a3] [.int 1, .int s0, .ref s1, .ref s2] h := Rf_go ((stp_of c217_906).trans rfl)
theorem c217_907 : cd 217 907 = some (907, .iadd, 1, []) := by decide +kernel
theorem x217_907 {d : Nat} {a0 a1 a2 a3 : Value} {s0 : Int32} {s1 : Int32} {s2 : Nat} {s3 : Nat} {h : AHp} : Rf d 217 907 [a0, a1, a2, a3] [.int s0, .int s1, .ref s2, .ref s3] h = Rf d 217 908 [a0, a1, a2, a3] [.int (s1 + s0), .ref s2, .ref s3] h := Rf_go ((stp_of c217_907).trans rfl)
theorem c217_908 : cd 217 908 = some (908, .iaload, 1, []) := by decide +kernel
theorem x217_908 {d : Nat} {a0 a1 a2 a3 : Value} {s0 : Int32} {s1 : Nat} {s2 : Nat} {h : AHp} : Rf d 217 908 [a0, a1, a2, a3] [.int s0, .ref s1, .ref s2] h = if (aT (h.1 s1) = 0 ∨ aT (h.1 s1) = 10) ∧ inB s0 (aN (h.1 s1)) = true then Rf d 217 909 [a0, a1, a2, a3] [.int (aF (h.1 s1) s0.toNatClampNeg), .ref s2] h else Rx d 217 908 [a0, a1, a2, a3] [.int s0, .ref s1, .ref s2] h := ldI c217_908
theorem c217_909 : cd 217 909 = some (909, .invokevirtual 118, 3, [(11, 123)]) := by decide +kernel
theorem xc217_909 {d : Nat} {a0 a1 a2 a3 : Value} {s0 : Int32} {s1 : Nat} {h : AHp} {h1 : AHp} {v : Int32} (hr : cls (h.1 s1) = 11) (hq : Rf d 123 0 [.ref s1, .int s0] [] h = some (some (.int v), h1)) : Rf (d + 1) 217 909 [a0, a1, a2, a3] [.int s0, .ref s1] h = Rf (d + 1) 217 912 [a0, a1, a2, a3] [.int v] h1 := clV (c := 123) (as := [.int s0]) c217_909 rfl (by simp [isV]) (by rw [hr]; rfl) hq
theorem c217_912 : cd 217 912 = some (912, .aload_n 2, 1, []) := by decide +kernel
theorem x217_912 {d : Nat} {a0 a1 a3 : Value} {s0 : Int32} {x : Nat} {h : AHp} : Rf d 217 912 [a0, a1, .ref x, a3] [.int s0] h = Rf d 217 913 [a0, a1, .ref x, a3] [.ref x, .int s0] h := Rf_go ((stp_of c217_912).trans rfl)
theorem c217_913 : cd 217 913 = some (913, .aload_n 0, 1, []) := by decide +kernel
theorem x217_913 {d : Nat} {a1 a2 a3 : Value} {s0 : Nat} {s1 : Int32} {x : Nat} {h : AHp} : Rf d 217 913 [.ref x, a1, a2, a3] [.ref s0, .int s1] h = Rf d 217 914 [.ref x, a1, a2, a3] [.ref x, .ref s0, .int s1] h := Rf_go ((stp_of c217_913).trans rfl)
theorem c217_914 : cd 217 914 = some (914, .iload_n 3, 1, []) := by decide +kernel
theorem x217_914 {d : Nat} {a0 a1 a2 : Value} {s0 : Nat} {s1 : Nat} {s2 : Int32} {x : Int32} {h : AHp} : Rf d 217 914 [a0, a1, a2, .int x] [.ref s0, .ref s1, .int s2] h = Rf d 217 915 [a0, a1, a2, .int x] [.int x, .ref s0, .ref s1, .int s2] h := Rf_go ((stp_of c217_914).trans rfl)
theorem c217_915 : cd 217 915 = some (915, .iconst 1, 1, []) := by decide +kernel
theorem x217_915 {d : Nat} {a0 a1 a2 a3 : Value} {s0 : Int32} {s1 : Nat} {s2 : Nat} {s3 : Int32} {h : AHp} : Rf d 217 915 [a0, a1, a2, a3] [.int s0, .ref s1, .ref s2, .int s3] h = Rf d 217 916 [a0, a1, a2, a3] [.int 1, .int s0, .ref s1, .ref s2, .int s3] h := Rf_go ((stp_of c217_915).trans rfl)
theorem c217_916 : cd 217 916 = some (916, .iadd, 1, []) := by decide +kernel
theorem x217_916 {d : Nat} {a0 a1 a2 a3 : Value} {s0 : Int32} {s1 : Int32} {s2 : Nat} {s3 : Nat} {s4 : Int32} {h : AHp} : Rf d 217 916 [a0, a1, a2, a3] [.int s0, .int s1, .ref s2, .ref s3, .int s4] h = Rf d 217 917 [a0, a1, a2, a3] [.int (s1 + s0), .ref s2, .ref s3, .int s4] h := Rf_go ((stp_of c217_916).trans rfl)
theorem c217_917 : cd 217 917 = some (917, .iaload, 1, []) := by decide +kernel
theorem x217_917 {d : Nat} {a0 a1 a2 a3 : Value} {s0 : Int32} {s1 : Nat} {s2 : Nat} {s3 : Int32} {h : AHp} : Rf d 217 917 [a0, a1, a2, a3] [.int s0, .ref s1, .ref s2, .int s3] h = if (aT (h.1 s1) = 0 ∨ aT (h.1 s1) = 10) ∧ inB s0 (aN (h.1 s1)) = true then Rf d 217 918 [a0, a1, a2, a3] [.int (aF (h.1 s1) s0.toNatClampNeg), .ref s2, .int s3] h else Rx d 217 917 [a0, a1, a2, a3] [.int s0, .ref s1, .ref s2, .int s3] h := ldI c217_917
theorem c217_918 : cd 217 918 = some (918, .invokevirtual 121, 3, [(12, 194)]) := by decide +kernel
theorem xc217_918 {d : Nat} {a0 a1 a2 a3 : Value} {s0 : Int32} {s1 : Nat} {s2 : Int32} {h : AHp} {h1 : AHp} {v : Int32} (hr : cls (h.1 s1) = 12) (hq : Rf d 194 0 [.ref s1, .int s0] [] h = some (some (.int v), h1)) : Rf (d + 1) 217 918 [a0, a1, a2, a3] [.int s0, .ref s1, .int s2] h = Rf (d + 1) 217 921 [a0, a1, a2, a3] [.int v, .int s2] h1 := clV (c := 194) (as := [.int s0]) c217_918 rfl (by simp [isV]) (by rw [hr]; rfl) hq
theorem c217_921 : cd 217 921 = some (921, .if_icmp .eq 87, 3, [(1008, 0)]) := by decide +kernel
theorem x217_921 {d : Nat} {a0 a1 a2 a3 : Value} {s0 : Int32} {s1 : Int32} {h : AHp} : Rf d 217 921 [a0, a1, a2, a3] [.int s0, .int s1] h = if s1 = s0 then Rf d 217 1008 [a0, a1, a2, a3] [] h else Rf d 217 924 [a0, a1, a2, a3] [] h := Rf_brd ((stp_of c217_921).trans rfl)
theorem c217_924 : cd 217 924 = some (924, .iconst 0, 1, []) := by decide +kernel
theorem x217_924 {d : Nat} {a0 a1 a2 a3 : Value} {h : AHp} : Rf d 217 924 [a0, a1, a2, a3] [] h = Rf d 217 925 [a0, a1, a2, a3] [.int 0] h := Rf_go ((stp_of c217_924).trans rfl)
theorem c217_925 : cd 217 925 = some (925, .ireturn, 1, []) := by decide +kernel
theorem x217_925 {d : Nat} {a0 a1 a2 a3 : Value} {s0 : Int32} {h : AHp} : Rf d 217 925 [a0, a1, a2, a3] [.int s0] h = if retI (some .boolean) s0 = true then some (some (.int s0), h) else Rx d 217 925 [a0, a1, a2, a3] [.int s0] h := Rf_ife (fun hk => by rw [stp_of c217_925]; exact if_pos hk)
theorem c217_860 : cd 217 860 = some (860, .aload_n 1, 1, []) := by decide +kernel
theorem x217_860 {d : Nat} {a0 a2 a3 : Value} {x : Nat} {h : AHp} : Rf d 217 860 [a0, .ref x, a2, a3] [] h = Rf d 217 861 [a0, .ref x, a2, a3] [.ref x] h := Rf_go ((stp_of c217_860).trans rfl)
theorem c217_861 : cd 217 861 = some (861, .aload_n 0, 1, []) := by decide +kernel
theorem x217_861 {d : Nat} {a1 a2 a3 : Value} {s0 : Nat} {x : Nat} {h : AHp} : Rf d 217 861 [.ref x, a1, a2, a3] [.ref s0] h = Rf d 217 862 [.ref x, a1, a2, a3] [.ref x, .ref s0] h := Rf_go ((stp_of c217_861).trans rfl)
theorem c217_862 : cd 217 862 = some (862, .iload_n 3, 1, []) := by decide +kernel
theorem x217_862 {d : Nat} {a0 a1 a2 : Value} {s0 : Nat} {s1 : Nat} {x : Int32} {h : AHp} : Rf d 217 862 [a0, a1, a2, .int x] [.ref s0, .ref s1] h = Rf d 217 863 [a0, a1, a2, .int x] [.int x, .ref s0, .ref s1] h := Rf_go ((stp_of c217_862).trans rfl)
theorem c217_863 : cd 217 863 = some (863, .iconst 1, 1, []) := by decide +kernel
theorem x217_863 {d : Nat} {a0 a1 a2 a3 : Value} {s0 : Int32} {s1 : Nat} {s2 : Nat} {h : AHp} : Rf d 217 863 [a0, a1, a2, a3] [.int s0, .ref s1, .ref s2] h = Rf d 217 864 [a0, a1, a2, a3] [.int 1, .int s0, .ref s1, .ref s2] h := Rf_go ((stp_of c217_863).trans rfl)
theorem c217_864 : cd 217 864 = some (864, .iadd, 1, []) := by decide +kernel
theorem x217_864 {d : Nat} {a0 a1 a2 a3 : Value} {s0 : Int32} {s1 : Int32} {s2 : Nat} {s3 : Nat} {h : AHp} : Rf d 217 864 [a0, a1, a2, a3] [.int s0, .int s1, .ref s2, .ref s3] h = Rf d 217 865 [a0, a1, a2, a3] [.int (s1 + s0), .ref s2, .ref s3] h := Rf_go ((stp_of c217_864).trans rfl)
theorem c217_865 : cd 217 865 = some (865, .iaload, 1, []) := by decide +kernel
theorem x217_865 {d : Nat} {a0 a1 a2 a3 : Value} {s0 : Int32} {s1 : Nat} {s2 : Nat} {h : AHp} : Rf d 217 865 [a0, a1, a2, a3] [.int s0, .ref s1, .ref s2] h = if (aT (h.1 s1) = 0 ∨ aT (h.1 s1) = 10) ∧ inB s0 (aN (h.1 s1)) = true then Rf d 217 866 [a0, a1, a2, a3] [.int (aF (h.1 s1) s0.toNatClampNeg), .ref s2] h else Rx d 217 865 [a0, a1, a2, a3] [.int s0, .ref s1, .ref s2] h := ldI c217_865
theorem c217_866 : cd 217 866 = some (866, .aload_n 0, 1, []) := by decide +kernel
theorem x217_866 {d : Nat} {a1 a2 a3 : Value} {s0 : Int32} {s1 : Nat} {x : Nat} {h : AHp} : Rf d 217 866 [.ref x, a1, a2, a3] [.int s0, .ref s1] h = Rf d 217 867 [.ref x, a1, a2, a3] [.ref x, .int s0, .ref s1] h := Rf_go ((stp_of c217_866).trans rfl)
theorem c217_867 : cd 217 867 = some (867, .iload_n 3, 1, []) := by decide +kernel
theorem x217_867 {d : Nat} {a0 a1 a2 : Value} {s0 : Nat} {s1 : Int32} {s2 : Nat} {x : Int32} {h : AHp} : Rf d 217 867 [a0, a1, a2, .int x] [.ref s0, .int s1, .ref s2] h = Rf d 217 868 [a0, a1, a2, .int x] [.int x, .ref s0, .int s1, .ref s2] h := Rf_go ((stp_of c217_867).trans rfl)
theorem c217_868 : cd 217 868 = some (868, .iconst 2, 1, []) := by decide +kernel
theorem x217_868 {d : Nat} {a0 a1 a2 a3 : Value} {s0 : Int32} {s1 : Nat} {s2 : Int32} {s3 : Nat} {h : AHp} : Rf d 217 868 [a0, a1, a2, a3] [.int s0, .ref s1, .int s2, .ref s3] h = Rf d 217 869 [a0, a1, a2, a3] [.int 2, .int s0, .ref s1, .int s2, .ref s3] h := Rf_go ((stp_of c217_868).trans rfl)
theorem c217_869 : cd 217 869 = some (869, .iadd, 1, []) := by decide +kernel
theorem x217_869 {d : Nat} {a0 a1 a2 a3 : Value} {s0 : Int32} {s1 : Int32} {s2 : Nat} {s3 : Int32} {s4 : Nat} {h : AHp} : Rf d 217 869 [a0, a1, a2, a3] [.int s0, .int s1, .ref s2, .int s3, .ref s4] h = Rf d 217 870 [a0, a1, a2, a3] [.int (s1 + s0), .ref s2, .int s3, .ref s4] h := Rf_go ((stp_of c217_869).trans rfl)
theorem c217_870 : cd 217 870 = some (870, .iaload, 1, []) := by decide +kernel
theorem x217_870 {d : Nat} {a0 a1 a2 a3 : Value} {s0 : Int32} {s1 : Nat} {s2 : Int32} {s3 : Nat} {h : AHp} : Rf d 217 870 [a0, a1, a2, a3] [.int s0, .ref s1, .int s2, .ref s3] h = if (aT (h.1 s1) = 0 ∨ aT (h.1 s1) = 10) ∧ inB s0 (aN (h.1 s1)) = true then Rf d 217 871 [a0, a1, a2, a3] [.int (aF (h.1 s1) s0.toNatClampNeg), .int s2, .ref s3] h else Rx d 217 870 [a0, a1, a2, a3] [.int s0, .ref s1, .int s2, .ref s3] h := ldI c217_870
theorem c217_871 : cd 217 871 = some (871, .aload_n 0, 1, []) := by decide +kernel
theorem x217_871 {d : Nat} {a1 a2 a3 : Value} {s0 : Int32} {s1 : Int32} {s2 : Nat} {x : Nat} {h : AHp} : Rf d 217 871 [.ref x, a1, a2, a3] [.int s0, .int s1, .ref s2] h = Rf d 217 872 [.ref x, a1, a2, a3] [.ref x, .int s0, .int s1, .ref s2] h := Rf_go ((stp_of c217_871).trans rfl)
theorem c217_872 : cd 217 872 = some (872, .iload_n 3, 1, []) := by decide +kernel
theorem x217_872 {d : Nat} {a0 a1 a2 : Value} {s0 : Nat} {s1 : Int32} {s2 : Int32} {s3 : Nat} {x : Int32} {h : AHp} : Rf d 217 872 [a0, a1, a2, .int x] [.ref s0, .int s1, .int s2, .ref s3] h = Rf d 217 873 [a0, a1, a2, .int x] [.int x, .ref s0, .int s1, .int s2, .ref s3] h := Rf_go ((stp_of c217_872).trans rfl)
theorem c217_873 : cd 217 873 = some (873, .iconst 3, 1, []) := by decide +kernel
theorem x217_873 {d : Nat} {a0 a1 a2 a3 : Value} {s0 : Int32} {s1 : Nat} {s2 : Int32} {s3 : Int32} {s4 : Nat} {h : AHp} : Rf d 217 873 [a0, a1, a2, a3] [.int s0, .ref s1, .int s2, .int s3, .ref s4] h = Rf d 217 874 [a0, a1, a2, a3] [.int 3, .int s0, .ref s1, .int s2, .int s3, .ref s4] h := Rf_go ((stp_of c217_873).trans rfl)
theorem c217_874 : cd 217 874 = some (874, .iadd, 1, []) := by decide +kernel
theorem x217_874 {d : Nat} {a0 a1 a2 a3 : Value} {s0 : Int32} {s1 : Int32} {s2 : Nat} {s3 : Int32} {s4 : Int32} {s5 : Nat} {h : AHp} : Rf d 217 874 [a0, a1, a2, a3] [.int s0, .int s1, .ref s2, .int s3, .int s4, .ref s5] h = Rf d 217 875 [a0, a1, a2, a3] [.int (s1 + s0), .ref s2, .int s3, .int s4, .ref s5] h := Rf_go ((stp_of c217_874).trans rfl)
theorem c217_875 : cd 217 875 = some (875, .iaload, 1, []) := by decide +kernel
theorem x217_875 {d : Nat} {a0 a1 a2 a3 : Value} {s0 : Int32} {s1 : Nat} {s2 : Int32} {s3 : Int32} {s4 : Nat} {h : AHp} : Rf d 217 875 [a0, a1, a2, a3] [.int s0, .ref s1, .int s2, .int s3, .ref s4] h = if (aT (h.1 s1) = 0 ∨ aT (h.1 s1) = 10) ∧ inB s0 (aN (h.1 s1)) = true then Rf d 217 876 [a0, a1, a2, a3] [.int (aF (h.1 s1) s0.toNatClampNeg), .int s2, .int s3, .ref s4] h else Rx d 217 875 [a0, a1, a2, a3] [.int s0, .ref s1, .int s2, .int s3, .ref s4] h := ldI c217_875
theorem c217_876 : cd 217 876 = some (876, .invokevirtual 114, 3, [(11, 122)]) := by decide +kernel
theorem xc217_876 {d : Nat} {a0 a1 a2 a3 : Value} {s0 : Int32} {s1 : Int32} {s2 : Int32} {s3 : Nat} {h : AHp} {h1 : AHp} {v : Int32} (hr : cls (h.1 s3) = 11) (hq : Rf d 122 0 [.ref s3, .int s2, .int s1, .int s0, noV] [] h = some (some (.int v), h1)) : Rf (d + 1) 217 876 [a0, a1, a2, a3] [.int s0, .int s1, .int s2, .ref s3] h = Rf (d + 1) 217 879 [a0, a1, a2, a3] [.int v] h1 := clV (c := 122) (as := [.int s2, .int s1, .int s0]) c217_876 rfl (by simp [isV]) (by rw [hr]; rfl) hq
theorem c217_879 : cd 217 879 = some (879, .aload_n 2, 1, []) := by decide +kernel
theorem x217_879 {d : Nat} {a0 a1 a3 : Value} {s0 : Int32} {x : Nat} {h : AHp} : Rf d 217 879 [a0, a1, .ref x, a3] [.int s0] h = Rf d 217 880 [a0, a1, .ref x, a3] [.ref x, .int s0] h := Rf_go ((stp_of c217_879).trans rfl)
theorem c217_880 : cd 217 880 = some (880, .aload_n 0, 1, []) := by decide +kernel
theorem x217_880 {d : Nat} {a1 a2 a3 : Value} {s0 : Nat} {s1 : Int32} {x : Nat} {h : AHp} : Rf d 217 880 [.ref x, a1, a2, a3] [.ref s0, .int s1] h = Rf d 217 881 [.ref x, a1, a2, a3] [.ref x, .ref s0, .int s1] h := Rf_go ((stp_of c217_880).trans rfl)
theorem c217_881 : cd 217 881 = some (881, .iload_n 3, 1, []) := by decide +kernel
theorem x217_881 {d : Nat} {a0 a1 a2 : Value} {s0 : Nat} {s1 : Nat} {s2 : Int32} {x : Int32} {h : AHp} : Rf d 217 881 [a0, a1, a2, .int x] [.ref s0, .ref s1, .int s2] h = Rf d 217 882 [a0, a1, a2, .int x] [.int x, .ref s0, .ref s1, .int s2] h := Rf_go ((stp_of c217_881).trans rfl)
theorem c217_882 : cd 217 882 = some (882, .iconst 1, 1, []) := by decide +kernel
theorem x217_882 {d : Nat} {a0 a1 a2 a3 : Value} {s0 : Int32} {s1 : Nat} {s2 : Nat} {s3 : Int32} {h : AHp} : Rf d 217 882 [a0, a1, a2, a3] [.int s0, .ref s1, .ref s2, .int s3] h = Rf d 217 883 [a0, a1, a2, a3] [.int 1, .int s0, .ref s1, .ref s2, .int s3] h := Rf_go ((stp_of c217_882).trans rfl)
theorem c217_883 : cd 217 883 = some (883, .iadd, 1, []) := by decide +kernel
theorem x217_883 {d : Nat} {a0 a1 a2 a3 : Value} {s0 : Int32} {s1 : Int32} {s2 : Nat} {s3 : Nat} {s4 : Int32} {h : AHp} : Rf d 217 883 [a0, a1, a2, a3] [.int s0, .int s1, .ref s2, .ref s3, .int s4] h = Rf d 217 884 [a0, a1, a2, a3] [.int (s1 + s0), .ref s2, .ref s3, .int s4] h := Rf_go ((stp_of c217_883).trans rfl)
theorem c217_884 : cd 217 884 = some (884, .iaload, 1, []) := by decide +kernel
theorem x217_884 {d : Nat} {a0 a1 a2 a3 : Value} {s0 : Int32} {s1 : Nat} {s2 : Nat} {s3 : Int32} {h : AHp} : Rf d 217 884 [a0, a1, a2, a3] [.int s0, .ref s1, .ref s2, .int s3] h = if (aT (h.1 s1) = 0 ∨ aT (h.1 s1) = 10) ∧ inB s0 (aN (h.1 s1)) = true then Rf d 217 885 [a0, a1, a2, a3] [.int (aF (h.1 s1) s0.toNatClampNeg), .ref s2, .int s3] h else Rx d 217 884 [a0, a1, a2, a3] [.int s0, .ref s1, .ref s2, .int s3] h := ldI c217_884
theorem c217_885 : cd 217 885 = some (885, .aload_n 0, 1, []) := by decide +kernel
theorem x217_885 {d : Nat} {a1 a2 a3 : Value} {s0 : Int32} {s1 : Nat} {s2 : Int32} {x : Nat} {h : AHp} : Rf d 217 885 [.ref x, a1, a2, a3] [.int s0, .ref s1, .int s2] h = Rf d 217 886 [.ref x, a1, a2, a3] [.ref x, .int s0, .ref s1, .int s2] h := Rf_go ((stp_of c217_885).trans rfl)
theorem c217_886 : cd 217 886 = some (886, .iload_n 3, 1, []) := by decide +kernel
theorem x217_886 {d : Nat} {a0 a1 a2 : Value} {s0 : Nat} {s1 : Int32} {s2 : Nat} {s3 : Int32} {x : Int32} {h : AHp} : Rf d 217 886 [a0, a1, a2, .int x] [.ref s0, .int s1, .ref s2, .int s3] h = Rf d 217 887 [a0, a1, a2, .int x] [.int x, .ref s0, .int s1, .ref s2, .int s3] h := Rf_go ((stp_of c217_886).trans rfl)
theorem c217_887 : cd 217 887 = some (887, .iconst 2, 1, []) := by decide +kernel
theorem x217_887 {d : Nat} {a0 a1 a2 a3 : Value} {s0 : Int32} {s1 : Nat} {s2 : Int32} {s3 : Nat} {s4 : Int32} {h : AHp} : Rf d 217 887 [a0, a1, a2, a3] [.int s0, .ref s1, .int s2, .ref s3, .int s4] h = Rf d 217 888 [a0, a1, a2, a3] [.int 2, .int s0, .ref s1, .int s2, .ref s3, .int s4] h := Rf_go ((stp_of c217_887).trans rfl)
theorem c217_888 : cd 217 888 = some (888, .iadd, 1, []) := by decide +kernel
theorem x217_888 {d : Nat} {a0 a1 a2 a3 : Value} {s0 : Int32} {s1 : Int32} {s2 : Nat} {s3 : Int32} {s4 : Nat} {s5 : Int32} {h : AHp} : Rf d 217 888 [a0, a1, a2, a3] [.int s0, .int s1, .ref s2, .int s3, .ref s4, .int s5] h = Rf d 217 889 [a0, a1, a2, a3] [.int (s1 + s0), .ref s2, .int s3, .ref s4, .int s5] h := Rf_go ((stp_of c217_888).trans rfl)
theorem c217_889 : cd 217 889 = some (889, .iaload, 1, []) := by decide +kernel
theorem x217_889 {d : Nat} {a0 a1 a2 a3 : Value} {s0 : Int32} {s1 : Nat} {s2 : Int32} {s3 : Nat} {s4 : Int32} {h : AHp} : Rf d 217 889 [a0, a1, a2, a3] [.int s0, .ref s1, .int s2, .ref s3, .int s4] h = if (aT (h.1 s1) = 0 ∨ aT (h.1 s1) = 10) ∧ inB s0 (aN (h.1 s1)) = true then Rf d 217 890 [a0, a1, a2, a3] [.int (aF (h.1 s1) s0.toNatClampNeg), .int s2, .ref s3, .int s4] h else Rx d 217 889 [a0, a1, a2, a3] [.int s0, .ref s1, .int s2, .ref s3, .int s4] h := ldI c217_889
theorem c217_890 : cd 217 890 = some (890, .aload_n 0, 1, []) := by decide +kernel
theorem x217_890 {d : Nat} {a1 a2 a3 : Value} {s0 : Int32} {s1 : Int32} {s2 : Nat} {s3 : Int32} {x : Nat} {h : AHp} : Rf d 217 890 [.ref x, a1, a2, a3] [.int s0, .int s1, .ref s2, .int s3] h = Rf d 217 891 [.ref x, a1, a2, a3] [.ref x, .int s0, .int s1, .ref s2, .int s3] h := Rf_go ((stp_of c217_890).trans rfl)
theorem c217_891 : cd 217 891 = some (891, .iload_n 3, 1, []) := by decide +kernel
theorem x217_891 {d : Nat} {a0 a1 a2 : Value} {s0 : Nat} {s1 : Int32} {s2 : Int32} {s3 : Nat} {s4 : Int32} {x : Int32} {h : AHp} : Rf d 217 891 [a0, a1, a2, .int x] [.ref s0, .int s1, .int s2, .ref s3, .int s4] h = Rf d 217 892 [a0, a1, a2, .int x] [.int x, .ref s0, .int s1, .int s2, .ref s3, .int s4] h := Rf_go ((stp_of c217_891).trans rfl)
theorem c217_892 : cd 217 892 = some (892, .iconst 3, 1, []) := by decide +kernel
theorem x217_892 {d : Nat} {a0 a1 a2 a3 : Value} {s0 : Int32} {s1 : Nat} {s2 : Int32} {s3 : Int32} {s4 : Nat} {s5 : Int32} {h : AHp} : Rf d 217 892 [a0, a1, a2, a3] [.int s0, .ref s1, .int s2, .int s3, .ref s4, .int s5] h = Rf d 217 893 [a0, a1, a2, a3] [.int 3, .int s0, .ref s1, .int s2, .int s3, .ref s4, .int s5] h := Rf_go ((stp_of c217_892).trans rfl)
theorem c217_893 : cd 217 893 = some (893, .iadd, 1, []) := by decide +kernel
theorem x217_893 {d : Nat} {a0 a1 a2 a3 : Value} {s0 : Int32} {s1 : Int32} {s2 : Nat} {s3 : Int32} {s4 : Int32} {s5 : Nat} {s6 : Int32} {h : AHp} : Rf d 217 893 [a0, a1, a2, a3] [.int s0, .int s1, .ref s2, .int s3, .int s4, .ref s5, .int s6] h = Rf d 217 894 [a0, a1, a2, a3] [.int (s1 + s0), .ref s2, .int s3, .int s4, .ref s5, .int s6] h := Rf_go ((stp_of c217_893).trans rfl)
theorem c217_894 : cd 217 894 = some (894, .iaload, 1, []) := by decide +kernel
theorem x217_894 {d : Nat} {a0 a1 a2 a3 : Value} {s0 : Int32} {s1 : Nat} {s2 : Int32} {s3 : Int32} {s4 : Nat} {s5 : Int32} {h : AHp} : Rf d 217 894 [a0, a1, a2, a3] [.int s0, .ref s1, .int s2, .int s3, .ref s4, .int s5] h = if (aT (h.1 s1) = 0 ∨ aT (h.1 s1) = 10) ∧ inB s0 (aN (h.1 s1)) = true then Rf d 217 895 [a0, a1, a2, a3] [.int (aF (h.1 s1) s0.toNatClampNeg), .int s2, .int s3, .ref s4, .int s5] h else Rx d 217 894 [a0, a1, a2, a3] [.int s0, .ref s1, .int s2, .int s3, .ref s4, .int s5] h := ldI c217_894
theorem c217_895 : cd 217 895 = some (895, .invokevirtual 117, 3, [(12, 193)]) := by decide +kernel
theorem xc217_895 {d : Nat} {a0 a1 a2 a3 : Value} {s0 : Int32} {s1 : Int32} {s2 : Int32} {s3 : Nat} {s4 : Int32} {h : AHp} {h1 : AHp} {v : Int32} (hr : cls (h.1 s3) = 12) (hq : Rf d 193 0 [.ref s3, .int s2, .int s1, .int s0, noV] [] h = some (some (.int v), h1)) : Rf (d + 1) 217 895 [a0, a1, a2, a3] [.int s0, .int s1, .int s2, .ref s3, .int s4] h = Rf (d + 1) 217 898 [a0, a1, a2, a3] [.int v, .int s4] h1 := clV (c := 193) (as := [.int s2, .int s1, .int s0]) c217_895 rfl (by simp [isV]) (by rw [hr]; rfl) hq
theorem c217_898 : cd 217 898 = some (898, .if_icmp .eq 110, 3, [(1008, 0)]) := by decide +kernel
theorem x217_898 {d : Nat} {a0 a1 a2 a3 : Value} {s0 : Int32} {s1 : Int32} {h : AHp} : Rf d 217 898 [a0, a1, a2, a3] [.int s0, .int s1] h = if s1 = s0 then Rf d 217 1008 [a0, a1, a2, a3] [] h else Rf d 217 901 [a0, a1, a2, a3] [] h := Rf_brd ((stp_of c217_898).trans rfl)
theorem c217_901 : cd 217 901 = some (901, .iconst 0, 1, []) := by decide +kernel
theorem x217_901 {d : Nat} {a0 a1 a2 a3 : Value} {h : AHp} : Rf d 217 901 [a0, a1, a2, a3] [] h = Rf d 217 902 [a0, a1, a2, a3] [.int 0] h := Rf_go ((stp_of c217_901).trans rfl)
theorem c217_902 : cd 217 902 = some (902, .ireturn, 1, []) := by decide +kernel
theorem x217_902 {d : Nat} {a0 a1 a2 a3 : Value} {s0 : Int32} {h : AHp} : Rf d 217 902 [a0, a1, a2, a3] [.int s0] h = if retI (some .boolean) s0 = true then some (some (.int s0), h) else Rx d 217 902 [a0, a1, a2, a3] [.int s0] h := Rf_ife (fun hk => by rw [stp_of c217_902]; exact if_pos hk)
theorem c217_837 : cd 217 837 = some (837, .aload_n 1, 1, []) := by decide +kernel
theorem x217_837 {d : Nat} {a0 a2 a3 : Value} {x : Nat} {h : AHp} : Rf d 217 837 [a0, .ref x, a2, a3] [] h = Rf d 217 838 [a0, .ref x, a2, a3] [.ref x] h := Rf_go ((stp_of c217_837).trans rfl)
theorem c217_838 : cd 217 838 = some (838, .aload_n 0, 1, []) := by decide +kernel
theorem x217_838 {d : Nat} {a1 a2 a3 : Value} {s0 : Nat} {x : Nat} {h : AHp} : Rf d 217 838 [.ref x, a1, a2, a3] [.ref s0] h = Rf d 217 839 [.ref x, a1, a2, a3] [.ref x, .ref s0] h := Rf_go ((stp_of c217_838).trans rfl)
theorem c217_839 : cd 217 839 = some (839, .iload_n 3, 1, []) := by decide +kernel
theorem x217_839 {d : Nat} {a0 a1 a2 : Value} {s0 : Nat} {s1 : Nat} {x : Int32} {h : AHp} : Rf d 217 839 [a0, a1, a2, .int x] [.ref s0, .ref s1] h = Rf d 217 840 [a0, a1, a2, .int x] [.int x, .ref s0, .ref s1] h := Rf_go ((stp_of c217_839).trans rfl)
theorem c217_840 : cd 217 840 = some (840, .iconst 1, 1, []) := by decide +kernel
theorem x217_840 {d : Nat} {a0 a1 a2 a3 : Value} {s0 : Int32} {s1 : Nat} {s2 : Nat} {h : AHp} : Rf d 217 840 [a0, a1, a2, a3] [.int s0, .ref s1, .ref s2] h = Rf d 217 841 [a0, a1, a2, a3] [.int 1, .int s0, .ref s1, .ref s2] h := Rf_go ((stp_of c217_840).trans rfl)
theorem c217_841 : cd 217 841 = some (841, .iadd, 1, []) := by decide +kernel
theorem x217_841 {d : Nat} {a0 a1 a2 a3 : Value} {s0 : Int32} {s1 : Int32} {s2 : Nat} {s3 : Nat} {h : AHp} : Rf d 217 841 [a0, a1, a2, a3] [.int s0, .int s1, .ref s2, .ref s3] h = Rf d 217 842 [a0, a1, a2, a3] [.int (s1 + s0), .ref s2, .ref s3] h := Rf_go ((stp_of c217_841).trans rfl)
theorem c217_842 : cd 217 842 = some (842, .iaload, 1, []) := by decide +kernel
theorem x217_842 {d : Nat} {a0 a1 a2 a3 : Value} {s0 : Int32} {s1 : Nat} {s2 : Nat} {h : AHp} : Rf d 217 842 [a0, a1, a2, a3] [.int s0, .ref s1, .ref s2] h = if (aT (h.1 s1) = 0 ∨ aT (h.1 s1) = 10) ∧ inB s0 (aN (h.1 s1)) = true then Rf d 217 843 [a0, a1, a2, a3] [.int (aF (h.1 s1) s0.toNatClampNeg), .ref s2] h else Rx d 217 842 [a0, a1, a2, a3] [.int s0, .ref s1, .ref s2] h := ldI c217_842
theorem c217_843 : cd 217 843 = some (843, .invokevirtual 110, 3, [(11, 119)]) := by decide +kernel
theorem xc217_843 {d : Nat} {a0 a1 a2 a3 : Value} {s0 : Int32} {s1 : Nat} {h : AHp} {h1 : AHp} {v : Int32} (hr : cls (h.1 s1) = 11) (hq : Rf d 119 0 [.ref s1, .int s0, noV] [] h = some (some (.int v), h1)) : Rf (d + 1) 217 843 [a0, a1, a2, a3] [.int s0, .ref s1] h = Rf (d + 1) 217 846 [a0, a1, a2, a3] [.int v] h1 := clV (c := 119) (as := [.int s0]) c217_843 rfl (by simp [isV]) (by rw [hr]; rfl) hq
theorem c217_846 : cd 217 846 = some (846, .aload_n 2, 1, []) := by decide +kernel
theorem x217_846 {d : Nat} {a0 a1 a3 : Value} {s0 : Int32} {x : Nat} {h : AHp} : Rf d 217 846 [a0, a1, .ref x, a3] [.int s0] h = Rf d 217 847 [a0, a1, .ref x, a3] [.ref x, .int s0] h := Rf_go ((stp_of c217_846).trans rfl)
theorem c217_847 : cd 217 847 = some (847, .aload_n 0, 1, []) := by decide +kernel
theorem x217_847 {d : Nat} {a1 a2 a3 : Value} {s0 : Nat} {s1 : Int32} {x : Nat} {h : AHp} : Rf d 217 847 [.ref x, a1, a2, a3] [.ref s0, .int s1] h = Rf d 217 848 [.ref x, a1, a2, a3] [.ref x, .ref s0, .int s1] h := Rf_go ((stp_of c217_847).trans rfl)
theorem c217_848 : cd 217 848 = some (848, .iload_n 3, 1, []) := by decide +kernel
theorem x217_848 {d : Nat} {a0 a1 a2 : Value} {s0 : Nat} {s1 : Nat} {s2 : Int32} {x : Int32} {h : AHp} : Rf d 217 848 [a0, a1, a2, .int x] [.ref s0, .ref s1, .int s2] h = Rf d 217 849 [a0, a1, a2, .int x] [.int x, .ref s0, .ref s1, .int s2] h := Rf_go ((stp_of c217_848).trans rfl)
theorem c217_849 : cd 217 849 = some (849, .iconst 1, 1, []) := by decide +kernel
theorem x217_849 {d : Nat} {a0 a1 a2 a3 : Value} {s0 : Int32} {s1 : Nat} {s2 : Nat} {s3 : Int32} {h : AHp} : Rf d 217 849 [a0, a1, a2, a3] [.int s0, .ref s1, .ref s2, .int s3] h = Rf d 217 850 [a0, a1, a2, a3] [.int 1, .int s0, .ref s1, .ref s2, .int s3] h := Rf_go ((stp_of c217_849).trans rfl)
theorem c217_850 : cd 217 850 = some (850, .iadd, 1, []) := by decide +kernel
theorem x217_850 {d : Nat} {a0 a1 a2 a3 : Value} {s0 : Int32} {s1 : Int32} {s2 : Nat} {s3 : Nat} {s4 : Int32} {h : AHp} : Rf d 217 850 [a0, a1, a2, a3] [.int s0, .int s1, .ref s2, .ref s3, .int s4] h = Rf d 217 851 [a0, a1, a2, a3] [.int (s1 + s0), .ref s2, .ref s3, .int s4] h := Rf_go ((stp_of c217_850).trans rfl)
theorem c217_851 : cd 217 851 = some (851, .iaload, 1, []) := by decide +kernel
theorem x217_851 {d : Nat} {a0 a1 a2 a3 : Value} {s0 : Int32} {s1 : Nat} {s2 : Nat} {s3 : Int32} {h : AHp} : Rf d 217 851 [a0, a1, a2, a3] [.int s0, .ref s1, .ref s2, .int s3] h = if (aT (h.1 s1) = 0 ∨ aT (h.1 s1) = 10) ∧ inB s0 (aN (h.1 s1)) = true then Rf d 217 852 [a0, a1, a2, a3] [.int (aF (h.1 s1) s0.toNatClampNeg), .ref s2, .int s3] h else Rx d 217 851 [a0, a1, a2, a3] [.int s0, .ref s1, .ref s2, .int s3] h := ldI c217_851
theorem c217_852 : cd 217 852 = some (852, .invokevirtual 113, 3, [(12, 187)]) := by decide +kernel
theorem xc217_852 {d : Nat} {a0 a1 a2 a3 : Value} {s0 : Int32} {s1 : Nat} {s2 : Int32} {h : AHp} {h1 : AHp} {v : Int32} (hr : cls (h.1 s1) = 12) (hq : Rf d 187 0 [.ref s1, .int s0, noV, noV, noV, noV] [] h = some (some (.int v), h1)) : Rf (d + 1) 217 852 [a0, a1, a2, a3] [.int s0, .ref s1, .int s2] h = Rf (d + 1) 217 855 [a0, a1, a2, a3] [.int v, .int s2] h1 := clV (c := 187) (as := [.int s0]) c217_852 rfl (by simp [isV]) (by rw [hr]; rfl) hq
theorem c217_855 : cd 217 855 = some (855, .if_icmp .eq 153, 3, [(1008, 0)]) := by decide +kernel
theorem x217_855 {d : Nat} {a0 a1 a2 a3 : Value} {s0 : Int32} {s1 : Int32} {h : AHp} : Rf d 217 855 [a0, a1, a2, a3] [.int s0, .int s1] h = if s1 = s0 then Rf d 217 1008 [a0, a1, a2, a3] [] h else Rf d 217 858 [a0, a1, a2, a3] [] h := Rf_brd ((stp_of c217_855).trans rfl)
theorem c217_858 : cd 217 858 = some (858, .iconst 0, 1, []) := by decide +kernel
theorem x217_858 {d : Nat} {a0 a1 a2 a3 : Value} {h : AHp} : Rf d 217 858 [a0, a1, a2, a3] [] h = Rf d 217 859 [a0, a1, a2, a3] [.int 0] h := Rf_go ((stp_of c217_858).trans rfl)
theorem c217_859 : cd 217 859 = some (859, .ireturn, 1, []) := by decide +kernel
theorem x217_859 {d : Nat} {a0 a1 a2 a3 : Value} {s0 : Int32} {h : AHp} : Rf d 217 859 [a0, a1, a2, a3] [.int s0] h = if retI (some .boolean) s0 = true then some (some (.int s0), h) else Rx d 217 859 [a0, a1, a2, a3] [.int s0] h := Rf_ife (fun hk => by rw [stp_of c217_859]; exact if_pos hk)
theorem c217_814 : cd 217 814 = some (814, .aload_n 1, 1, []) := by decide +kernel
theorem x217_814 {d : Nat} {a0 a2 a3 : Value} {x : Nat} {h : AHp} : Rf d 217 814 [a0, .ref x, a2, a3] [] h = Rf d 217 815 [a0, .ref x, a2, a3] [.ref x] h := Rf_go ((stp_of c217_814).trans rfl)
theorem c217_815 : cd 217 815 = some (815, .aload_n 0, 1, []) := by decide +kernel
theorem x217_815 {d : Nat} {a1 a2 a3 : Value} {s0 : Nat} {x : Nat} {h : AHp} : Rf d 217 815 [.ref x, a1, a2, a3] [.ref s0] h = Rf d 217 816 [.ref x, a1, a2, a3] [.ref x, .ref s0] h := Rf_go ((stp_of c217_815).trans rfl)
theorem c217_816 : cd 217 816 = some (816, .iload_n 3, 1, []) := by decide +kernel
theorem x217_816 {d : Nat} {a0 a1 a2 : Value} {s0 : Nat} {s1 : Nat} {x : Int32} {h : AHp} : Rf d 217 816 [a0, a1, a2, .int x] [.ref s0, .ref s1] h = Rf d 217 817 [a0, a1, a2, .int x] [.int x, .ref s0, .ref s1] h := Rf_go ((stp_of c217_816).trans rfl)
theorem c217_817 : cd 217 817 = some (817, .iconst 1, 1, []) := by decide +kernel
theorem x217_817 {d : Nat} {a0 a1 a2 a3 : Value} {s0 : Int32} {s1 : Nat} {s2 : Nat} {h : AHp} : Rf d 217 817 [a0, a1, a2, a3] [.int s0, .ref s1, .ref s2] h = Rf d 217 818 [a0, a1, a2, a3] [.int 1, .int s0, .ref s1, .ref s2] h := Rf_go ((stp_of c217_817).trans rfl)
theorem c217_818 : cd 217 818 = some (818, .iadd, 1, []) := by decide +kernel
theorem x217_818 {d : Nat} {a0 a1 a2 a3 : Value} {s0 : Int32} {s1 : Int32} {s2 : Nat} {s3 : Nat} {h : AHp} : Rf d 217 818 [a0, a1, a2, a3] [.int s0, .int s1, .ref s2, .ref s3] h = Rf d 217 819 [a0, a1, a2, a3] [.int (s1 + s0), .ref s2, .ref s3] h := Rf_go ((stp_of c217_818).trans rfl)
theorem c217_819 : cd 217 819 = some (819, .iaload, 1, []) := by decide +kernel
theorem x217_819 {d : Nat} {a0 a1 a2 a3 : Value} {s0 : Int32} {s1 : Nat} {s2 : Nat} {h : AHp} : Rf d 217 819 [a0, a1, a2, a3] [.int s0, .ref s1, .ref s2] h = if (aT (h.1 s1) = 0 ∨ aT (h.1 s1) = 10) ∧ inB s0 (aN (h.1 s1)) = true then Rf d 217 820 [a0, a1, a2, a3] [.int (aF (h.1 s1) s0.toNatClampNeg), .ref s2] h else Rx d 217 819 [a0, a1, a2, a3] [.int s0, .ref s1, .ref s2] h := ldI c217_819
theorem c217_820 : cd 217 820 = some (820, .invokevirtual 106, 3, [(11, 118)]) := by decide +kernel
theorem xc217_820 {d : Nat} {a0 a1 a2 a3 : Value} {s0 : Int32} {s1 : Nat} {h : AHp} {h1 : AHp} {v : Int32} (hr : cls (h.1 s1) = 11) (hq : Rf d 118 0 [.ref s1, .int s0] [] h = some (some (.int v), h1)) : Rf (d + 1) 217 820 [a0, a1, a2, a3] [.int s0, .ref s1] h = Rf (d + 1) 217 823 [a0, a1, a2, a3] [.int v] h1 := clV (c := 118) (as := [.int s0]) c217_820 rfl (by simp [isV]) (by rw [hr]; rfl) hq
theorem c217_823 : cd 217 823 = some (823, .aload_n 2, 1, []) := by decide +kernel
theorem x217_823 {d : Nat} {a0 a1 a3 : Value} {s0 : Int32} {x : Nat} {h : AHp} : Rf d 217 823 [a0, a1, .ref x, a3] [.int s0] h = Rf d 217 824 [a0, a1, .ref x, a3] [.ref x, .int s0] h := Rf_go ((stp_of c217_823).trans rfl)
theorem c217_824 : cd 217 824 = some (824, .aload_n 0, 1, []) := by decide +kernel
theorem x217_824 {d : Nat} {a1 a2 a3 : Value} {s0 : Nat} {s1 : Int32} {x : Nat} {h : AHp} : Rf d 217 824 [.ref x, a1, a2, a3] [.ref s0, .int s1] h = Rf d 217 825 [.ref x, a1, a2, a3] [.ref x, .ref s0, .int s1] h := Rf_go ((stp_of c217_824).trans rfl)
theorem c217_825 : cd 217 825 = some (825, .iload_n 3, 1, []) := by decide +kernel
theorem x217_825 {d : Nat} {a0 a1 a2 : Value} {s0 : Nat} {s1 : Nat} {s2 : Int32} {x : Int32} {h : AHp} : Rf d 217 825 [a0, a1, a2, .int x] [.ref s0, .ref s1, .int s2] h = Rf d 217 826 [a0, a1, a2, .int x] [.int x, .ref s0, .ref s1, .int s2] h := Rf_go ((stp_of c217_825).trans rfl)
theorem c217_826 : cd 217 826 = some (826, .iconst 1, 1, []) := by decide +kernel
theorem x217_826 {d : Nat} {a0 a1 a2 a3 : Value} {s0 : Int32} {s1 : Nat} {s2 : Nat} {s3 : Int32} {h : AHp} : Rf d 217 826 [a0, a1, a2, a3] [.int s0, .ref s1, .ref s2, .int s3] h = Rf d 217 827 [a0, a1, a2, a3] [.int 1, .int s0, .ref s1, .ref s2, .int s3] h := Rf_go ((stp_of c217_826).trans rfl)
theorem c217_827 : cd 217 827 = some (827, .iadd, 1, []) := by decide +kernel
theorem x217_827 {d : Nat} {a0 a1 a2 a3 : Value} {s0 : Int32} {s1 : Int32} {s2 : Nat} {s3 : Nat} {s4 : Int32} {h : AHp} : Rf d 217 827 [a0, a1, a2, a3] [.int s0, .int s1, .ref s2, .ref s3, .int s4] h = Rf d 217 828 [a0, a1, a2, a3] [.int (s1 + s0), .ref s2, .ref s3, .int s4] h := Rf_go ((stp_of c217_827).trans rfl)
theorem c217_828 : cd 217 828 = some (828, .iaload, 1, []) := by decide +kernel
theorem x217_828 {d : Nat} {a0 a1 a2 a3 : Value} {s0 : Int32} {s1 : Nat} {s2 : Nat} {s3 : Int32} {h : AHp} : Rf d 217 828 [a0, a1, a2, a3] [.int s0, .ref s1, .ref s2, .int s3] h = if (aT (h.1 s1) = 0 ∨ aT (h.1 s1) = 10) ∧ inB s0 (aN (h.1 s1)) = true then Rf d 217 829 [a0, a1, a2, a3] [.int (aF (h.1 s1) s0.toNatClampNeg), .ref s2, .int s3] h else Rx d 217 828 [a0, a1, a2, a3] [.int s0, .ref s1, .ref s2, .int s3] h := ldI c217_828
theorem c217_829 : cd 217 829 = some (829, .invokevirtual 109, 3, [(12, 186)]) := by decide +kernel
theorem xc217_829 {d : Nat} {a0 a1 a2 a3 : Value} {s0 : Int32} {s1 : Nat} {s2 : Int32} {h : AHp} {h1 : AHp} {v : Int32} (hr : cls (h.1 s1) = 12) (hq : Rf d 186 0 [.ref s1, .int s0] [] h = some (some (.int v), h1)) : Rf (d + 1) 217 829 [a0, a1, a2, a3] [.int s0, .ref s1, .int s2] h = Rf (d + 1) 217 832 [a0, a1, a2, a3] [.int v, .int s2] h1 := clV (c := 186) (as := [.int s0]) c217_829 rfl (by simp [isV]) (by rw [hr]; rfl) hq
theorem c217_832 : cd 217 832 = some (832, .if_icmp .eq 176, 3, [(1008, 0)]) := by decide +kernel
theorem x217_832 {d : Nat} {a0 a1 a2 a3 : Value} {s0 : Int32} {s1 : Int32} {h : AHp} : Rf d 217 832 [a0, a1, a2, a3] [.int s0, .int s1] h = if s1 = s0 then Rf d 217 1008 [a0, a1, a2, a3] [] h else Rf d 217 835 [a0, a1, a2, a3] [] h := Rf_brd ((stp_of c217_832).trans rfl)
theorem c217_835 : cd 217 835 = some (835, .iconst 0, 1, []) := by decide +kernel
theorem x217_835 {d : Nat} {a0 a1 a2 a3 : Value} {h : AHp} : Rf d 217 835 [a0, a1, a2, a3] [] h = Rf d 217 836 [a0, a1, a2, a3] [.int 0] h := Rf_go ((stp_of c217_835).trans rfl)
theorem c217_836 : cd 217 836 = some (836, .ireturn, 1, []) := by decide +kernel
theorem x217_836 {d : Nat} {a0 a1 a2 a3 : Value} {s0 : Int32} {h : AHp} : Rf d 217 836 [a0, a1, a2, a3] [.int s0] h = if retI (some .boolean) s0 = true then some (some (.int s0), h) else Rx d 217 836 [a0, a1, a2, a3] [.int s0] h := Rf_ife (fun hk => by rw [stp_of c217_836]; exact if_pos hk)
theorem c217_791 : cd 217 791 = some (791, .aload_n 1, 1, []) := by decide +kernel
theorem x217_791 {d : Nat} {a0 a2 a3 : Value} {x : Nat} {h : AHp} : Rf d 217 791 [a0, .ref x, a2, a3] [] h = Rf d 217 792 [a0, .ref x, a2, a3] [.ref x] h := Rf_go ((stp_of c217_791).trans rfl)
theorem c217_792 : cd 217 792 = some (792, .aload_n 0, 1, []) := by decide +kernel
theorem x217_792 {d : Nat} {a1 a2 a3 : Value} {s0 : Nat} {x : Nat} {h : AHp} : Rf d 217 792 [.ref x, a1, a2, a3] [.ref s0] h = Rf d 217 793 [.ref x, a1, a2, a3] [.ref x, .ref s0] h := Rf_go ((stp_of c217_792).trans rfl)
theorem c217_793 : cd 217 793 = some (793, .iload_n 3, 1, []) := by decide +kernel
theorem x217_793 {d : Nat} {a0 a1 a2 : Value} {s0 : Nat} {s1 : Nat} {x : Int32} {h : AHp} : Rf d 217 793 [a0, a1, a2, .int x] [.ref s0, .ref s1] h = Rf d 217 794 [a0, a1, a2, .int x] [.int x, .ref s0, .ref s1] h := Rf_go ((stp_of c217_793).trans rfl)
theorem c217_794 : cd 217 794 = some (794, .iconst 1, 1, []) := by decide +kernel
theorem x217_794 {d : Nat} {a0 a1 a2 a3 : Value} {s0 : Int32} {s1 : Nat} {s2 : Nat} {h : AHp} : Rf d 217 794 [a0, a1, a2, a3] [.int s0, .ref s1, .ref s2] h = Rf d 217 795 [a0, a1, a2, a3] [.int 1, .int s0, .ref s1, .ref s2] h := Rf_go ((stp_of c217_794).trans rfl)
theorem c217_795 : cd 217 795 = some (795, .iadd, 1, []) := by decide +kernel
theorem x217_795 {d : Nat} {a0 a1 a2 a3 : Value} {s0 : Int32} {s1 : Int32} {s2 : Nat} {s3 : Nat} {h : AHp} : Rf d 217 795 [a0, a1, a2, a3] [.int s0, .int s1, .ref s2, .ref s3] h = Rf d 217 796 [a0, a1, a2, a3] [.int (s1 + s0), .ref s2, .ref s3] h := Rf_go ((stp_of c217_795).trans rfl)
theorem c217_796 : cd 217 796 = some (796, .iaload, 1, []) := by decide +kernel
theorem x217_796 {d : Nat} {a0 a1 a2 a3 : Value} {s0 : Int32} {s1 : Nat} {s2 : Nat} {h : AHp} : Rf d 217 796 [a0, a1, a2, a3] [.int s0, .ref s1, .ref s2] h = if (aT (h.1 s1) = 0 ∨ aT (h.1 s1) = 10) ∧ inB s0 (aN (h.1 s1)) = true then Rf d 217 797 [a0, a1, a2, a3] [.int (aF (h.1 s1) s0.toNatClampNeg), .ref s2] h else Rx d 217 796 [a0, a1, a2, a3] [.int s0, .ref s1, .ref s2] h := ldI c217_796
theorem c217_797 : cd 217 797 = some (797, .invokevirtual 102, 3, [(11, 117)]) := by decide +kernel
theorem xc217_797 {d : Nat} {a0 a1 a2 a3 : Value} {s0 : Int32} {s1 : Nat} {h : AHp} {h1 : AHp} {v : Int32} (hr : cls (h.1 s1) = 11) (hq : Rf d 117 0 [.ref s1, .int s0] [] h = some (some (.int v), h1)) : Rf (d + 1) 217 797 [a0, a1, a2, a3] [.int s0, .ref s1] h = Rf (d + 1) 217 800 [a0, a1, a2, a3] [.int v] h1 := clV (c := 117) (as := [.int s0]) c217_797 rfl (by simp [isV]) (by rw [hr]; rfl) hq
theorem c217_800 : cd 217 800 = some (800, .aload_n 2, 1, []) := by decide +kernel
theorem x217_800 {d : Nat} {a0 a1 a3 : Value} {s0 : Int32} {x : Nat} {h : AHp} : Rf d 217 800 [a0, a1, .ref x, a3] [.int s0] h = Rf d 217 801 [a0, a1, .ref x, a3] [.ref x, .int s0] h := Rf_go ((stp_of c217_800).trans rfl)
theorem c217_801 : cd 217 801 = some (801, .aload_n 0, 1, []) := by decide +kernel
theorem x217_801 {d : Nat} {a1 a2 a3 : Value} {s0 : Nat} {s1 : Int32} {x : Nat} {h : AHp} : Rf d 217 801 [.ref x, a1, a2, a3] [.ref s0, .int s1] h = Rf d 217 802 [.ref x, a1, a2, a3] [.ref x, .ref s0, .int s1] h := Rf_go ((stp_of c217_801).trans rfl)
theorem c217_802 : cd 217 802 = some (802, .iload_n 3, 1, []) := by decide +kernel
theorem x217_802 {d : Nat} {a0 a1 a2 : Value} {s0 : Nat} {s1 : Nat} {s2 : Int32} {x : Int32} {h : AHp} : Rf d 217 802 [a0, a1, a2, .int x] [.ref s0, .ref s1, .int s2] h = Rf d 217 803 [a0, a1, a2, .int x] [.int x, .ref s0, .ref s1, .int s2] h := Rf_go ((stp_of c217_802).trans rfl)
theorem c217_803 : cd 217 803 = some (803, .iconst 1, 1, []) := by decide +kernel
theorem x217_803 {d : Nat} {a0 a1 a2 a3 : Value} {s0 : Int32} {s1 : Nat} {s2 : Nat} {s3 : Int32} {h : AHp} : Rf d 217 803 [a0, a1, a2, a3] [.int s0, .ref s1, .ref s2, .int s3] h = Rf d 217 804 [a0, a1, a2, a3] [.int 1, .int s0, .ref s1, .ref s2, .int s3] h := Rf_go ((stp_of c217_803).trans rfl)
theorem c217_804 : cd 217 804 = some (804, .iadd, 1, []) := by decide +kernel
theorem x217_804 {d : Nat} {a0 a1 a2 a3 : Value} {s0 : Int32} {s1 : Int32} {s2 : Nat} {s3 : Nat} {s4 : Int32} {h : AHp} : Rf d 217 804 [a0, a1, a2, a3] [.int s0, .int s1, .ref s2, .ref s3, .int s4] h = Rf d 217 805 [a0, a1, a2, a3] [.int (s1 + s0), .ref s2, .ref s3, .int s4] h := Rf_go ((stp_of c217_804).trans rfl)
theorem c217_805 : cd 217 805 = some (805, .iaload, 1, []) := by decide +kernel
theorem x217_805 {d : Nat} {a0 a1 a2 a3 : Value} {s0 : Int32} {s1 : Nat} {s2 : Nat} {s3 : Int32} {h : AHp} : Rf d 217 805 [a0, a1, a2, a3] [.int s0, .ref s1, .ref s2, .int s3] h = if (aT (h.1 s1) = 0 ∨ aT (h.1 s1) = 10) ∧ inB s0 (aN (h.1 s1)) = true then Rf d 217 806 [a0, a1, a2, a3] [.int (aF (h.1 s1) s0.toNatClampNeg), .ref s2, .int s3] h else Rx d 217 805 [a0, a1, a2, a3] [.int s0, .ref s1, .ref s2, .int s3] h := ldI c217_805
theorem c217_806 : cd 217 806 = some (806, .invokevirtual 105, 3, [(12, 185)]) := by decide +kernel
theorem xc217_806 {d : Nat} {a0 a1 a2 a3 : Value} {s0 : Int32} {s1 : Nat} {s2 : Int32} {h : AHp} {h1 : AHp} {v : Int32} (hr : cls (h.1 s1) = 12) (hq : Rf d 185 0 [.ref s1, .int s0, noV, noV, noV] [] h = some (some (.int v), h1)) : Rf (d + 1) 217 806 [a0, a1, a2, a3] [.int s0, .ref s1, .int s2] h = Rf (d + 1) 217 809 [a0, a1, a2, a3] [.int v, .int s2] h1 := clV (c := 185) (as := [.int s0]) c217_806 rfl (by simp [isV]) (by rw [hr]; rfl) hq
theorem c217_809 : cd 217 809 = some (809, .if_icmp .eq 199, 3, [(1008, 0)]) := by decide +kernel
theorem x217_809 {d : Nat} {a0 a1 a2 a3 : Value} {s0 : Int32} {s1 : Int32} {h : AHp} : Rf d 217 809 [a0, a1, a2, a3] [.int s0, .int s1] h = if s1 = s0 then Rf d 217 1008 [a0, a1, a2, a3] [] h else Rf d 217 812 [a0, a1, a2, a3] [] h := Rf_brd ((stp_of c217_809).trans rfl)
theorem c217_812 : cd 217 812 = some (812, .iconst 0, 1, []) := by decide +kernel
theorem x217_812 {d : Nat} {a0 a1 a2 a3 : Value} {h : AHp} : Rf d 217 812 [a0, a1, a2, a3] [] h = Rf d 217 813 [a0, a1, a2, a3] [.int 0] h := Rf_go ((stp_of c217_812).trans rfl)
theorem c217_813 : cd 217 813 = some (813, .ireturn, 1, []) := by decide +kernel
theorem x217_813 {d : Nat} {a0 a1 a2 a3 : Value} {s0 : Int32} {h : AHp} : Rf d 217 813 [a0, a1, a2, a3] [.int s0] h = if retI (some .boolean) s0 = true then some (some (.int s0), h) else Rx d 217 813 [a0, a1, a2, a3] [.int s0] h := Rf_ife (fun hk => by rw [stp_of c217_813]; exact if_pos hk)
theorem c217_758 : cd 217 758 = some (758, .aload_n 1, 1, []) := by decide +kernel
theorem x217_758 {d : Nat} {a0 a2 a3 : Value} {x : Nat} {h : AHp} : Rf d 217 758 [a0, .ref x, a2, a3] [] h = Rf d 217 759 [a0, .ref x, a2, a3] [.ref x] h := Rf_go ((stp_of c217_758).trans rfl)
theorem c217_759 : cd 217 759 = some (759, .aload_n 0, 1, []) := by decide +kernel
theorem x217_759 {d : Nat} {a1 a2 a3 : Value} {s0 : Nat} {x : Nat} {h : AHp} : Rf d 217 759 [.ref x, a1, a2, a3] [.ref s0] h = Rf d 217 760 [.ref x, a1, a2, a3] [.ref x, .ref s0] h := Rf_go ((stp_of c217_759).trans rfl)
theorem c217_760 : cd 217 760 = some (760, .iload_n 3, 1, []) := by decide +kernel
theorem x217_760 {d : Nat} {a0 a1 a2 : Value} {s0 : Nat} {s1 : Nat} {x : Int32} {h : AHp} : Rf d 217 760 [a0, a1, a2, .int x] [.ref s0, .ref s1] h = Rf d 217 761 [a0, a1, a2, .int x] [.int x, .ref s0, .ref s1] h := Rf_go ((stp_of c217_760).trans rfl)
theorem c217_761 : cd 217 761 = some (761, .iconst 1, 1, []) := by decide +kernel
theorem x217_761 {d : Nat} {a0 a1 a2 a3 : Value} {s0 : Int32} {s1 : Nat} {s2 : Nat} {h : AHp} : Rf d 217 761 [a0, a1, a2, a3] [.int s0, .ref s1, .ref s2] h = Rf d 217 762 [a0, a1, a2, a3] [.int 1, .int s0, .ref s1, .ref s2] h := Rf_go ((stp_of c217_761).trans rfl)
theorem c217_762 : cd 217 762 = some (762, .iadd, 1, []) := by decide +kernel
theorem x217_762 {d : Nat} {a0 a1 a2 a3 : Value} {s0 : Int32} {s1 : Int32} {s2 : Nat} {s3 : Nat} {h : AHp} : Rf d 217 762 [a0, a1, a2, a3] [.int s0, .int s1, .ref s2, .ref s3] h = Rf d 217 763 [a0, a1, a2, a3] [.int (s1 + s0), .ref s2, .ref s3] h := Rf_go ((stp_of c217_762).trans rfl)
theorem c217_763 : cd 217 763 = some (763, .iaload, 1, []) := by decide +kernel
theorem x217_763 {d : Nat} {a0 a1 a2 a3 : Value} {s0 : Int32} {s1 : Nat} {s2 : Nat} {h : AHp} : Rf d 217 763 [a0, a1, a2, a3] [.int s0, .ref s1, .ref s2] h = if (aT (h.1 s1) = 0 ∨ aT (h.1 s1) = 10) ∧ inB s0 (aN (h.1 s1)) = true then Rf d 217 764 [a0, a1, a2, a3] [.int (aF (h.1 s1) s0.toNatClampNeg), .ref s2] h else Rx d 217 763 [a0, a1, a2, a3] [.int s0, .ref s1, .ref s2] h := ldI c217_763
theorem c217_764 : cd 217 764 = some (764, .aload_n 0, 1, []) := by decide +kernel
theorem x217_764 {d : Nat} {a1 a2 a3 : Value} {s0 : Int32} {s1 : Nat} {x : Nat} {h : AHp} : Rf d 217 764 [.ref x, a1, a2, a3] [.int s0, .ref s1] h = Rf d 217 765 [.ref x, a1, a2, a3] [.ref x, .int s0, .ref s1] h := Rf_go ((stp_of c217_764).trans rfl)
theorem c217_765 : cd 217 765 = some (765, .iload_n 3, 1, []) := by decide +kernel
theorem x217_765 {d : Nat} {a0 a1 a2 : Value} {s0 : Nat} {s1 : Int32} {s2 : Nat} {x : Int32} {h : AHp} : Rf d 217 765 [a0, a1, a2, .int x] [.ref s0, .int s1, .ref s2] h = Rf d 217 766 [a0, a1, a2, .int x] [.int x, .ref s0, .int s1, .ref s2] h := Rf_go ((stp_of c217_765).trans rfl)
theorem c217_766 : cd 217 766 = some (766, .iconst 2, 1, []) := by decide +kernel
theorem x217_766 {d : Nat} {a0 a1 a2 a3 : Value} {s0 : Int32} {s1 : Nat} {s2 : Int32} {s3 : Nat} {h : AHp} : Rf d 217 766 [a0, a1, a2, a3] [.int s0, .ref s1, .int s2, .ref s3] h = Rf d 217 767 [a0, a1, a2, a3] [.int 2, .int s0, .ref s1, .int s2, .ref s3] h := Rf_go ((stp_of c217_766).trans rfl)
theorem c217_767 : cd 217 767 = some (767, .iadd, 1, []) := by decide +kernel
theorem x217_767 {d : Nat} {a0 a1 a2 a3 : Value} {s0 : Int32} {s1 : Int32} {s2 : Nat} {s3 : Int32} {s4 : Nat} {h : AHp} : Rf d 217 767 [a0, a1, a2, a3] [.int s0, .int s1, .ref s2, .int s3, .ref s4] h = Rf d 217 768 [a0, a1, a2, a3] [.int (s1 + s0), .ref s2, .int s3, .ref s4] h := Rf_go ((stp_of c217_767).trans rfl)
theorem c217_768 : cd 217 768 = some (768, .iaload, 1, []) := by decide +kernel
theorem x217_768 {d : Nat} {a0 a1 a2 a3 : Value} {s0 : Int32} {s1 : Nat} {s2 : Int32} {s3 : Nat} {h : AHp} : Rf d 217 768 [a0, a1, a2, a3] [.int s0, .ref s1, .int s2, .ref s3] h = if (aT (h.1 s1) = 0 ∨ aT (h.1 s1) = 10) ∧ inB s0 (aN (h.1 s1)) = true then Rf d 217 769 [a0, a1, a2, a3] [.int (aF (h.1 s1) s0.toNatClampNeg), .int s2, .ref s3] h else Rx d 217 768 [a0, a1, a2, a3] [.int s0, .ref s1, .int s2, .ref s3] h := ldI c217_768
theorem c217_769 : cd 217 769 = some (769, .invokevirtual 98, 3, [(11, 116)]) := by decide +kernel
theorem xc217_769 {d : Nat} {a0 a1 a2 a3 : Value} {s0 : Int32} {s1 : Int32} {s2 : Nat} {h : AHp} {h1 : AHp} {v : Int32} (hr : cls (h.1 s2) = 11) (hq : Rf d 116 0 [.ref s2, .int s1, .int s0] [] h = some (some (.int v), h1)) : Rf (d + 1) 217 769 [a0, a1, a2, a3] [.int s0, .int s1, .ref s2] h = Rf (d + 1) 217 772 [a0, a1, a2, a3] [.int v] h1 := clV (c := 116) (as := [.int s1, .int s0]) c217_769 rfl (by simp [isV]) (by rw [hr]; rfl) hq
theorem c217_772 : cd 217 772 = some (772, .aload_n 2, 1, []) := by decide +kernel
theorem x217_772 {d : Nat} {a0 a1 a3 : Value} {s0 : Int32} {x : Nat} {h : AHp} : Rf d 217 772 [a0, a1, .ref x, a3] [.int s0] h = Rf d 217 773 [a0, a1, .ref x, a3] [.ref x, .int s0] h := Rf_go ((stp_of c217_772).trans rfl)
theorem c217_773 : cd 217 773 = some (773, .aload_n 0, 1, []) := by decide +kernel
theorem x217_773 {d : Nat} {a1 a2 a3 : Value} {s0 : Nat} {s1 : Int32} {x : Nat} {h : AHp} : Rf d 217 773 [.ref x, a1, a2, a3] [.ref s0, .int s1] h = Rf d 217 774 [.ref x, a1, a2, a3] [.ref x, .ref s0, .int s1] h := Rf_go ((stp_of c217_773).trans rfl)
theorem c217_774 : cd 217 774 = some (774, .iload_n 3, 1, []) := by decide +kernel
theorem x217_774 {d : Nat} {a0 a1 a2 : Value} {s0 : Nat} {s1 : Nat} {s2 : Int32} {x : Int32} {h : AHp} : Rf d 217 774 [a0, a1, a2, .int x] [.ref s0, .ref s1, .int s2] h = Rf d 217 775 [a0, a1, a2, .int x] [.int x, .ref s0, .ref s1, .int s2] h := Rf_go ((stp_of c217_774).trans rfl)
theorem c217_775 : cd 217 775 = some (775, .iconst 1, 1, []) := by decide +kernel
theorem x217_775 {d : Nat} {a0 a1 a2 a3 : Value} {s0 : Int32} {s1 : Nat} {s2 : Nat} {s3 : Int32} {h : AHp} : Rf d 217 775 [a0, a1, a2, a3] [.int s0, .ref s1, .ref s2, .int s3] h = Rf d 217 776 [a0, a1, a2, a3] [.int 1, .int s0, .ref s1, .ref s2, .int s3] h := Rf_go ((stp_of c217_775).trans rfl)
theorem c217_776 : cd 217 776 = some (776, .iadd, 1, []) := by decide +kernel
theorem x217_776 {d : Nat} {a0 a1 a2 a3 : Value} {s0 : Int32} {s1 : Int32} {s2 : Nat} {s3 : Nat} {s4 : Int32} {h : AHp} : Rf d 217 776 [a0, a1, a2, a3] [.int s0, .int s1, .ref s2, .ref s3, .int s4] h = Rf d 217 777 [a0, a1, a2, a3] [.int (s1 + s0), .ref s2, .ref s3, .int s4] h := Rf_go ((stp_of c217_776).trans rfl)
theorem c217_777 : cd 217 777 = some (777, .iaload, 1, []) := by decide +kernel
theorem x217_777 {d : Nat} {a0 a1 a2 a3 : Value} {s0 : Int32} {s1 : Nat} {s2 : Nat} {s3 : Int32} {h : AHp} : Rf d 217 777 [a0, a1, a2, a3] [.int s0, .ref s1, .ref s2, .int s3] h = if (aT (h.1 s1) = 0 ∨ aT (h.1 s1) = 10) ∧ inB s0 (aN (h.1 s1)) = true then Rf d 217 778 [a0, a1, a2, a3] [.int (aF (h.1 s1) s0.toNatClampNeg), .ref s2, .int s3] h else Rx d 217 777 [a0, a1, a2, a3] [.int s0, .ref s1, .ref s2, .int s3] h := ldI c217_777
theorem c217_778 : cd 217 778 = some (778, .aload_n 0, 1, []) := by decide +kernel
theorem x217_778 {d : Nat} {a1 a2 a3 : Value} {s0 : Int32} {s1 : Nat} {s2 : Int32} {x : Nat} {h : AHp} : Rf d 217 778 [.ref x, a1, a2, a3] [.int s0, .ref s1, .int s2] h = Rf d 217 779 [.ref x, a1, a2, a3] [.ref x, .int s0, .ref s1, .int s2] h := Rf_go ((stp_of c217_778).trans rfl)
theorem c217_779 : cd 217 779 = some (779, .iload_n 3, 1, []) := by decide +kernel
theorem x217_779 {d : Nat} {a0 a1 a2 : Value} {s0 : Nat} {s1 : Int32} {s2 : Nat} {s3 : Int32} {x : Int32} {h : AHp} : Rf d 217 779 [a0, a1, a2, .int x] [.ref s0, .int s1, .ref s2, .int s3] h = Rf d 217 780 [a0, a1, a2, .int x] [.int x, .ref s0, .int s1, .ref s2, .int s3] h := Rf_go ((stp_of c217_779).trans rfl)
theorem c217_780 : cd 217 780 = some (780, .iconst 2, 1, []) := by decide +kernel
theorem x217_780 {d : Nat} {a0 a1 a2 a3 : Value} {s0 : Int32} {s1 : Nat} {s2 : Int32} {s3 : Nat} {s4 : Int32} {h : AHp} : Rf d 217 780 [a0, a1, a2, a3] [.int s0, .ref s1, .int s2, .ref s3, .int s4] h = Rf d 217 781 [a0, a1, a2, a3] [.int 2, .int s0, .ref s1, .int s2, .ref s3, .int s4] h := Rf_go ((stp_of c217_780).trans rfl)
theorem c217_781 : cd 217 781 = some (781, .iadd, 1, []) := by decide +kernel
theorem x217_781 {d : Nat} {a0 a1 a2 a3 : Value} {s0 : Int32} {s1 : Int32} {s2 : Nat} {s3 : Int32} {s4 : Nat} {s5 : Int32} {h : AHp} : Rf d 217 781 [a0, a1, a2, a3] [.int s0, .int s1, .ref s2, .int s3, .ref s4, .int s5] h = Rf d 217 782 [a0, a1, a2, a3] [.int (s1 + s0), .ref s2, .int s3, .ref s4, .int s5] h := Rf_go ((stp_of c217_781).trans rfl)
theorem c217_782 : cd 217 782 = some (782, .iaload, 1, []) := by decide +kernel
theorem x217_782 {d : Nat} {a0 a1 a2 a3 : Value} {s0 : Int32} {s1 : Nat} {s2 : Int32} {s3 : Nat} {s4 : Int32} {h : AHp} : Rf d 217 782 [a0, a1, a2, a3] [.int s0, .ref s1, .int s2, .ref s3, .int s4] h = if (aT (h.1 s1) = 0 ∨ aT (h.1 s1) = 10) ∧ inB s0 (aN (h.1 s1)) = true then Rf d 217 783 [a0, a1, a2, a3] [.int (aF (h.1 s1) s0.toNatClampNeg), .int s2, .ref s3, .int s4] h else Rx d 217 782 [a0, a1, a2, a3] [.int s0, .ref s1, .int s2, .ref s3, .int s4] h := ldI c217_782
theorem c217_783 : cd 217 783 = some (783, .invokevirtual 101, 3, [(12, 184)]) := by decide +kernel
theorem xc217_783 {d : Nat} {a0 a1 a2 a3 : Value} {s0 : Int32} {s1 : Int32} {s2 : Nat} {s3 : Int32} {h : AHp} {h1 : AHp} {v : Int32} (hr : cls (h.1 s2) = 12) (hq : Rf d 184 0 [.ref s2, .int s1, .int s0] [] h = some (some (.int v), h1)) : Rf (d + 1) 217 783 [a0, a1, a2, a3] [.int s0, .int s1, .ref s2, .int s3] h = Rf (d + 1) 217 786 [a0, a1, a2, a3] [.int v, .int s3] h1 := clV (c := 184) (as := [.int s1, .int s0]) c217_783 rfl (by simp [isV]) (by rw [hr]; rfl) hq
theorem c217_786 : cd 217 786 = some (786, .if_icmp .eq 222, 3, [(1008, 0)]) := by decide +kernel
theorem x217_786 {d : Nat} {a0 a1 a2 a3 : Value} {s0 : Int32} {s1 : Int32} {h : AHp} : Rf d 217 786 [a0, a1, a2, a3] [.int s0, .int s1] h = if s1 = s0 then Rf d 217 1008 [a0, a1, a2, a3] [] h else Rf d 217 789 [a0, a1, a2, a3] [] h := Rf_brd ((stp_of c217_786).trans rfl)
theorem c217_789 : cd 217 789 = some (789, .iconst 0, 1, []) := by decide +kernel
theorem x217_789 {d : Nat} {a0 a1 a2 a3 : Value} {h : AHp} : Rf d 217 789 [a0, a1, a2, a3] [] h = Rf d 217 790 [a0, a1, a2, a3] [.int 0] h := Rf_go ((stp_of c217_789).trans rfl)
theorem c217_790 : cd 217 790 = some (790, .ireturn, 1, []) := by decide +kernel
theorem x217_790 {d : Nat} {a0 a1 a2 a3 : Value} {s0 : Int32} {h : AHp} : Rf d 217 790 [a0, a1, a2, a3] [.int s0] h = if retI (some .boolean) s0 = true then some (some (.int s0), h) else Rx d 217 790 [a0, a1, a2, a3] [.int s0] h := Rf_ife (fun hk => by rw [stp_of c217_790]; exact if_pos hk)
theorem c217_745 : cd 217 745 = some (745, .aload_n 1, 1, []) := by decide +kernel
theorem x217_745 {d : Nat} {a0 a2 a3 : Value} {x : Nat} {h : AHp} : Rf d 217 745 [a0, .ref x, a2, a3] [] h = Rf d 217 746 [a0, .ref x, a2, a3] [.ref x] h := Rf_go ((stp_of c217_745).trans rfl)
theorem c217_746 : cd 217 746 = some (746, .invokevirtual 94, 3, [(11, 115)]) := by decide +kernel
theorem xc217_746 {d : Nat} {a0 a1 a2 a3 : Value} {s0 : Nat} {h : AHp} {h1 : AHp} {v : Int32} (hr : cls (h.1 s0) = 11) (hq : Rf d 115 0 [.ref s0, noV] [] h = some (some (.int v), h1)) : Rf (d + 1) 217 746 [a0, a1, a2, a3] [.ref s0] h = Rf (d + 1) 217 749 [a0, a1, a2, a3] [.int v] h1 := clV (c := 115) (as := []) c217_746 rfl (by simp [isV]) (by rw [hr]; rfl) hq
theorem c217_749 : cd 217 749 = some (749, .aload_n 2, 1, []) := by decide +kernel
theorem x217_749 {d : Nat} {a0 a1 a3 : Value} {s0 : Int32} {x : Nat} {h : AHp} : Rf d 217 749 [a0, a1, .ref x, a3] [.int s0] h = Rf d 217 750 [a0, a1, .ref x, a3] [.ref x, .int s0] h := Rf_go ((stp_of c217_749).trans rfl)
theorem c217_750 : cd 217 750 = some (750, .invokevirtual 97, 3, [(12, 182)]) := by decide +kernel
theorem xc217_750 {d : Nat} {a0 a1 a2 a3 : Value} {s0 : Nat} {s1 : Int32} {h : AHp} {h1 : AHp} {v : Int32} (hr : cls (h.1 s0) = 12) (hq : Rf d 182 0 [.ref s0, noV] [] h = some (some (.int v), h1)) : Rf (d + 1) 217 750 [a0, a1, a2, a3] [.ref s0, .int s1] h = Rf (d + 1) 217 753 [a0, a1, a2, a3] [.int v, .int s1] h1 := clV (c := 182) (as := []) c217_750 rfl (by simp [isV]) (by rw [hr]; rfl) hq
theorem c217_753 : cd 217 753 = some (753, .if_icmp .eq 255, 3, [(1008, 0)]) := by decide +kernel
theorem x217_753 {d : Nat} {a0 a1 a2 a3 : Value} {s0 : Int32} {s1 : Int32} {h : AHp} : Rf d 217 753 [a0, a1, a2, a3] [.int s0, .int s1] h = if s1 = s0 then Rf d 217 1008 [a0, a1, a2, a3] [] h else Rf d 217 756 [a0, a1, a2, a3] [] h := Rf_brd ((stp_of c217_753).trans rfl)
theorem c217_756 : cd 217 756 = some (756, .iconst 0, 1, []) := by decide +kernel
theorem x217_756 {d : Nat} {a0 a1 a2 a3 : Value} {h : AHp} : Rf d 217 756 [a0, a1, a2, a3] [] h = Rf d 217 757 [a0, a1, a2, a3] [.int 0] h := Rf_go ((stp_of c217_756).trans rfl)
theorem c217_757 : cd 217 757 = some (757, .ireturn, 1, []) := by decide +kernel
theorem x217_757 {d : Nat} {a0 a1 a2 a3 : Value} {s0 : Int32} {h : AHp} : Rf d 217 757 [a0, a1, a2, a3] [.int s0] h = if retI (some .boolean) s0 = true then some (some (.int s0), h) else Rx d 217 757 [a0, a1, a2, a3] [.int s0] h := Rf_ife (fun hk => by rw [stp_of c217_757]; exact if_pos hk)
theorem c217_702 : cd 217 702 = some (702, .aload_n 1, 1, []) := by decide +kernel
theorem x217_702 {d : Nat} {a0 a2 a3 : Value} {x : Nat} {h : AHp} : Rf d 217 702 [a0, .ref x, a2, a3] [] h = Rf d 217 703 [a0, .ref x, a2, a3] [.ref x] h := Rf_go ((stp_of c217_702).trans rfl)
theorem c217_703 : cd 217 703 = some (703, .aload_n 0, 1, []) := by decide +kernel
theorem x217_703 {d : Nat} {a1 a2 a3 : Value} {s0 : Nat} {x : Nat} {h : AHp} : Rf d 217 703 [.ref x, a1, a2, a3] [.ref s0] h = Rf d 217 704 [.ref x, a1, a2, a3] [.ref x, .ref s0] h := Rf_go ((stp_of c217_703).trans rfl)
theorem c217_704 : cd 217 704 = some (704, .iload_n 3, 1, []) := by decide +kernel
theorem x217_704 {d : Nat} {a0 a1 a2 : Value} {s0 : Nat} {s1 : Nat} {x : Int32} {h : AHp} : Rf d 217 704 [a0, a1, a2, .int x] [.ref s0, .ref s1] h = Rf d 217 705 [a0, a1, a2, .int x] [.int x, .ref s0, .ref s1] h := Rf_go ((stp_of c217_704).trans rfl)
theorem c217_705 : cd 217 705 = some (705, .iconst 1, 1, []) := by decide +kernel
theorem x217_705 {d : Nat} {a0 a1 a2 a3 : Value} {s0 : Int32} {s1 : Nat} {s2 : Nat} {h : AHp} : Rf d 217 705 [a0, a1, a2, a3] [.int s0, .ref s1, .ref s2] h = Rf d 217 706 [a0, a1, a2, a3] [.int 1, .int s0, .ref s1, .ref s2] h := Rf_go ((stp_of c217_705).trans rfl)
theorem c217_706 : cd 217 706 = some (706, .iadd, 1, []) := by decide +kernel
theorem x217_706 {d : Nat} {a0 a1 a2 a3 : Value} {s0 : Int32} {s1 : Int32} {s2 : Nat} {s3 : Nat} {h : AHp} : Rf d 217 706 [a0, a1, a2, a3] [.int s0, .int s1, .ref s2, .ref s3] h = Rf d 217 707 [a0, a1, a2, a3] [.int (s1 + s0), .ref s2, .ref s3] h := Rf_go ((stp_of c217_706).trans rfl)
theorem c217_707 : cd 217 707 = some (707, .iaload, 1, []) := by decide +kernel
theorem x217_707 {d : Nat} {a0 a1 a2 a3 : Value} {s0 : Int32} {s1 : Nat} {s2 : Nat} {h : AHp} : Rf d 217 707 [a0, a1, a2, a3] [.int s0, .ref s1, .ref s2] h = if (aT (h.1 s1) = 0 ∨ aT (h.1 s1) = 10) ∧ inB s0 (aN (h.1 s1)) = true then Rf d 217 708 [a0, a1, a2, a3] [.int (aF (h.1 s1) s0.toNatClampNeg), .ref s2] h else Rx d 217 707 [a0, a1, a2, a3] [.int s0, .ref s1, .ref s2] h := ldI c217_707
theorem c217_708 : cd 217 708 = some (708, .aload_n 0, 1, []) := by decide +kernel
theorem x217_708 {d : Nat} {a1 a2 a3 : Value} {s0 : Int32} {s1 : Nat} {x : Nat} {h : AHp} : Rf d 217 708 [.ref x, a1, a2, a3] [.int s0, .ref s1] h = Rf d 217 709 [.ref x, a1, a2, a3] [.ref x, .int s0, .ref s1] h := Rf_go ((stp_of c217_708).trans rfl)
theorem c217_709 : cd 217 709 = some (709, .iload_n 3, 1, []) := by decide +kernel
theorem x217_709 {d : Nat} {a0 a1 a2 : Value} {s0 : Nat} {s1 : Int32} {s2 : Nat} {x : Int32} {h : AHp} : Rf d 217 709 [a0, a1, a2, .int x] [.ref s0, .int s1, .ref s2] h = Rf d 217 710 [a0, a1, a2, .int x] [.int x, .ref s0, .int s1, .ref s2] h := Rf_go ((stp_of c217_709).trans rfl)
theorem c217_710 : cd 217 710 = some (710, .iconst 2, 1, []) := by decide +kernel
theorem x217_710 {d : Nat} {a0 a1 a2 a3 : Value} {s0 : Int32} {s1 : Nat} {s2 : Int32} {s3 : Nat} {h : AHp} : Rf d 217 710 [a0, a1, a2, a3] [.int s0, .ref s1, .int s2, .ref s3] h = Rf d 217 711 [a0, a1, a2, a3] [.int 2, .int s0, .ref s1, .int s2, .ref s3] h := Rf_go ((stp_of c217_710).trans rfl)
theorem c217_711 : cd 217 711 = some (711, .iadd, 1, []) := by decide +kernel
theorem x217_711 {d : Nat} {a0 a1 a2 a3 : Value} {s0 : Int32} {s1 : Int32} {s2 : Nat} {s3 : Int32} {s4 : Nat} {h : AHp} : Rf d 217 711 [a0, a1, a2, a3] [.int s0, .int s1, .ref s2, .int s3, .ref s4] h = Rf d 217 712 [a0, a1, a2, a3] [.int (s1 + s0), .ref s2, .int s3, .ref s4] h := Rf_go ((stp_of c217_711).trans rfl)
theorem c217_712 : cd 217 712 = some (712, .iaload, 1, []) := by decide +kernel
theorem x217_712 {d : Nat} {a0 a1 a2 a3 : Value} {s0 : Int32} {s1 : Nat} {s2 : Int32} {s3 : Nat} {h : AHp} : Rf d 217 712 [a0, a1, a2, a3] [.int s0, .ref s1, .int s2, .ref s3] h = if (aT (h.1 s1) = 0 ∨ aT (h.1 s1) = 10) ∧ inB s0 (aN (h.1 s1)) = true then Rf d 217 713 [a0, a1, a2, a3] [.int (aF (h.1 s1) s0.toNatClampNeg), .int s2, .ref s3] h else Rx d 217 712 [a0, a1, a2, a3] [.int s0, .ref s1, .int s2, .ref s3] h := ldI c217_712
theorem c217_713 : cd 217 713 = some (713, .aload_n 0, 1, []) := by decide +kernel
theorem x217_713 {d : Nat} {a1 a2 a3 : Value} {s0 : Int32} {s1 : Int32} {s2 : Nat} {x : Nat} {h : AHp} : Rf d 217 713 [.ref x, a1, a2, a3] [.int s0, .int s1, .ref s2] h = Rf d 217 714 [.ref x, a1, a2, a3] [.ref x, .int s0, .int s1, .ref s2] h := Rf_go ((stp_of c217_713).trans rfl)
theorem c217_714 : cd 217 714 = some (714, .iload_n 3, 1, []) := by decide +kernel
theorem x217_714 {d : Nat} {a0 a1 a2 : Value} {s0 : Nat} {s1 : Int32} {s2 : Int32} {s3 : Nat} {x : Int32} {h : AHp} : Rf d 217 714 [a0, a1, a2, .int x] [.ref s0, .int s1, .int s2, .ref s3] h = Rf d 217 715 [a0, a1, a2, .int x] [.int x, .ref s0, .int s1, .int s2, .ref s3] h := Rf_go ((stp_of c217_714).trans rfl)
theorem c217_715 : cd 217 715 = some (715, .iconst 3, 1, []) := by decide +kernel
theorem x217_715 {d : Nat} {a0 a1 a2 a3 : Value} {s0 : Int32} {s1 : Nat} {s2 : Int32} {s3 : Int32} {s4 : Nat} {h : AHp} : Rf d 217 715 [a0, a1, a2, a3] [.int s0, .ref s1, .int s2, .int s3, .ref s4] h = Rf d 217 716 [a0, a1, a2, a3] [.int 3, .int s0, .ref s1, .int s2, .int s3, .ref s4] h := Rf_go ((stp_of c217_715).trans rfl)
theorem c217_716 : cd 217 716 = some (716, .iadd, 1, []) := by decide +kernel
theorem x217_716 {d : Nat} {a0 a1 a2 a3 : Value} {s0 : Int32} {s1 : Int32} {s2 : Nat} {s3 : Int32} {s4 : Int32} {s5 : Nat} {h : AHp} : Rf d 217 716 [a0, a1, a2, a3] [.int s0, .int s1, .ref s2, .int s3, .int s4, .ref s5] h = Rf d 217 717 [a0, a1, a2, a3] [.int (s1 + s0), .ref s2, .int s3, .int s4, .ref s5] h := Rf_go ((stp_of c217_716).trans rfl)
theorem c217_717 : cd 217 717 = some (717, .iaload, 1, []) := by decide +kernel
theorem x217_717 {d : Nat} {a0 a1 a2 a3 : Value} {s0 : Int32} {s1 : Nat} {s2 : Int32} {s3 : Int32} {s4 : Nat} {h : AHp} : Rf d 217 717 [a0, a1, a2, a3] [.int s0, .ref s1, .int s2, .int s3, .ref s4] h = if (aT (h.1 s1) = 0 ∨ aT (h.1 s1) = 10) ∧ inB s0 (aN (h.1 s1)) = true then Rf d 217 718 [a0, a1, a2, a3] [.int (aF (h.1 s1) s0.toNatClampNeg), .int s2, .int s3, .ref s4] h else Rx d 217 717 [a0, a1, a2, a3] [.int s0, .ref s1, .int s2, .int s3, .ref s4] h := ldI c217_717
theorem c217_718 : cd 217 718 = some (718, .invokevirtual 90, 3, [(11, 114)]) := by decide +kernel
theorem xc217_718 {d : Nat} {a0 a1 a2 a3 : Value} {s0 : Int32} {s1 : Int32} {s2 : Int32} {s3 : Nat} {h : AHp} {h1 : AHp} {v : Int32} (hr : cls (h.1 s3) = 11) (hq : Rf d 114 0 [.ref s3, .int s2, .int s1, .int s0] [] h = some (some (.int v), h1)) : Rf (d + 1) 217 718 [a0, a1, a2, a3] [.int s0, .int s1, .int s2, .ref s3] h = Rf (d + 1) 217 721 [a0, a1, a2, a3] [.int v] h1 := clV (c := 114) (as := [.int s2, .int s1, .int s0]) c217_718 rfl (by simp [isV]) (by rw [hr]; rfl) hq
theorem c217_721 : cd 217 721 = some (721, .aload_n 2, 1, []) := by decide +kernel
theorem x217_721 {d : Nat} {a0 a1 a3 : Value} {s0 : Int32} {x : Nat} {h : AHp} : Rf d 217 721 [a0, a1, .ref x, a3] [.int s0] h = Rf d 217 722 [a0, a1, .ref x, a3] [.ref x, .int s0] h := Rf_go ((stp_of c217_721).trans rfl)
theorem c217_722 : cd 217 722 = some (722, .aload_n 0, 1, []) := by decide +kernel
theorem x217_722 {d : Nat} {a1 a2 a3 : Value} {s0 : Nat} {s1 : Int32} {x : Nat} {h : AHp} : Rf d 217 722 [.ref x, a1, a2, a3] [.ref s0, .int s1] h = Rf d 217 723 [.ref x, a1, a2, a3] [.ref x, .ref s0, .int s1] h := Rf_go ((stp_of c217_722).trans rfl)
theorem c217_723 : cd 217 723 = some (723, .iload_n 3, 1, []) := by decide +kernel
theorem x217_723 {d : Nat} {a0 a1 a2 : Value} {s0 : Nat} {s1 : Nat} {s2 : Int32} {x : Int32} {h : AHp} : Rf d 217 723 [a0, a1, a2, .int x] [.ref s0, .ref s1, .int s2] h = Rf d 217 724 [a0, a1, a2, .int x] [.int x, .ref s0, .ref s1, .int s2] h := Rf_go ((stp_of c217_723).trans rfl)
theorem c217_724 : cd 217 724 = some (724, .iconst 1, 1, []) := by decide +kernel
theorem x217_724 {d : Nat} {a0 a1 a2 a3 : Value} {s0 : Int32} {s1 : Nat} {s2 : Nat} {s3 : Int32} {h : AHp} : Rf d 217 724 [a0, a1, a2, a3] [.int s0, .ref s1, .ref s2, .int s3] h = Rf d 217 725 [a0, a1, a2, a3] [.int 1, .int s0, .ref s1, .ref s2, .int s3] h := Rf_go ((stp_of c217_724).trans rfl)
theorem c217_725 : cd 217 725 = some (725, .iadd, 1, []) := by decide +kernel
theorem x217_725 {d : Nat} {a0 a1 a2 a3 : Value} {s0 : Int32} {s1 : Int32} {s2 : Nat} {s3 : Nat} {s4 : Int32} {h : AHp} : Rf d 217 725 [a0, a1, a2, a3] [.int s0, .int s1, .ref s2, .ref s3, .int s4] h = Rf d 217 726 [a0, a1, a2, a3] [.int (s1 + s0), .ref s2, .ref s3, .int s4] h := Rf_go ((stp_of c217_725).trans rfl)
theorem c217_726 : cd 217 726 = some (726, .iaload, 1, []) := by decide +kernel
theorem x217_726 {d : Nat} {a0 a1 a2 a3 : Value} {s0 : Int32} {s1 : Nat} {s2 : Nat} {s3 : Int32} {h : AHp} : Rf d 217 726 [a0, a1, a2, a3] [.int s0, .ref s1, .ref s2, .int s3] h = if (aT (h.1 s1) = 0 ∨ aT (h.1 s1) = 10) ∧ inB s0 (aN (h.1 s1)) = true then Rf d 217 727 [a0, a1, a2, a3] [.int (aF (h.1 s1) s0.toNatClampNeg), .ref s2, .int s3] h else Rx d 217 726 [a0, a1, a2, a3] [.int s0, .ref s1, .ref s2, .int s3] h := ldI c217_726
theorem c217_727 : cd 217 727 = some (727, .aload_n 0, 1, []) := by decide +kernel
theorem x217_727 {d : Nat} {a1 a2 a3 : Value} {s0 : Int32} {s1 : Nat} {s2 : Int32} {x : Nat} {h : AHp} : Rf d 217 727 [.ref x, a1, a2, a3] [.int s0, .ref s1, .int s2] h = Rf d 217 728 [.ref x, a1, a2, a3] [.ref x, .int s0, .ref s1, .int s2] h := Rf_go ((stp_of c217_727).trans rfl)
theorem c217_728 : cd 217 728 = some (728, .iload_n 3, 1, []) := by decide +kernel
theorem x217_728 {d : Nat} {a0 a1 a2 : Value} {s0 : Nat} {s1 : Int32} {s2 : Nat} {s3 : Int32} {x : Int32} {h : AHp} : Rf d 217 728 [a0, a1, a2, .int x] [.ref s0, .int s1, .ref s2, .int s3] h = Rf d 217 729 [a0, a1, a2, .int x] [.int x, .ref s0, .int s1, .ref s2, .int s3] h := Rf_go ((stp_of c217_728).trans rfl)
theorem c217_729 : cd 217 729 = some (729, .iconst 2, 1, []) := by decide +kernel
theorem x217_729 {d : Nat} {a0 a1 a2 a3 : Value} {s0 : Int32} {s1 : Nat} {s2 : Int32} {s3 : Nat} {s4 : Int32} {h : AHp} : Rf d 217 729 [a0, a1, a2, a3] [.int s0, .ref s1, .int s2, .ref s3, .int s4] h = Rf d 217 730 [a0, a1, a2, a3] [.int 2, .int s0, .ref s1, .int s2, .ref s3, .int s4] h := Rf_go ((stp_of c217_729).trans rfl)
theorem c217_730 : cd 217 730 = some (730, .iadd, 1, []) := by decide +kernel
theorem x217_730 {d : Nat} {a0 a1 a2 a3 : Value} {s0 : Int32} {s1 : Int32} {s2 : Nat} {s3 : Int32} {s4 : Nat} {s5 : Int32} {h : AHp} : Rf d 217 730 [a0, a1, a2, a3] [.int s0, .int s1, .ref s2, .int s3, .ref s4, .int s5] h = Rf d 217 731 [a0, a1, a2, a3] [.int (s1 + s0), .ref s2, .int s3, .ref s4, .int s5] h := Rf_go ((stp_of c217_730).trans rfl)
theorem c217_731 : cd 217 731 = some (731, .iaload, 1, []) := by decide +kernel
theorem x217_731 {d : Nat} {a0 a1 a2 a3 : Value} {s0 : Int32} {s1 : Nat} {s2 : Int32} {s3 : Nat} {s4 : Int32} {h : AHp} : Rf d 217 731 [a0, a1, a2, a3] [.int s0, .ref s1, .int s2, .ref s3, .int s4] h = if (aT (h.1 s1) = 0 ∨ aT (h.1 s1) = 10) ∧ inB s0 (aN (h.1 s1)) = true then Rf d 217 732 [a0, a1, a2, a3] [.int (aF (h.1 s1) s0.toNatClampNeg), .int s2, .ref s3, .int s4] h else Rx d 217 731 [a0, a1, a2, a3] [.int s0, .ref s1, .int s2, .ref s3, .int s4] h := ldI c217_731
theorem c217_732 : cd 217 732 = some (732, .aload_n 0, 1, []) := by decide +kernel
theorem x217_732 {d : Nat} {a1 a2 a3 : Value} {s0 : Int32} {s1 : Int32} {s2 : Nat} {s3 : Int32} {x : Nat} {h : AHp} : Rf d 217 732 [.ref x, a1, a2, a3] [.int s0, .int s1, .ref s2, .int s3] h = Rf d 217 733 [.ref x, a1, a2, a3] [.ref x, .int s0, .int s1, .ref s2, .int s3] h := Rf_go ((stp_of c217_732).trans rfl)
theorem c217_733 : cd 217 733 = some (733, .iload_n 3, 1, []) := by decide +kernel
theorem x217_733 {d : Nat} {a0 a1 a2 : Value} {s0 : Nat} {s1 : Int32} {s2 : Int32} {s3 : Nat} {s4 : Int32} {x : Int32} {h : AHp} : Rf d 217 733 [a0, a1, a2, .int x] [.ref s0, .int s1, .int s2, .ref s3, .int s4] h = Rf d 217 734 [a0, a1, a2, .int x] [.int x, .ref s0, .int s1, .int s2, .ref s3, .int s4] h := Rf_go ((stp_of c217_733).trans rfl)
theorem c217_734 : cd 217 734 = some (734, .iconst 3, 1, []) := by decide +kernel
theorem x217_734 {d : Nat} {a0 a1 a2 a3 : Value} {s0 : Int32} {s1 : Nat} {s2 : Int32} {s3 : Int32} {s4 : Nat} {s5 : Int32} {h : AHp} : Rf d 217 734 [a0, a1, a2, a3] [.int s0, .ref s1, .int s2, .int s3, .ref s4, .int s5] h = Rf d 217 735 [a0, a1, a2, a3] [.int 3, .int s0, .ref s1, .int s2, .int s3, .ref s4, .int s5] h := Rf_go ((stp_of c217_734).trans rfl)
theorem c217_735 : cd 217 735 = some (735, .iadd, 1, []) := by decide +kernel
theorem x217_735 {d : Nat} {a0 a1 a2 a3 : Value} {s0 : Int32} {s1 : Int32} {s2 : Nat} {s3 : Int32} {s4 : Int32} {s5 : Nat} {s6 : Int32} {h : AHp} : Rf d 217 735 [a0, a1, a2, a3] [.int s0, .int s1, .ref s2, .int s3, .int s4, .ref s5, .int s6] h = Rf d 217 736 [a0, a1, a2, a3] [.int (s1 + s0), .ref s2, .int s3, .int s4, .ref s5, .int s6] h := Rf_go ((stp_of c217_735).trans rfl)
theorem c217_736 : cd 217 736 = some (736, .iaload, 1, []) := by decide +kernel
theorem x217_736 {d : Nat} {a0 a1 a2 a3 : Value} {s0 : Int32} {s1 : Nat} {s2 : Int32} {s3 : Int32} {s4 : Nat} {s5 : Int32} {h : AHp} : Rf d 217 736 [a0, a1, a2, a3] [.int s0, .ref s1, .int s2, .int s3, .ref s4, .int s5] h = if (aT (h.1 s1) = 0 ∨ aT (h.1 s1) = 10) ∧ inB s0 (aN (h.1 s1)) = true then Rf d 217 737 [a0, a1, a2, a3] [.int (aF (h.1 s1) s0.toNatClampNeg), .int s2, .int s3, .ref s4, .int s5] h else Rx d 217 736 [a0, a1, a2, a3] [.int s0, .ref s1, .int s2, .int s3, .ref s4, .int s5] h := ldI c217_736
theorem c217_737 : cd 217 737 = some (737, .invokevirtual 93, 3, [(12, 181)]) := by decide +kernel
theorem xc217_737 {d : Nat} {a0 a1 a2 a3 : Value} {s0 : Int32} {s1 : Int32} {s2 : Int32} {s3 : Nat} {s4 : Int32} {h : AHp} {h1 : AHp} {v : Int32} (hr : cls (h.1 s3) = 12) (hq : Rf d 181 0 [.ref s3, .int s2, .int s1, .int s0, noV] [] h = some (some (.int v), h1)) : Rf (d + 1) 217 737 [a0, a1, a2, a3] [.int s0, .int s1, .int s2, .ref s3, .int s4] h = Rf (d + 1) 217 740 [a0, a1, a2, a3] [.int v, .int s4] h1 := clV (c := 181) (as := [.int s2, .int s1, .int s0]) c217_737 rfl (by simp [isV]) (by rw [hr]; rfl) hq
theorem c217_740 : cd 217 740 = some (740, .if_icmp .eq 268, 3, [(1008, 0)]) := by decide +kernel
theorem x217_740 {d : Nat} {a0 a1 a2 a3 : Value} {s0 : Int32} {s1 : Int32} {h : AHp} : Rf d 217 740 [a0, a1, a2, a3] [.int s0, .int s1] h = if s1 = s0 then Rf d 217 1008 [a0, a1, a2, a3] [] h else Rf d 217 743 [a0, a1, a2, a3] [] h := Rf_brd ((stp_of c217_740).trans rfl)
theorem c217_743 : cd 217 743 = some (743, .iconst 0, 1, []) := by decide +kernel
theorem x217_743 {d : Nat} {a0 a1 a2 a3 : Value} {h : AHp} : Rf d 217 743 [a0, a1, a2, a3] [] h = Rf d 217 744 [a0, a1, a2, a3] [.int 0] h := Rf_go ((stp_of c217_743).trans rfl)
theorem c217_744 : cd 217 744 = some (744, .ireturn, 1, []) := by decide +kernel
theorem x217_744 {d : Nat} {a0 a1 a2 a3 : Value} {s0 : Int32} {h : AHp} : Rf d 217 744 [a0, a1, a2, a3] [.int s0] h = if retI (some .boolean) s0 = true then some (some (.int s0), h) else Rx d 217 744 [a0, a1, a2, a3] [.int s0] h := Rf_ife (fun hk => by rw [stp_of c217_744]; exact if_pos hk)
theorem c217_679 : cd 217 679 = some (679, .aload_n 1, 1, []) := by decide +kernel
theorem x217_679 {d : Nat} {a0 a2 a3 : Value} {x : Nat} {h : AHp} : Rf d 217 679 [a0, .ref x, a2, a3] [] h = Rf d 217 680 [a0, .ref x, a2, a3] [.ref x] h := Rf_go ((stp_of c217_679).trans rfl)
theorem c217_680 : cd 217 680 = some (680, .aload_n 0, 1, []) := by decide +kernel
theorem x217_680 {d : Nat} {a1 a2 a3 : Value} {s0 : Nat} {x : Nat} {h : AHp} : Rf d 217 680 [.ref x, a1, a2, a3] [.ref s0] h = Rf d 217 681 [.ref x, a1, a2, a3] [.ref x, .ref s0] h := Rf_go ((stp_of c217_680).trans rfl)
theorem c217_681 : cd 217 681 = some (681, .iload_n 3, 1, []) := by decide +kernel
theorem x217_681 {d : Nat} {a0 a1 a2 : Value} {s0 : Nat} {s1 : Nat} {x : Int32} {h : AHp} : Rf d 217 681 [a0, a1, a2, .int x] [.ref s0, .ref s1] h = Rf d 217 682 [a0, a1, a2, .int x] [.int x, .ref s0, .ref s1] h := Rf_go ((stp_of c217_681).trans rfl)
theorem c217_682 : cd 217 682 = some (682, .iconst 1, 1, []) := by decide +kernel
theorem x217_682 {d : Nat} {a0 a1 a2 a3 : Value} {s0 : Int32} {s1 : Nat} {s2 : Nat} {h : AHp} : Rf d 217 682 [a0, a1, a2, a3] [.int s0, .ref s1, .ref s2] h = Rf d 217 683 [a0, a1, a2, a3] [.int 1, .int s0, .ref s1, .ref s2] h := Rf_go ((stp_of c217_682).trans rfl)
theorem c217_683 : cd 217 683 = some (683, .iadd, 1, []) := by decide +kernel
theorem x217_683 {d : Nat} {a0 a1 a2 a3 : Value} {s0 : Int32} {s1 : Int32} {s2 : Nat} {s3 : Nat} {h : AHp} : Rf d 217 683 [a0, a1, a2, a3] [.int s0, .int s1, .ref s2, .ref s3] h = Rf d 217 684 [a0, a1, a2, a3] [.int (s1 + s0), .ref s2, .ref s3] h := Rf_go ((stp_of c217_683).trans rfl)
theorem c217_684 : cd 217 684 = some (684, .iaload, 1, []) := by decide +kernel
theorem x217_684 {d : Nat} {a0 a1 a2 a3 : Value} {s0 : Int32} {s1 : Nat} {s2 : Nat} {h : AHp} : Rf d 217 684 [a0, a1, a2, a3] [.int s0, .ref s1, .ref s2] h = if (aT (h.1 s1) = 0 ∨ aT (h.1 s1) = 10) ∧ inB s0 (aN (h.1 s1)) = true then Rf d 217 685 [a0, a1, a2, a3] [.int (aF (h.1 s1) s0.toNatClampNeg), .ref s2] h else Rx d 217 684 [a0, a1, a2, a3] [.int s0, .ref s1, .ref s2] h := ldI c217_684
theorem c217_685 : cd 217 685 = some (685, .invokevirtual 86, 3, [(11, 113)]) := by decide +kernel
theorem xc217_685 {d : Nat} {a0 a1 a2 a3 : Value} {s0 : Int32} {s1 : Nat} {h : AHp} {h1 : AHp} {v : Int32} (hr : cls (h.1 s1) = 11) (hq : Rf d 113 0 [.ref s1, .int s0, noV] [] h = some (some (.int v), h1)) : Rf (d + 1) 217 685 [a0, a1, a2, a3] [.int s0, .ref s1] h = Rf (d + 1) 217 688 [a0, a1, a2, a3] [.int v] h1 := clV (c := 113) (as := [.int s0]) c217_685 rfl (by simp [isV]) (by rw [hr]; rfl) hq
theorem c217_688 : cd 217 688 = some (688, .aload_n 2, 1, []) := by decide +kernel
theorem x217_688 {d : Nat} {a0 a1 a3 : Value} {s0 : Int32} {x : Nat} {h : AHp} : Rf d 217 688 [a0, a1, .ref x, a3] [.int s0] h = Rf d 217 689 [a0, a1, .ref x, a3] [.ref x, .int s0] h := Rf_go ((stp_of c217_688).trans rfl)
theorem c217_689 : cd 217 689 = some (689, .aload_n 0, 1, []) := by decide +kernel
theorem x217_689 {d : Nat} {a1 a2 a3 : Value} {s0 : Nat} {s1 : Int32} {x : Nat} {h : AHp} : Rf d 217 689 [.ref x, a1, a2, a3] [.ref s0, .int s1] h = Rf d 217 690 [.ref x, a1, a2, a3] [.ref x, .ref s0, .int s1] h := Rf_go ((stp_of c217_689).trans rfl)
theorem c217_690 : cd 217 690 = some (690, .iload_n 3, 1, []) := by decide +kernel
theorem x217_690 {d : Nat} {a0 a1 a2 : Value} {s0 : Nat} {s1 : Nat} {s2 : Int32} {x : Int32} {h : AHp} : Rf d 217 690 [a0, a1, a2, .int x] [.ref s0, .ref s1, .int s2] h = Rf d 217 691 [a0, a1, a2, .int x] [.int x, .ref s0, .ref s1, .int s2] h := Rf_go ((stp_of c217_690).trans rfl)
theorem c217_691 : cd 217 691 = some (691, .iconst 1, 1, []) := by decide +kernel
theorem x217_691 {d : Nat} {a0 a1 a2 a3 : Value} {s0 : Int32} {s1 : Nat} {s2 : Nat} {s3 : Int32} {h : AHp} : Rf d 217 691 [a0, a1, a2, a3] [.int s0, .ref s1, .ref s2, .int s3] h = Rf d 217 692 [a0, a1, a2, a3] [.int 1, .int s0, .ref s1, .ref s2, .int s3] h := Rf_go ((stp_of c217_691).trans rfl)
theorem c217_692 : cd 217 692 = some (692, .iadd, 1, []) := by decide +kernel
theorem x217_692 {d : Nat} {a0 a1 a2 a3 : Value} {s0 : Int32} {s1 : Int32} {s2 : Nat} {s3 : Nat} {s4 : Int32} {h : AHp} : Rf d 217 692 [a0, a1, a2, a3] [.int s0, .int s1, .ref s2, .ref s3, .int s4] h = Rf d 217 693 [a0, a1, a2, a3] [.int (s1 + s0), .ref s2, .ref s3, .int s4] h := Rf_go ((stp_of c217_692).trans rfl)
theorem c217_693 : cd 217 693 = some (693, .iaload, 1, []) := by decide +kernel
theorem x217_693 {d : Nat} {a0 a1 a2 a3 : Value} {s0 : Int32} {s1 : Nat} {s2 : Nat} {s3 : Int32} {h : AHp} : Rf d 217 693 [a0, a1, a2, a3] [.int s0, .ref s1, .ref s2, .int s3] h = if (aT (h.1 s1) = 0 ∨ aT (h.1 s1) = 10) ∧ inB s0 (aN (h.1 s1)) = true then Rf d 217 694 [a0, a1, a2, a3] [.int (aF (h.1 s1) s0.toNatClampNeg), .ref s2, .int s3] h else Rx d 217 693 [a0, a1, a2, a3] [.int s0, .ref s1, .ref s2, .int s3] h := ldI c217_693
theorem c217_694 : cd 217 694 = some (694, .invokevirtual 89, 3, [(12, 180)]) := by decide +kernel
theorem xc217_694 {d : Nat} {a0 a1 a2 a3 : Value} {s0 : Int32} {s1 : Nat} {s2 : Int32} {h : AHp} {h1 : AHp} {v : Int32} (hr : cls (h.1 s1) = 12) (hq : Rf d 180 0 [.ref s1, .int s0, noV, noV, noV, noV, noV] [] h = some (some (.int v), h1)) : Rf (d + 1) 217 694 [a0, a1, a2, a3] [.int s0, .ref s1, .int s2] h = Rf (d + 1) 217 697 [a0, a1, a2, a3] [.int v, .int s2] h1 := clV (c := 180) (as := [.int s0]) c217_694 rfl (by simp [isV]) (by rw [hr]; rfl) hq
theorem c217_697 : cd 217 697 = some (697, .if_icmp .eq 311, 3, [(1008, 0)]) := by decide +kernel
theorem x217_697 {d : Nat} {a0 a1 a2 a3 : Value} {s0 : Int32} {s1 : Int32} {h : AHp} : Rf d 217 697 [a0, a1, a2, a3] [.int s0, .int s1] h = if s1 = s0 then Rf d 217 1008 [a0, a1, a2, a3] [] h else Rf d 217 700 [a0, a1, a2, a3] [] h := Rf_brd ((stp_of c217_697).trans rfl)
theorem c217_700 : cd 217 700 = some (700, .iconst 0, 1, []) := by decide +kernel
theorem x217_700 {d : Nat} {a0 a1 a2 a3 : Value} {h : AHp} : Rf d 217 700 [a0, a1, a2, a3] [] h = Rf d 217 701 [a0, a1, a2, a3] [.int 0] h := Rf_go ((stp_of c217_700).trans rfl)
theorem c217_701 : cd 217 701 = some (701, .ireturn, 1, []) := by decide +kernel
theorem x217_701 {d : Nat} {a0 a1 a2 a3 : Value} {s0 : Int32} {h : AHp} : Rf d 217 701 [a0, a1, a2, a3] [.int s0] h = if retI (some .boolean) s0 = true then some (some (.int s0), h) else Rx d 217 701 [a0, a1, a2, a3] [.int s0] h := Rf_ife (fun hk => by rw [stp_of c217_701]; exact if_pos hk)
theorem c217_656 : cd 217 656 = some (656, .aload_n 1, 1, []) := by decide +kernel
theorem x217_656 {d : Nat} {a0 a2 a3 : Value} {x : Nat} {h : AHp} : Rf d 217 656 [a0, .ref x, a2, a3] [] h = Rf d 217 657 [a0, .ref x, a2, a3] [.ref x] h := Rf_go ((stp_of c217_656).trans rfl)
theorem c217_657 : cd 217 657 = some (657, .aload_n 0, 1, []) := by decide +kernel
theorem x217_657 {d : Nat} {a1 a2 a3 : Value} {s0 : Nat} {x : Nat} {h : AHp} : Rf d 217 657 [.ref x, a1, a2, a3] [.ref s0] h = Rf d 217 658 [.ref x, a1, a2, a3] [.ref x, .ref s0] h := Rf_go ((stp_of c217_657).trans rfl)
theorem c217_658 : cd 217 658 = some (658, .iload_n 3, 1, []) := by decide +kernel
theorem x217_658 {d : Nat} {a0 a1 a2 : Value} {s0 : Nat} {s1 : Nat} {x : Int32} {h : AHp} : Rf d 217 658 [a0, a1, a2, .int x] [.ref s0, .ref s1] h = Rf d 217 659 [a0, a1, a2, .int x] [.int x, .ref s0, .ref s1] h := Rf_go ((stp_of c217_658).trans rfl)
theorem c217_659 : cd 217 659 = some (659, .iconst 1, 1, []) := by decide +kernel
theorem x217_659 {d : Nat} {a0 a1 a2 a3 : Value} {s0 : Int32} {s1 : Nat} {s2 : Nat} {h : AHp} : Rf d 217 659 [a0, a1, a2, a3] [.int s0, .ref s1, .ref s2] h = Rf d 217 660 [a0, a1, a2, a3] [.int 1, .int s0, .ref s1, .ref s2] h := Rf_go ((stp_of c217_659).trans rfl)
theorem c217_660 : cd 217 660 = some (660, .iadd, 1, []) := by decide +kernel
theorem x217_660 {d : Nat} {a0 a1 a2 a3 : Value} {s0 : Int32} {s1 : Int32} {s2 : Nat} {s3 : Nat} {h : AHp} : Rf d 217 660 [a0, a1, a2, a3] [.int s0, .int s1, .ref s2, .ref s3] h = Rf d 217 661 [a0, a1, a2, a3] [.int (s1 + s0), .ref s2, .ref s3] h := Rf_go ((stp_of c217_660).trans rfl)
theorem c217_661 : cd 217 661 = some (661, .iaload, 1, []) := by decide +kernel
theorem x217_661 {d : Nat} {a0 a1 a2 a3 : Value} {s0 : Int32} {s1 : Nat} {s2 : Nat} {h : AHp} : Rf d 217 661 [a0, a1, a2, a3] [.int s0, .ref s1, .ref s2] h = if (aT (h.1 s1) = 0 ∨ aT (h.1 s1) = 10) ∧ inB s0 (aN (h.1 s1)) = true then Rf d 217 662 [a0, a1, a2, a3] [.int (aF (h.1 s1) s0.toNatClampNeg), .ref s2] h else Rx d 217 661 [a0, a1, a2, a3] [.int s0, .ref s1, .ref s2] h := ldI c217_661
theorem c217_662 : cd 217 662 = some (662, .invokevirtual 82, 3, [(11, 112)]) := by decide +kernel
theorem xc217_662 {d : Nat} {a0 a1 a2 a3 : Value} {s0 : Int32} {s1 : Nat} {h : AHp} {h1 : AHp} {v : Int32} (hr : cls (h.1 s1) = 11) (hq : Rf d 112 0 [.ref s1, .int s0, noV] [] h = some (some (.int v), h1)) : Rf (d + 1) 217 662 [a0, a1, a2, a3] [.int s0, .ref s1] h = Rf (d + 1) 217 665 [a0, a1, a2, a3] [.int v] h1 := clV (c := 112) (as := [.int s0]) c217_662 rfl (by simp [isV]) (by rw [hr]; rfl) hq
theorem c217_665 : cd 217 665 = some (665, .aload_n 2, 1, []) := by decide +kernel
theorem x217_665 {d : Nat} {a0 a1 a3 : Value} {s0 : Int32} {x : Nat} {h : AHp} : Rf d 217 665 [a0, a1, .ref x, a3] [.int s0] h = Rf d 217 666 [a0, a1, .ref x, a3] [.ref x, .int s0] h := Rf_go ((stp_of c217_665).trans rfl)
theorem c217_666 : cd 217 666 = some (666, .aload_n 0, 1, []) := by decide +kernel
theorem x217_666 {d : Nat} {a1 a2 a3 : Value} {s0 : Nat} {s1 : Int32} {x : Nat} {h : AHp} : Rf d 217 666 [.ref x, a1, a2, a3] [.ref s0, .int s1] h = Rf d 217 667 [.ref x, a1, a2, a3] [.ref x, .ref s0, .int s1] h := Rf_go ((stp_of c217_666).trans rfl)
theorem c217_667 : cd 217 667 = some (667, .iload_n 3, 1, []) := by decide +kernel
theorem x217_667 {d : Nat} {a0 a1 a2 : Value} {s0 : Nat} {s1 : Nat} {s2 : Int32} {x : Int32} {h : AHp} : Rf d 217 667 [a0, a1, a2, .int x] [.ref s0, .ref s1, .int s2] h = Rf d 217 668 [a0, a1, a2, .int x] [.int x, .ref s0, .ref s1, .int s2] h := Rf_go ((stp_of c217_667).trans rfl)
theorem c217_668 : cd 217 668 = some (668, .iconst 1, 1, []) := by decide +kernel
theorem x217_668 {d : Nat} {a0 a1 a2 a3 : Value} {s0 : Int32} {s1 : Nat} {s2 : Nat} {s3 : Int32} {h : AHp} : Rf d 217 668 [a0, a1, a2, a3] [.int s0, .ref s1, .ref s2, .int s3] h = Rf d 217 669 [a0, a1, a2, a3] [.int 1, .int s0, .ref s1, .ref s2, .int s3] h := Rf_go ((stp_of c217_668).trans rfl)
theorem c217_669 : cd 217 669 = some (669, .iadd, 1, []) := by decide +kernel
theorem x217_669 {d : Nat} {a0 a1 a2 a3 : Value} {s0 : Int32} {s1 : Int32} {s2 : Nat} {s3 : Nat} {s4 : Int32} {h : AHp} : Rf d 217 669 [a0, a1, a2, a3] [.int s0, .int s1, .ref s2, .ref s3, .int s4] h = Rf d 217 670 [a0, a1, a2, a3] [.int (s1 + s0), .ref s2, .ref s3, .int s4] h := Rf_go ((stp_of c217_669).trans rfl)
theorem c217_670 : cd 217 670 = some (670, .iaload, 1, []) := by decide +kernel
theorem x217_670 {d : Nat} {a0 a1 a2 a3 : Value} {s0 : Int32} {s1 : Nat} {s2 : Nat} {s3 : Int32} {h : AHp} : Rf d 217 670 [a0, a1, a2, a3] [.int s0, .ref s1, .ref s2, .int s3] h = if (aT (h.1 s1) = 0 ∨ aT (h.1 s1) = 10) ∧ inB s0 (aN (h.1 s1)) = true then Rf d 217 671 [a0, a1, a2, a3] [.int (aF (h.1 s1) s0.toNatClampNeg), .ref s2, .int s3] h else Rx d 217 670 [a0, a1, a2, a3] [.int s0, .ref s1, .ref s2, .int s3] h := ldI c217_670
theorem c217_671 : cd 217 671 = some (671, .invokevirtual 85, 3, [(12, 179)]) := by decide +kernel
theorem xc217_671 {d : Nat} {a0 a1 a2 a3 : Value} {s0 : Int32} {s1 : Nat} {s2 : Int32} {h : AHp} {h1 : AHp} {v : Int32} (hr : cls (h.1 s1) = 12) (hq : Rf d 179 0 [.ref s1, .int s0, noV, noV] [] h = some (some (.int v), h1)) : Rf (d + 1) 217 671 [a0, a1, a2, a3] [.int s0, .ref s1, .int s2] h = Rf (d + 1) 217 674 [a0, a1, a2, a3] [.int v, .int s2] h1 := clV (c := 179) (as := [.int s0]) c217_671 rfl (by simp [isV]) (by rw [hr]; rfl) hq
theorem c217_674 : cd 217 674 = some (674, .if_icmp .eq 334, 3, [(1008, 0)]) := by decide +kernel
theorem x217_674 {d : Nat} {a0 a1 a2 a3 : Value} {s0 : Int32} {s1 : Int32} {h : AHp} : Rf d 217 674 [a0, a1, a2, a3] [.int s0, .int s1] h = if s1 = s0 then Rf d 217 1008 [a0, a1, a2, a3] [] h else Rf d 217 677 [a0, a1, a2, a3] [] h := Rf_brd ((stp_of c217_674).trans rfl)
theorem c217_677 : cd 217 677 = some (677, .iconst 0, 1, []) := by decide +kernel
theorem x217_677 {d : Nat} {a0 a1 a2 a3 : Value} {h : AHp} : Rf d 217 677 [a0, a1, a2, a3] [] h = Rf d 217 678 [a0, a1, a2, a3] [.int 0] h := Rf_go ((stp_of c217_677).trans rfl)
theorem c217_678 : cd 217 678 = some (678, .ireturn, 1, []) := by decide +kernel
theorem x217_678 {d : Nat} {a0 a1 a2 a3 : Value} {s0 : Int32} {h : AHp} : Rf d 217 678 [a0, a1, a2, a3] [.int s0] h = if retI (some .boolean) s0 = true then some (some (.int s0), h) else Rx d 217 678 [a0, a1, a2, a3] [.int s0] h := Rf_ife (fun hk => by rw [stp_of c217_678]; exact if_pos hk)
theorem c217_633 : cd 217 633 = some (633, .aload_n 1, 1, []) := by decide +kernel
theorem x217_633 {d : Nat} {a0 a2 a3 : Value} {x : Nat} {h : AHp} : Rf d 217 633 [a0, .ref x, a2, a3] [] h = Rf d 217 634 [a0, .ref x, a2, a3] [.ref x] h := Rf_go ((stp_of c217_633).trans rfl)
theorem c217_634 : cd 217 634 = some (634, .aload_n 0, 1, []) := by decide +kernel
theorem x217_634 {d : Nat} {a1 a2 a3 : Value} {s0 : Nat} {x : Nat} {h : AHp} : Rf d 217 634 [.ref x, a1, a2, a3] [.ref s0] h = Rf d 217 635 [.ref x, a1, a2, a3] [.ref x, .ref s0] h := Rf_go ((stp_of c217_634).trans rfl)
theorem c217_635 : cd 217 635 = some (635, .iload_n 3, 1, []) := by decide +kernel
theorem x217_635 {d : Nat} {a0 a1 a2 : Value} {s0 : Nat} {s1 : Nat} {x : Int32} {h : AHp} : Rf d 217 635 [a0, a1, a2, .int x] [.ref s0, .ref s1] h = Rf d 217 636 [a0, a1, a2, .int x] [.int x, .ref s0, .ref s1] h := Rf_go ((stp_of c217_635).trans rfl)
theorem c217_636 : cd 217 636 = some (636, .iconst 1, 1, []) := by decide +kernel
theorem x217_636 {d : Nat} {a0 a1 a2 a3 : Value} {s0 : Int32} {s1 : Nat} {s2 : Nat} {h : AHp} : Rf d 217 636 [a0, a1, a2, a3] [.int s0, .ref s1, .ref s2] h = Rf d 217 637 [a0, a1, a2, a3] [.int 1, .int s0, .ref s1, .ref s2] h := Rf_go ((stp_of c217_636).trans rfl)
theorem c217_637 : cd 217 637 = some (637, .iadd, 1, []) := by decide +kernel
theorem x217_637 {d : Nat} {a0 a1 a2 a3 : Value} {s0 : Int32} {s1 : Int32} {s2 : Nat} {s3 : Nat} {h : AHp} : Rf d 217 637 [a0, a1, a2, a3] [.int s0, .int s1, .ref s2, .ref s3] h = Rf d 217 638 [a0, a1, a2, a3] [.int (s1 + s0), .ref s2, .ref s3] h := Rf_go ((stp_of c217_637).trans rfl)
theorem c217_638 : cd 217 638 = some (638, .iaload, 1, []) := by decide +kernel
theorem x217_638 {d : Nat} {a0 a1 a2 a3 : Value} {s0 : Int32} {s1 : Nat} {s2 : Nat} {h : AHp} : Rf d 217 638 [a0, a1, a2, a3] [.int s0, .ref s1, .ref s2] h = if (aT (h.1 s1) = 0 ∨ aT (h.1 s1) = 10) ∧ inB s0 (aN (h.1 s1)) = true then Rf d 217 639 [a0, a1, a2, a3] [.int (aF (h.1 s1) s0.toNatClampNeg), .ref s2] h else Rx d 217 638 [a0, a1, a2, a3] [.int s0, .ref s1, .ref s2] h := ldI c217_638
theorem c217_639 : cd 217 639 = some (639, .invokevirtual 78, 3, [(11, 111)]) := by decide +kernel
theorem xc217_639 {d : Nat} {a0 a1 a2 a3 : Value} {s0 : Int32} {s1 : Nat} {h : AHp} {h1 : AHp} {v : Int32} (hr : cls (h.1 s1) = 11) (hq : Rf d 111 0 [.ref s1, .int s0, noV] [] h = some (some (.int v), h1)) : Rf (d + 1) 217 639 [a0, a1, a2, a3] [.int s0, .ref s1] h = Rf (d + 1) 217 642 [a0, a1, a2, a3] [.int v] h1 := clV (c := 111) (as := [.int s0]) c217_639 rfl (by simp [isV]) (by rw [hr]; rfl) hq
theorem c217_642 : cd 217 642 = some (642, .aload_n 2, 1, []) := by decide +kernel
theorem x217_642 {d : Nat} {a0 a1 a3 : Value} {s0 : Int32} {x : Nat} {h : AHp} : Rf d 217 642 [a0, a1, .ref x, a3] [.int s0] h = Rf d 217 643 [a0, a1, .ref x, a3] [.ref x, .int s0] h := Rf_go ((stp_of c217_642).trans rfl)
theorem c217_643 : cd 217 643 = some (643, .aload_n 0, 1, []) := by decide +kernel
theorem x217_643 {d : Nat} {a1 a2 a3 : Value} {s0 : Nat} {s1 : Int32} {x : Nat} {h : AHp} : Rf d 217 643 [.ref x, a1, a2, a3] [.ref s0, .int s1] h = Rf d 217 644 [.ref x, a1, a2, a3] [.ref x, .ref s0, .int s1] h := Rf_go ((stp_of c217_643).trans rfl)
theorem c217_644 : cd 217 644 = some (644, .iload_n 3, 1, []) := by decide +kernel
theorem x217_644 {d : Nat} {a0 a1 a2 : Value} {s0 : Nat} {s1 : Nat} {s2 : Int32} {x : Int32} {h : AHp} : Rf d 217 644 [a0, a1, a2, .int x] [.ref s0, .ref s1, .int s2] h = Rf d 217 645 [a0, a1, a2, .int x] [.int x, .ref s0, .ref s1, .int s2] h := Rf_go ((stp_of c217_644).trans rfl)
theorem c217_645 : cd 217 645 = some (645, .iconst 1, 1, []) := by decide +kernel
theorem x217_645 {d : Nat} {a0 a1 a2 a3 : Value} {s0 : Int32} {s1 : Nat} {s2 : Nat} {s3 : Int32} {h : AHp} : Rf d 217 645 [a0, a1, a2, a3] [.int s0, .ref s1, .ref s2, .int s3] h = Rf d 217 646 [a0, a1, a2, a3] [.int 1, .int s0, .ref s1, .ref s2, .int s3] h := Rf_go ((stp_of c217_645).trans rfl)
theorem c217_646 : cd 217 646 = some (646, .iadd, 1, []) := by decide +kernel
theorem x217_646 {d : Nat} {a0 a1 a2 a3 : Value} {s0 : Int32} {s1 : Int32} {s2 : Nat} {s3 : Nat} {s4 : Int32} {h : AHp} : Rf d 217 646 [a0, a1, a2, a3] [.int s0, .int s1, .ref s2, .ref s3, .int s4] h = Rf d 217 647 [a0, a1, a2, a3] [.int (s1 + s0), .ref s2, .ref s3, .int s4] h := Rf_go ((stp_of c217_646).trans rfl)
theorem c217_647 : cd 217 647 = some (647, .iaload, 1, []) := by decide +kernel
theorem x217_647 {d : Nat} {a0 a1 a2 a3 : Value} {s0 : Int32} {s1 : Nat} {s2 : Nat} {s3 : Int32} {h : AHp} : Rf d 217 647 [a0, a1, a2, a3] [.int s0, .ref s1, .ref s2, .int s3] h = if (aT (h.1 s1) = 0 ∨ aT (h.1 s1) = 10) ∧ inB s0 (aN (h.1 s1)) = true then Rf d 217 648 [a0, a1, a2, a3] [.int (aF (h.1 s1) s0.toNatClampNeg), .ref s2, .int s3] h else Rx d 217 647 [a0, a1, a2, a3] [.int s0, .ref s1, .ref s2, .int s3] h := ldI c217_647
theorem c217_648 : cd 217 648 = some (648, .invokevirtual 81, 3, [(12, 177)]) := by decide +kernel
theorem xc217_648 {d : Nat} {a0 a1 a2 a3 : Value} {s0 : Int32} {s1 : Nat} {s2 : Int32} {h : AHp} {h1 : AHp} {v : Int32} (hr : cls (h.1 s1) = 12) (hq : Rf d 177 0 [.ref s1, .int s0, noV] [] h = some (some (.int v), h1)) : Rf (d + 1) 217 648 [a0, a1, a2, a3] [.int s0, .ref s1, .int s2] h = Rf (d + 1) 217 651 [a0, a1, a2, a3] [.int v, .int s2] h1 := clV (c := 177) (as := [.int s0]) c217_648 rfl (by simp [isV]) (by rw [hr]; rfl) hq
theorem c217_651 : cd 217 651 = some (651, .if_icmp .eq 357, 3, [(1008, 0)]) := by decide +kernel
theorem x217_651 {d : Nat} {a0 a1 a2 a3 : Value} {s0 : Int32} {s1 : Int32} {h : AHp} : Rf d 217 651 [a0, a1, a2, a3] [.int s0, .int s1] h = if s1 = s0 then Rf d 217 1008 [a0, a1, a2, a3] [] h else Rf d 217 654 [a0, a1, a2, a3] [] h := Rf_brd ((stp_of c217_651).trans rfl)
theorem c217_654 : cd 217 654 = some (654, .iconst 0, 1, []) := by decide +kernel
theorem x217_654 {d : Nat} {a0 a1 a2 a3 : Value} {h : AHp} : Rf d 217 654 [a0, a1, a2, a3] [] h = Rf d 217 655 [a0, a1, a2, a3] [.int 0] h := Rf_go ((stp_of c217_654).trans rfl)
theorem c217_655 : cd 217 655 = some (655, .ireturn, 1, []) := by decide +kernel
theorem x217_655 {d : Nat} {a0 a1 a2 a3 : Value} {s0 : Int32} {h : AHp} : Rf d 217 655 [a0, a1, a2, a3] [.int s0] h = if retI (some .boolean) s0 = true then some (some (.int s0), h) else Rx d 217 655 [a0, a1, a2, a3] [.int s0] h := Rf_ife (fun hk => by rw [stp_of c217_655]; exact if_pos hk)
theorem c217_590 : cd 217 590 = some (590, .aload_n 1, 1, []) := by decide +kernel
theorem x217_590 {d : Nat} {a0 a2 a3 : Value} {x : Nat} {h : AHp} : Rf d 217 590 [a0, .ref x, a2, a3] [] h = Rf d 217 591 [a0, .ref x, a2, a3] [.ref x] h := Rf_go ((stp_of c217_590).trans rfl)
theorem c217_591 : cd 217 591 = some (591, .aload_n 0, 1, []) := by decide +kernel
theorem x217_591 {d : Nat} {a1 a2 a3 : Value} {s0 : Nat} {x : Nat} {h : AHp} : Rf d 217 591 [.ref x, a1, a2, a3] [.ref s0] h = Rf d 217 592 [.ref x, a1, a2, a3] [.ref x, .ref s0] h := Rf_go ((stp_of c217_591).trans rfl)
theorem c217_592 : cd 217 592 = some (592, .iload_n 3, 1, []) := by decide +kernel
theorem x217_592 {d : Nat} {a0 a1 a2 : Value} {s0 : Nat} {s1 : Nat} {x : Int32} {h : AHp} : Rf d 217 592 [a0, a1, a2, .int x] [.ref s0, .ref s1] h = Rf d 217 593 [a0, a1, a2, .int x] [.int x, .ref s0, .ref s1] h := Rf_go ((stp_of c217_592).trans rfl)
theorem c217_593 : cd 217 593 = some (593, .iconst 1, 1, []) := by decide +kernel
theorem x217_593 {d : Nat} {a0 a1 a2 a3 : Value} {s0 : Int32} {s1 : Nat} {s2 : Nat} {h : AHp} : Rf d 217 593 [a0, a1, a2, a3] [.int s0, .ref s1, .ref s2] h = Rf d 217 594 [a0, a1, a2, a3] [.int 1, .int s0, .ref s1, .ref s2] h := Rf_go ((stp_of c217_593).trans rfl)
theorem c217_594 : cd 217 594 = some (594, .iadd, 1, []) := by decide +kernel
theorem x217_594 {d : Nat} {a0 a1 a2 a3 : Value} {s0 : Int32} {s1 : Int32} {s2 : Nat} {s3 : Nat} {h : AHp} : Rf d 217 594 [a0, a1, a2, a3] [.int s0, .int s1, .ref s2, .ref s3] h = Rf d 217 595 [a0, a1, a2, a3] [.int (s1 + s0), .ref s2, .ref s3] h := Rf_go ((stp_of c217_594).trans rfl)
theorem c217_595 : cd 217 595 = some (595, .iaload, 1, []) := by decide +kernel
theorem x217_595 {d : Nat} {a0 a1 a2 a3 : Value} {s0 : Int32} {s1 : Nat} {s2 : Nat} {h : AHp} : Rf d 217 595 [a0, a1, a2, a3] [.int s0, .ref s1, .ref s2] h = if (aT (h.1 s1) = 0 ∨ aT (h.1 s1) = 10) ∧ inB s0 (aN (h.1 s1)) = true then Rf d 217 596 [a0, a1, a2, a3] [.int (aF (h.1 s1) s0.toNatClampNeg), .ref s2] h else Rx d 217 595 [a0, a1, a2, a3] [.int s0, .ref s1, .ref s2] h := ldI c217_595
theorem c217_596 : cd 217 596 = some (596, .aload_n 0, 1, []) := by decide +kernel
theorem x217_596 {d : Nat} {a1 a2 a3 : Value} {s0 : Int32} {s1 : Nat} {x : Nat} {h : AHp} : Rf d 217 596 [.ref x, a1, a2, a3] [.int s0, .ref s1] h = Rf d 217 597 [.ref x, a1, a2, a3] [.ref x, .int s0, .ref s1] h := Rf_go ((stp_of c217_596).trans rfl)
theorem c217_597 : cd 217 597 = some (597, .iload_n 3, 1, []) := by decide +kernel
theorem x217_597 {d : Nat} {a0 a1 a2 : Value} {s0 : Nat} {s1 : Int32} {s2 : Nat} {x : Int32} {h : AHp} : Rf d 217 597 [a0, a1, a2, .int x] [.ref s0, .int s1, .ref s2] h = Rf d 217 598 [a0, a1, a2, .int x] [.int x, .ref s0, .int s1, .ref s2] h := Rf_go ((stp_of c217_597).trans rfl)
theorem c217_598 : cd 217 598 = some (598, .iconst 2, 1, []) := by decide +kernel
theorem x217_598 {d : Nat} {a0 a1 a2 a3 : Value} {s0 : Int32} {s1 : Nat} {s2 : Int32} {s3 : Nat} {h : AHp} : Rf d 217 598 [a0, a1, a2, a3] [.int s0, .ref s1, .int s2, .ref s3] h = Rf d 217 599 [a0, a1, a2, a3] [.int 2, .int s0, .ref s1, .int s2, .ref s3] h := Rf_go ((stp_of c217_598).trans rfl)
theorem c217_599 : cd 217 599 = some (599, .iadd, 1, []) := by decide +kernel
theorem x217_599 {d : Nat} {a0 a1 a2 a3 : Value} {s0 : Int32} {s1 : Int32} {s2 : Nat} {s3 : Int32} {s4 : Nat} {h : AHp} : Rf d 217 599 [a0, a1, a2, a3] [.int s0, .int s1, .ref s2, .int s3, .ref s4] h = Rf d 217 600 [a0, a1, a2, a3] [.int (s1 + s0), .ref s2, .int s3, .ref s4] h := Rf_go ((stp_of c217_599).trans rfl)
theorem c217_600 : cd 217 600 = some (600, .iaload, 1, []) := by decide +kernel
theorem x217_600 {d : Nat} {a0 a1 a2 a3 : Value} {s0 : Int32} {s1 : Nat} {s2 : Int32} {s3 : Nat} {h : AHp} : Rf d 217 600 [a0, a1, a2, a3] [.int s0, .ref s1, .int s2, .ref s3] h = if (aT (h.1 s1) = 0 ∨ aT (h.1 s1) = 10) ∧ inB s0 (aN (h.1 s1)) = true then Rf d 217 601 [a0, a1, a2, a3] [.int (aF (h.1 s1) s0.toNatClampNeg), .int s2, .ref s3] h else Rx d 217 600 [a0, a1, a2, a3] [.int s0, .ref s1, .int s2, .ref s3] h := ldI c217_600
theorem c217_601 : cd 217 601 = some (601, .aload_n 0, 1, []) := by decide +kernel
theorem x217_601 {d : Nat} {a1 a2 a3 : Value} {s0 : Int32} {s1 : Int32} {s2 : Nat} {x : Nat} {h : AHp} : Rf d 217 601 [.ref x, a1, a2, a3] [.int s0, .int s1, .ref s2] h = Rf d 217 602 [.ref x, a1, a2, a3] [.ref x, .int s0, .int s1, .ref s2] h := Rf_go ((stp_of c217_601).trans rfl)
theorem c217_602 : cd 217 602 = some (602, .iload_n 3, 1, []) := by decide +kernel
theorem x217_602 {d : Nat} {a0 a1 a2 : Value} {s0 : Nat} {s1 : Int32} {s2 : Int32} {s3 : Nat} {x : Int32} {h : AHp} : Rf d 217 602 [a0, a1, a2, .int x] [.ref s0, .int s1, .int s2, .ref s3] h = Rf d 217 603 [a0, a1, a2, .int x] [.int x, .ref s0, .int s1, .int s2, .ref s3] h := Rf_go ((stp_of c217_602).trans rfl)
theorem c217_603 : cd 217 603 = some (603, .iconst 3, 1, []) := by decide +kernel
theorem x217_603 {d : Nat} {a0 a1 a2 a3 : Value} {s0 : Int32} {s1 : Nat} {s2 : Int32} {s3 : Int32} {s4 : Nat} {h : AHp} : Rf d 217 603 [a0, a1, a2, a3] [.int s0, .ref s1, .int s2, .int s3, .ref s4] h = Rf d 217 604 [a0, a1, a2, a3] [.int 3, .int s0, .ref s1, .int s2, .int s3, .ref s4] h := Rf_go ((stp_of c217_603).trans rfl)
theorem c217_604 : cd 217 604 = some (604, .iadd, 1, []) := by decide +kernel
theorem x217_604 {d : Nat} {a0 a1 a2 a3 : Value} {s0 : Int32} {s1 : Int32} {s2 : Nat} {s3 : Int32} {s4 : Int32} {s5 : Nat} {h : AHp} : Rf d 217 604 [a0, a1, a2, a3] [.int s0, .int s1, .ref s2, .int s3, .int s4, .ref s5] h = Rf d 217 605 [a0, a1, a2, a3] [.int (s1 + s0), .ref s2, .int s3, .int s4, .ref s5] h := Rf_go ((stp_of c217_604).trans rfl)
theorem c217_605 : cd 217 605 = some (605, .iaload, 1, []) := by decide +kernel
theorem x217_605 {d : Nat} {a0 a1 a2 a3 : Value} {s0 : Int32} {s1 : Nat} {s2 : Int32} {s3 : Int32} {s4 : Nat} {h : AHp} : Rf d 217 605 [a0, a1, a2, a3] [.int s0, .ref s1, .int s2, .int s3, .ref s4] h = if (aT (h.1 s1) = 0 ∨ aT (h.1 s1) = 10) ∧ inB s0 (aN (h.1 s1)) = true then Rf d 217 606 [a0, a1, a2, a3] [.int (aF (h.1 s1) s0.toNatClampNeg), .int s2, .int s3, .ref s4] h else Rx d 217 605 [a0, a1, a2, a3] [.int s0, .ref s1, .int s2, .int s3, .ref s4] h := ldI c217_605
theorem c217_606 : cd 217 606 = some (606, .invokevirtual 74, 3, [(11, 110)]) := by decide +kernel
theorem xc217_606 {d : Nat} {a0 a1 a2 a3 : Value} {s0 : Int32} {s1 : Int32} {s2 : Int32} {s3 : Nat} {h : AHp} {h1 : AHp} {v : Int32} (hr : cls (h.1 s3) = 11) (hq : Rf d 110 0 [.ref s3, .int s2, .int s1, .int s0] [] h = some (some (.int v), h1)) : Rf (d + 1) 217 606 [a0, a1, a2, a3] [.int s0, .int s1, .int s2, .ref s3] h = Rf (d + 1) 217 609 [a0, a1, a2, a3] [.int v] h1 := clV (c := 110) (as := [.int s2, .int s1, .int s0]) c217_606 rfl (by simp [isV]) (by rw [hr]; rfl) hq
theorem c217_609 : cd 217 609 = some (609, .aload_n 2, 1, []) := by decide +kernel
theorem x217_609 {d : Nat} {a0 a1 a3 : Value} {s0 : Int32} {x : Nat} {h : AHp} : Rf d 217 609 [a0, a1, .ref x, a3] [.int s0] h = Rf d 217 610 [a0, a1, .ref x, a3] [.ref x, .int s0] h := Rf_go ((stp_of c217_609).trans rfl)
theorem c217_610 : cd 217 610 = some (610, .aload_n 0, 1, []) := by decide +kernel
theorem x217_610 {d : Nat} {a1 a2 a3 : Value} {s0 : Nat} {s1 : Int32} {x : Nat} {h : AHp} : Rf d 217 610 [.ref x, a1, a2, a3] [.ref s0, .int s1] h = Rf d 217 611 [.ref x, a1, a2, a3] [.ref x, .ref s0, .int s1] h := Rf_go ((stp_of c217_610).trans rfl)
theorem c217_611 : cd 217 611 = some (611, .iload_n 3, 1, []) := by decide +kernel
theorem x217_611 {d : Nat} {a0 a1 a2 : Value} {s0 : Nat} {s1 : Nat} {s2 : Int32} {x : Int32} {h : AHp} : Rf d 217 611 [a0, a1, a2, .int x] [.ref s0, .ref s1, .int s2] h = Rf d 217 612 [a0, a1, a2, .int x] [.int x, .ref s0, .ref s1, .int s2] h := Rf_go ((stp_of c217_611).trans rfl)
theorem c217_612 : cd 217 612 = some (612, .iconst 1, 1, []) := by decide +kernel
theorem x217_612 {d : Nat} {a0 a1 a2 a3 : Value} {s0 : Int32} {s1 : Nat} {s2 : Nat} {s3 : Int32} {h : AHp} : Rf d 217 612 [a0, a1, a2, a3] [.int s0, .ref s1, .ref s2, .int s3] h = Rf d 217 613 [a0, a1, a2, a3] [.int 1, .int s0, .ref s1, .ref s2, .int s3] h := Rf_go ((stp_of c217_612).trans rfl)
theorem c217_613 : cd 217 613 = some (613, .iadd, 1, []) := by decide +kernel
theorem x217_613 {d : Nat} {a0 a1 a2 a3 : Value} {s0 : Int32} {s1 : Int32} {s2 : Nat} {s3 : Nat} {s4 : Int32} {h : AHp} : Rf d 217 613 [a0, a1, a2, a3] [.int s0, .int s1, .ref s2, .ref s3, .int s4] h = Rf d 217 614 [a0, a1, a2, a3] [.int (s1 + s0), .ref s2, .ref s3, .int s4] h := Rf_go ((stp_of c217_613).trans rfl)
theorem c217_614 : cd 217 614 = some (614, .iaload, 1, []) := by decide +kernel
theorem x217_614 {d : Nat} {a0 a1 a2 a3 : Value} {s0 : Int32} {s1 : Nat} {s2 : Nat} {s3 : Int32} {h : AHp} : Rf d 217 614 [a0, a1, a2, a3] [.int s0, .ref s1, .ref s2, .int s3] h = if (aT (h.1 s1) = 0 ∨ aT (h.1 s1) = 10) ∧ inB s0 (aN (h.1 s1)) = true then Rf d 217 615 [a0, a1, a2, a3] [.int (aF (h.1 s1) s0.toNatClampNeg), .ref s2, .int s3] h else Rx d 217 614 [a0, a1, a2, a3] [.int s0, .ref s1, .ref s2, .int s3] h := ldI c217_614
theorem c217_615 : cd 217 615 = some (615, .aload_n 0, 1, []) := by decide +kernel
theorem x217_615 {d : Nat} {a1 a2 a3 : Value} {s0 : Int32} {s1 : Nat} {s2 : Int32} {x : Nat} {h : AHp} : Rf d 217 615 [.ref x, a1, a2, a3] [.int s0, .ref s1, .int s2] h = Rf d 217 616 [.ref x, a1, a2, a3] [.ref x, .int s0, .ref s1, .int s2] h := Rf_go ((stp_of c217_615).trans rfl)
theorem c217_616 : cd 217 616 = some (616, .iload_n 3, 1, []) := by decide +kernel
theorem x217_616 {d : Nat} {a0 a1 a2 : Value} {s0 : Nat} {s1 : Int32} {s2 : Nat} {s3 : Int32} {x : Int32} {h : AHp} : Rf d 217 616 [a0, a1, a2, .int x] [.ref s0, .int s1, .ref s2, .int s3] h = Rf d 217 617 [a0, a1, a2, .int x] [.int x, .ref s0, .int s1, .ref s2, .int s3] h := Rf_go ((stp_of c217_616).trans rfl)
theorem c217_617 : cd 217 617 = some (617, .iconst 2, 1, []) := by decide +kernel
theorem x217_617 {d : Nat} {a0 a1 a2 a3 : Value} {s0 : Int32} {s1 : Nat} {s2 : Int32} {s3 : Nat} {s4 : Int32} {h : AHp} : Rf d 217 617 [a0, a1, a2, a3] [.int s0, .ref s1, .int s2, .ref s3, .int s4] h = Rf d 217 618 [a0, a1, a2, a3] [.int 2, .int s0, .ref s1, .int s2, .ref s3, .int s4] h := Rf_go ((stp_of c217_617).trans rfl)
theorem c217_618 : cd 217 618 = some (618, .iadd, 1, []) := by decide +kernel
theorem x217_618 {d : Nat} {a0 a1 a2 a3 : Value} {s0 : Int32} {s1 : Int32} {s2 : Nat} {s3 : Int32} {s4 : Nat} {s5 : Int32} {h : AHp} : Rf d 217 618 [a0, a1, a2, a3] [.int s0, .int s1, .ref s2, .int s3, .ref s4, .int s5] h = Rf d 217 619 [a0, a1, a2, a3] [.int (s1 + s0), .ref s2, .int s3, .ref s4, .int s5] h := Rf_go ((stp_of c217_618).trans rfl)
theorem c217_619 : cd 217 619 = some (619, .iaload, 1, []) := by decide +kernel
theorem x217_619 {d : Nat} {a0 a1 a2 a3 : Value} {s0 : Int32} {s1 : Nat} {s2 : Int32} {s3 : Nat} {s4 : Int32} {h : AHp} : Rf d 217 619 [a0, a1, a2, a3] [.int s0, .ref s1, .int s2, .ref s3, .int s4] h = if (aT (h.1 s1) = 0 ∨ aT (h.1 s1) = 10) ∧ inB s0 (aN (h.1 s1)) = true then Rf d 217 620 [a0, a1, a2, a3] [.int (aF (h.1 s1) s0.toNatClampNeg), .int s2, .ref s3, .int s4] h else Rx d 217 619 [a0, a1, a2, a3] [.int s0, .ref s1, .int s2, .ref s3, .int s4] h := ldI c217_619
theorem c217_620 : cd 217 620 = some (620, .aload_n 0, 1, []) := by decide +kernel
theorem x217_620 {d : Nat} {a1 a2 a3 : Value} {s0 : Int32} {s1 : Int32} {s2 : Nat} {s3 : Int32} {x : Nat} {h : AHp} : Rf d 217 620 [.ref x, a1, a2, a3] [.int s0, .int s1, .ref s2, .int s3] h = Rf d 217 621 [.ref x, a1, a2, a3] [.ref x, .int s0, .int s1, .ref s2, .int s3] h := Rf_go ((stp_of c217_620).trans rfl)
theorem c217_621 : cd 217 621 = some (621, .iload_n 3, 1, []) := by decide +kernel
theorem x217_621 {d : Nat} {a0 a1 a2 : Value} {s0 : Nat} {s1 : Int32} {s2 : Int32} {s3 : Nat} {s4 : Int32} {x : Int32} {h : AHp} : Rf d 217 621 [a0, a1, a2, .int x] [.ref s0, .int s1, .int s2, .ref s3, .int s4] h = Rf d 217 622 [a0, a1, a2, .int x] [.int x, .ref s0, .int s1, .int s2, .ref s3, .int s4] h := Rf_go ((stp_of c217_621).trans rfl)
theorem c217_622 : cd 217 622 = some (622, .iconst 3, 1, []) := by decide +kernel
theorem x217_622 {d : Nat} {a0 a1 a2 a3 : Value} {s0 : Int32} {s1 : Nat} {s2 : Int32} {s3 : Int32} {s4 : Nat} {s5 : Int32} {h : AHp} : Rf d 217 622 [a0, a1, a2, a3] [.int s0, .ref s1, .int s2, .int s3, .ref s4, .int s5] h = Rf d 217 623 [a0, a1, a2, a3] [.int 3, .int s0, .ref s1, .int s2, .int s3, .ref s4, .int s5] h := Rf_go ((stp_of c217_622).trans rfl)
theorem c217_623 : cd 217 623 = some (623, .iadd, 1, []) := by decide +kernel
theorem x217_623 {d : Nat} {a0 a1 a2 a3 : Value} {s0 : Int32} {s1 : Int32} {s2 : Nat} {s3 : Int32} {s4 : Int32} {s5 : Nat} {s6 : Int32} {h : AHp} : Rf d 217 623 [a0, a1, a2, a3] [.int s0, .int s1, .ref s2, .int s3, .int s4, .ref s5, .int s6] h = Rf d 217 624 [a0, a1, a2, a3] [.int (s1 + s0), .ref s2, .int s3, .int s4, .ref s5, .int s6] h := Rf_go ((stp_of c217_623).trans rfl)
theorem c217_624 : cd 217 624 = some (624, .iaload, 1, []) := by decide +kernel
theorem x217_624 {d : Nat} {a0 a1 a2 a3 : Value} {s0 : Int32} {s1 : Nat} {s2 : Int32} {s3 : Int32} {s4 : Nat} {s5 : Int32} {h : AHp} : Rf d 217 624 [a0, a1, a2, a3] [.int s0, .ref s1, .int s2, .int s3, .ref s4, .int s5] h = if (aT (h.1 s1) = 0 ∨ aT (h.1 s1) = 10) ∧ inB s0 (aN (h.1 s1)) = true then Rf d 217 625 [a0, a1, a2, a3] [.int (aF (h.1 s1) s0.toNatClampNeg), .int s2, .int s3, .ref s4, .int s5] h else Rx d 217 624 [a0, a1, a2, a3] [.int s0, .ref s1, .int s2, .int s3, .ref s4, .int s5] h := ldI c217_624
theorem c217_625 : cd 217 625 = some (625, .invokevirtual 77, 3, [(12, 176)]) := by decide +kernel
theorem xc217_625 {d : Nat} {a0 a1 a2 a3 : Value} {s0 : Int32} {s1 : Int32} {s2 : Int32} {s3 : Nat} {s4 : Int32} {h : AHp} {h1 : AHp} {v : Int32} (hr : cls (h.1 s3) = 12) (hq : Rf d 176 0 [.ref s3, .int s2, .int s1, .int s0, noV, noV, noV, noV, noV] [] h = some (some (.int v), h1)) : Rf (d + 1) 217 625 [a0, a1, a2, a3] [.int s0, .int s1, .int s2, .ref s3, .int s4] h = Rf (d + 1) 217 628 [a0, a1, a2, a3] [.int v, .int s4] h1 := clV (c := 176) (as := [.int s2, .int s1, .int s0]) c217_625 rfl (by simp [isV]) (by rw [hr]; rfl) hq
theorem c217_628 : cd 217 628 = some (628, .if_icmp .eq 380, 3, [(1008, 0)]) := by decide +kernel
theorem x217_628 {d : Nat} {a0 a1 a2 a3 : Value} {s0 : Int32} {s1 : Int32} {h : AHp} : Rf d 217 628 [a0, a1, a2, a3] [.int s0, .int s1] h = if s1 = s0 then Rf d 217 1008 [a0, a1, a2, a3] [] h else Rf d 217 631 [a0, a1, a2, a3] [] h := Rf_brd ((stp_of c217_628).trans rfl)
theorem c217_631 : cd 217 631 = some (631, .iconst 0, 1, []) := by decide +kernel
theorem x217_631 {d : Nat} {a0 a1 a2 a3 : Value} {h : AHp} : Rf d 217 631 [a0, a1, a2, a3] [] h = Rf d 217 632 [a0, a1, a2, a3] [.int 0] h := Rf_go ((stp_of c217_631).trans rfl)
theorem c217_632 : cd 217 632 = some (632, .ireturn, 1, []) := by decide +kernel
theorem x217_632 {d : Nat} {a0 a1 a2 a3 : Value} {s0 : Int32} {h : AHp} : Rf d 217 632 [a0, a1, a2, a3] [.int s0] h = if retI (some .boolean) s0 = true then some (some (.int s0), h) else Rx d 217 632 [a0, a1, a2, a3] [.int s0] h := Rf_ife (fun hk => by rw [stp_of c217_632]; exact if_pos hk)
theorem c217_557 : cd 217 557 = some (557, .aload_n 1, 1, []) := by decide +kernel
theorem x217_557 {d : Nat} {a0 a2 a3 : Value} {x : Nat} {h : AHp} : Rf d 217 557 [a0, .ref x, a2, a3] [] h = Rf d 217 558 [a0, .ref x, a2, a3] [.ref x] h := Rf_go ((stp_of c217_557).trans rfl)
theorem c217_558 : cd 217 558 = some (558, .aload_n 0, 1, []) := by decide +kernel
theorem x217_558 {d : Nat} {a1 a2 a3 : Value} {s0 : Nat} {x : Nat} {h : AHp} : Rf d 217 558 [.ref x, a1, a2, a3] [.ref s0] h = Rf d 217 559 [.ref x, a1, a2, a3] [.ref x, .ref s0] h := Rf_go ((stp_of c217_558).trans rfl)
theorem c217_559 : cd 217 559 = some (559, .iload_n 3, 1, []) := by decide +kernel
theorem x217_559 {d : Nat} {a0 a1 a2 : Value} {s0 : Nat} {s1 : Nat} {x : Int32} {h : AHp} : Rf d 217 559 [a0, a1, a2, .int x] [.ref s0, .ref s1] h = Rf d 217 560 [a0, a1, a2, .int x] [.int x, .ref s0, .ref s1] h := Rf_go ((stp_of c217_559).trans rfl)
theorem c217_560 : cd 217 560 = some (560, .iconst 1, 1, []) := by decide +kernel
theorem x217_560 {d : Nat} {a0 a1 a2 a3 : Value} {s0 : Int32} {s1 : Nat} {s2 : Nat} {h : AHp} : Rf d 217 560 [a0, a1, a2, a3] [.int s0, .ref s1, .ref s2] h = Rf d 217 561 [a0, a1, a2, a3] [.int 1, .int s0, .ref s1, .ref s2] h := Rf_go ((stp_of c217_560).trans rfl)
theorem c217_561 : cd 217 561 = some (561, .iadd, 1, []) := by decide +kernel
theorem x217_561 {d : Nat} {a0 a1 a2 a3 : Value} {s0 : Int32} {s1 : Int32} {s2 : Nat} {s3 : Nat} {h : AHp} : Rf d 217 561 [a0, a1, a2, a3] [.int s0, .int s1, .ref s2, .ref s3] h = Rf d 217 562 [a0, a1, a2, a3] [.int (s1 + s0), .ref s2, .ref s3] h := Rf_go ((stp_of c217_561).trans rfl)
theorem c217_562 : cd 217 562 = some (562, .iaload, 1, []) := by decide +kernel
theorem x217_562 {d : Nat} {a0 a1 a2 a3 : Value} {s0 : Int32} {s1 : Nat} {s2 : Nat} {h : AHp} : Rf d 217 562 [a0, a1, a2, a3] [.int s0, .ref s1, .ref s2] h = if (aT (h.1 s1) = 0 ∨ aT (h.1 s1) = 10) ∧ inB s0 (aN (h.1 s1)) = true then Rf d 217 563 [a0, a1, a2, a3] [.int (aF (h.1 s1) s0.toNatClampNeg), .ref s2] h else Rx d 217 562 [a0, a1, a2, a3] [.int s0, .ref s1, .ref s2] h := ldI c217_562
theorem c217_563 : cd 217 563 = some (563, .aload_n 0, 1, []) := by decide +kernel
theorem x217_563 {d : Nat} {a1 a2 a3 : Value} {s0 : Int32} {s1 : Nat} {x : Nat} {h : AHp} : Rf d 217 563 [.ref x, a1, a2, a3] [.int s0, .ref s1] h = Rf d 217 564 [.ref x, a1, a2, a3] [.ref x, .int s0, .ref s1] h := Rf_go ((stp_of c217_563).trans rfl)
theorem c217_564 : cd 217 564 = some (564, .iload_n 3, 1, []) := by decide +kernel
theorem x217_564 {d : Nat} {a0 a1 a2 : Value} {s0 : Nat} {s1 : Int32} {s2 : Nat} {x : Int32} {h : AHp} : Rf d 217 564 [a0, a1, a2, .int x] [.ref s0, .int s1, .ref s2] h = Rf d 217 565 [a0, a1, a2, .int x] [.int x, .ref s0, .int s1, .ref s2] h := Rf_go ((stp_of c217_564).trans rfl)
theorem c217_565 : cd 217 565 = some (565, .iconst 2, 1, []) := by decide +kernel
theorem x217_565 {d : Nat} {a0 a1 a2 a3 : Value} {s0 : Int32} {s1 : Nat} {s2 : Int32} {s3 : Nat} {h : AHp} : Rf d 217 565 [a0, a1, a2, a3] [.int s0, .ref s1, .int s2, .ref s3] h = Rf d 217 566 [a0, a1, a2, a3] [.int 2, .int s0, .ref s1, .int s2, .ref s3] h := Rf_go ((stp_of c217_565).trans rfl)
theorem c217_566 : cd 217 566 = some (566, .iadd, 1, []) := by decide +kernel
theorem x217_566 {d : Nat} {a0 a1 a2 a3 : Value} {s0 : Int32} {s1 : Int32} {s2 : Nat} {s3 : Int32} {s4 : Nat} {h : AHp} : Rf d 217 566 [a0, a1, a2, a3] [.int s0, .int s1, .ref s2, .int s3, .ref s4] h = Rf d 217 567 [a0, a1, a2, a3] [.int (s1 + s0), .ref s2, .int s3, .ref s4] h := Rf_go ((stp_of c217_566).trans rfl)
theorem c217_567 : cd 217 567 = some (567, .iaload, 1, []) := by decide +kernel
theorem x217_567 {d : Nat} {a0 a1 a2 a3 : Value} {s0 : Int32} {s1 : Nat} {s2 : Int32} {s3 : Nat} {h : AHp} : Rf d 217 567 [a0, a1, a2, a3] [.int s0, .ref s1, .int s2, .ref s3] h = if (aT (h.1 s1) = 0 ∨ aT (h.1 s1) = 10) ∧ inB s0 (aN (h.1 s1)) = true then Rf d 217 568 [a0, a1, a2, a3] [.int (aF (h.1 s1) s0.toNatClampNeg), .int s2, .ref s3] h else Rx d 217 567 [a0, a1, a2, a3] [.int s0, .ref s1, .int s2, .ref s3] h := ldI c217_567
theorem c217_568 : cd 217 568 = some (568, .invokevirtual 70, 3, [(11, 109)]) := by decide +kernel
theorem xc217_568 {d : Nat} {a0 a1 a2 a3 : Value} {s0 : Int32} {s1 : Int32} {s2 : Nat} {h : AHp} {h1 : AHp} {v : Int32} (hr : cls (h.1 s2) = 11) (hq : Rf d 109 0 [.ref s2, .int s1, .int s0] [] h = some (some (.int v), h1)) : Rf (d + 1) 217 568 [a0, a1, a2, a3] [.int s0, .int s1, .ref s2] h = Rf (d + 1) 217 571 [a0, a1, a2, a3] [.int v] h1 := clV (c := 109) (as := [.int s1, .int s0]) c217_568 rfl (by simp [isV]) (by rw [hr]; rfl) hq
theorem c217_571 : cd 217 571 = some (571, .aload_n 2, 1, []) := by decide +kernel
theorem x217_571 {d : Nat} {a0 a1 a3 : Value} {s0 : Int32} {x : Nat} {h : AHp} : Rf d 217 571 [a0, a1, .ref x, a3] [.int s0] h = Rf d 217 572 [a0, a1, .ref x, a3] [.ref x, .int s0] h := Rf_go ((stp_of c217_571).trans rfl)
theorem c217_572 : cd 217 572 = some (572, .aload_n 0, 1, []) := by decide +kernel
theorem x217_572 {d : Nat} {a1 a2 a3 : Value} {s0 : Nat} {s1 : Int32} {x : Nat} {h : AHp} : Rf d 217 572 [.ref x, a1, a2, a3] [.ref s0, .int s1] h = Rf d 217 573 [.ref x, a1, a2, a3] [.ref x, .ref s0, .int s1] h := Rf_go ((stp_of c217_572).trans rfl)
theorem c217_573 : cd 217 573 = some (573, .iload_n 3, 1, []) := by decide +kernel
theorem x217_573 {d : Nat} {a0 a1 a2 : Value} {s0 : Nat} {s1 : Nat} {s2 : Int32} {x : Int32} {h : AHp} : Rf d 217 573 [a0, a1, a2, .int x] [.ref s0, .ref s1, .int s2] h = Rf d 217 574 [a0, a1, a2, .int x] [.int x, .ref s0, .ref s1, .int s2] h := Rf_go ((stp_of c217_573).trans rfl)
theorem c217_574 : cd 217 574 = some (574, .iconst 1, 1, []) := by decide +kernel
theorem x217_574 {d : Nat} {a0 a1 a2 a3 : Value} {s0 : Int32} {s1 : Nat} {s2 : Nat} {s3 : Int32} {h : AHp} : Rf d 217 574 [a0, a1, a2, a3] [.int s0, .ref s1, .ref s2, .int s3] h = Rf d 217 575 [a0, a1, a2, a3] [.int 1, .int s0, .ref s1, .ref s2, .int s3] h := Rf_go ((stp_of c217_574).trans rfl)
theorem c217_575 : cd 217 575 = some (575, .iadd, 1, []) := by decide +kernel
theorem x217_575 {d : Nat} {a0 a1 a2 a3 : Value} {s0 : Int32} {s1 : Int32} {s2 : Nat} {s3 : Nat} {s4 : Int32} {h : AHp} : Rf d 217 575 [a0, a1, a2, a3] [.int s0, .int s1, .ref s2, .ref s3, .int s4] h = Rf d 217 576 [a0, a1, a2, a3] [.int (s1 + s0), .ref s2, .ref s3, .int s4] h := Rf_go ((stp_of c217_575).trans rfl)
theorem c217_576 : cd 217 576 = some (576, .iaload, 1, []) := by decide +kernel
theorem x217_576 {d : Nat} {a0 a1 a2 a3 : Value} {s0 : Int32} {s1 : Nat} {s2 : Nat} {s3 : Int32} {h : AHp} : Rf d 217 576 [a0, a1, a2, a3] [.int s0, .ref s1, .ref s2, .int s3] h = if (aT (h.1 s1) = 0 ∨ aT (h.1 s1) = 10) ∧ inB s0 (aN (h.1 s1)) = true then Rf d 217 577 [a0, a1, a2, a3] [.int (aF (h.1 s1) s0.toNatClampNeg), .ref s2, .int s3] h else Rx d 217 576 [a0, a1, a2, a3] [.int s0, .ref s1, .ref s2, .int s3] h := ldI c217_576
theorem c217_577 : cd 217 577 = some (577, .aload_n 0, 1, []) := by decide +kernel
theorem x217_577 {d : Nat} {a1 a2 a3 : Value} {s0 : Int32} {s1 : Nat} {s2 : Int32} {x : Nat} {h : AHp} : Rf d 217 577 [.ref x, a1, a2, a3] [.int s0, .ref s1, .int s2] h = Rf d 217 578 [.ref x, a1, a2, a3] [.ref x, .int s0, .ref s1, .int s2] h := Rf_go ((stp_of c217_577).trans rfl)
theorem c217_578 : cd 217 578 = some (578, .iload_n 3, 1, []) := by decide +kernel
theorem x217_578 {d : Nat} {a0 a1 a2 : Value} {s0 : Nat} {s1 : Int32} {s2 : Nat} {s3 : Int32} {x : Int32} {h : AHp} : Rf d 217 578 [a0, a1, a2, .int x] [.ref s0, .int s1, .ref s2, .int s3] h = Rf d 217 579 [a0, a1, a2, .int x] [.int x, .ref s0, .int s1, .ref s2, .int s3] h := Rf_go ((stp_of c217_578).trans rfl)
theorem c217_579 : cd 217 579 = some (579, .iconst 2, 1, []) := by decide +kernel
theorem x217_579 {d : Nat} {a0 a1 a2 a3 : Value} {s0 : Int32} {s1 : Nat} {s2 : Int32} {s3 : Nat} {s4 : Int32} {h : AHp} : Rf d 217 579 [a0, a1, a2, a3] [.int s0, .ref s1, .int s2, .ref s3, .int s4] h = Rf d 217 580 [a0, a1, a2, a3] [.int 2, .int s0, .ref s1, .int s2, .ref s3, .int s4] h := Rf_go ((stp_of c217_579).trans rfl)
theorem c217_580 : cd 217 580 = some (580, .iadd, 1, []) := by decide +kernel
theorem x217_580 {d : Nat} {a0 a1 a2 a3 : Value} {s0 : Int32} {s1 : Int32} {s2 : Nat} {s3 : Int32} {s4 : Nat} {s5 : Int32} {h : AHp} : Rf d 217 580 [a0, a1, a2, a3] [.int s0, .int s1, .ref s2, .int s3, .ref s4, .int s5] h = Rf d 217 581 [a0, a1, a2, a3] [.int (s1 + s0), .ref s2, .int s3, .ref s4, .int s5] h := Rf_go ((stp_of c217_580).trans rfl)
theorem c217_581 : cd 217 581 = some (581, .iaload, 1, []) := by decide +kernel
theorem x217_581 {d : Nat} {a0 a1 a2 a3 : Value} {s0 : Int32} {s1 : Nat} {s2 : Int32} {s3 : Nat} {s4 : Int32} {h : AHp} : Rf d 217 581 [a0, a1, a2, a3] [.int s0, .ref s1, .int s2, .ref s3, .int s4] h = if (aT (h.1 s1) = 0 ∨ aT (h.1 s1) = 10) ∧ inB s0 (aN (h.1 s1)) = true then Rf d 217 582 [a0, a1, a2, a3] [.int (aF (h.1 s1) s0.toNatClampNeg), .int s2, .ref s3, .int s4] h else Rx d 217 581 [a0, a1, a2, a3] [.int s0, .ref s1, .int s2, .ref s3, .int s4] h := ldI c217_581
theorem c217_582 : cd 217 582 = some (582, .invokevirtual 73, 3, [(12, 175)]) := by decide +kernel
theorem xc217_582 {d : Nat} {a0 a1 a2 a3 : Value} {s0 : Int32} {s1 : Int32} {s2 : Nat} {s3 : Int32} {h : AHp} {h1 : AHp} {v : Int32} (hr : cls (h.1 s2) = 12) (hq : Rf d 175 0 [.ref s2, .int s1, .int s0, noV, noV, noV] [] h = some (some (.int v), h1)) : Rf (d + 1) 217 582 [a0, a1, a2, a3] [.int s0, .int s1, .ref s2, .int s3] h = Rf (d + 1) 217 585 [a0, a1, a2, a3] [.int v, .int s3] h1 := clV (c := 175) (as := [.int s1, .int s0]) c217_582 rfl (by simp [isV]) (by rw [hr]; rfl) hq
theorem c217_585 : cd 217 585 = some (585, .if_icmp .eq 423, 3, [(1008, 0)]) := by decide +kernel
theorem x217_585 {d : Nat} {a0 a1 a2 a3 : Value} {s0 : Int32} {s1 : Int32} {h : AHp} : Rf d 217 585 [a0, a1, a2, a3] [.int s0, .int s1] h = if s1 = s0 then Rf d 217 1008 [a0, a1, a2, a3] [] h else Rf d 217 588 [a0, a1, a2, a3] [] h := Rf_brd ((stp_of c217_585).trans rfl)
theorem c217_588 : cd 217 588 = some (588, .iconst 0, 1, []) := by decide +kernel
theorem x217_588 {d : Nat} {a0 a1 a2 a3 : Value} {h : AHp} : Rf d 217 588 [a0, a1, a2, a3] [] h = Rf d 217 589 [a0, a1, a2, a3] [.int 0] h := Rf_go ((stp_of c217_588).trans rfl)
theorem c217_589 : cd 217 589 = some (589, .ireturn, 1, []) := by decide +kernel
theorem x217_589 {d : Nat} {a0 a1 a2 a3 : Value} {s0 : Int32} {h : AHp} : Rf d 217 589 [a0, a1, a2, a3] [.int s0] h = if retI (some .boolean) s0 = true then some (some (.int s0), h) else Rx d 217 589 [a0, a1, a2, a3] [.int s0] h := Rf_ife (fun hk => by rw [stp_of c217_589]; exact if_pos hk)
theorem c217_534 : cd 217 534 = some (534, .aload_n 1, 1, []) := by decide +kernel
theorem x217_534 {d : Nat} {a0 a2 a3 : Value} {x : Nat} {h : AHp} : Rf d 217 534 [a0, .ref x, a2, a3] [] h = Rf d 217 535 [a0, .ref x, a2, a3] [.ref x] h := Rf_go ((stp_of c217_534).trans rfl)
theorem c217_535 : cd 217 535 = some (535, .aload_n 0, 1, []) := by decide +kernel
theorem x217_535 {d : Nat} {a1 a2 a3 : Value} {s0 : Nat} {x : Nat} {h : AHp} : Rf d 217 535 [.ref x, a1, a2, a3] [.ref s0] h = Rf d 217 536 [.ref x, a1, a2, a3] [.ref x, .ref s0] h := Rf_go ((stp_of c217_535).trans rfl)
theorem c217_536 : cd 217 536 = some (536, .iload_n 3, 1, []) := by decide +kernel
theorem x217_536 {d : Nat} {a0 a1 a2 : Value} {s0 : Nat} {s1 : Nat} {x : Int32} {h : AHp} : Rf d 217 536 [a0, a1, a2, .int x] [.ref s0, .ref s1] h = Rf d 217 537 [a0, a1, a2, .int x] [.int x, .ref s0, .ref s1] h := Rf_go ((stp_of c217_536).trans rfl)
theorem c217_537 : cd 217 537 = some (537, .iconst 1, 1, []) := by decide +kernel
theorem x217_537 {d : Nat} {a0 a1 a2 a3 : Value} {s0 : Int32} {s1 : Nat} {s2 : Nat} {h : AHp} : Rf d 217 537 [a0, a1, a2, a3] [.int s0, .ref s1, .ref s2] h = Rf d 217 538 [a0, a1, a2, a3] [.int 1, .int s0, .ref s1, .ref s2] h := Rf_go ((stp_of c217_537).trans rfl)
theorem c217_538 : cd 217 538 = some (538, .iadd, 1, []) := by decide +kernel
theorem x217_538 {d : Nat} {a0 a1 a2 a3 : Value} {s0 : Int32} {s1 : Int32} {s2 : Nat} {s3 : Nat} {h : AHp} : Rf d 217 538 [a0, a1, a2, a3] [.int s0, .int s1, .ref s2, .ref s3] h = Rf d 217 539 [a0, a1, a2, a3] [.int (s1 + s0), .ref s2, .ref s3] h := Rf_go ((stp_of c217_538).trans rfl)
theorem c217_539 : cd 217 539 = some (539, .iaload, 1, []) := by decide +kernel
theorem x217_539 {d : Nat} {a0 a1 a2 a3 : Value} {s0 : Int32} {s1 : Nat} {s2 : Nat} {h : AHp} : Rf d 217 539 [a0, a1, a2, a3] [.int s0, .ref s1, .ref s2] h = if (aT (h.1 s1) = 0 ∨ aT (h.1 s1) = 10) ∧ inB s0 (aN (h.1 s1)) = true then Rf d 217 540 [a0, a1, a2, a3] [.int (aF (h.1 s1) s0.toNatClampNeg), .ref s2] h else Rx d 217 539 [a0, a1, a2, a3] [.int s0, .ref s1, .ref s2] h := ldI c217_539
theorem c217_540 : cd 217 540 = some (540, .invokevirtual 66, 3, [(11, 108)]) := by decide +kernel
theorem xc217_540 {d : Nat} {a0 a1 a2 a3 : Value} {s0 : Int32} {s1 : Nat} {h : AHp} {h1 : AHp} {v : Int32} (hr : cls (h.1 s1) = 11) (hq : Rf d 108 0 [.ref s1, .int s0] [] h = some (some (.int v), h1)) : Rf (d + 1) 217 540 [a0, a1, a2, a3] [.int s0, .ref s1] h = Rf (d + 1) 217 543 [a0, a1, a2, a3] [.int v] h1 := clV (c := 108) (as := [.int s0]) c217_540 rfl (by simp [isV]) (by rw [hr]; rfl) hq
theorem c217_543 : cd 217 543 = some (543, .aload_n 2, 1, []) := by decide +kernel
theorem x217_543 {d : Nat} {a0 a1 a3 : Value} {s0 : Int32} {x : Nat} {h : AHp} : Rf d 217 543 [a0, a1, .ref x, a3] [.int s0] h = Rf d 217 544 [a0, a1, .ref x, a3] [.ref x, .int s0] h := Rf_go ((stp_of c217_543).trans rfl)
theorem c217_544 : cd 217 544 = some (544, .aload_n 0, 1, []) := by decide +kernel
theorem x217_544 {d : Nat} {a1 a2 a3 : Value} {s0 : Nat} {s1 : Int32} {x : Nat} {h : AHp} : Rf d 217 544 [.ref x, a1, a2, a3] [.ref s0, .int s1] h = Rf d 217 545 [.ref x, a1, a2, a3] [.ref x, .ref s0, .int s1] h := Rf_go ((stp_of c217_544).trans rfl)
theorem c217_545 : cd 217 545 = some (545, .iload_n 3, 1, []) := by decide +kernel
theorem x217_545 {d : Nat} {a0 a1 a2 : Value} {s0 : Nat} {s1 : Nat} {s2 : Int32} {x : Int32} {h : AHp} : Rf d 217 545 [a0, a1, a2, .int x] [.ref s0, .ref s1, .int s2] h = Rf d 217 546 [a0, a1, a2, .int x] [.int x, .ref s0, .ref s1, .int s2] h := Rf_go ((stp_of c217_545).trans rfl)
theorem c217_546 : cd 217 546 = some (546, .iconst 1, 1, []) := by decide +kernel
theorem x217_546 {d : Nat} {a0 a1 a2 a3 : Value} {s0 : Int32} {s1 : Nat} {s2 : Nat} {s3 : Int32} {h : AHp} : Rf d 217 546 [a0, a1, a2, a3] [.int s0, .ref s1, .ref s2, .int s3] h = Rf d 217 547 [a0, a1, a2, a3] [.int 1, .int s0, .ref s1, .ref s2, .int s3] h := Rf_go ((stp_of c217_546).trans rfl)
theorem c217_547 : cd 217 547 = some (547, .iadd, 1, []) := by decide +kernel
theorem x217_547 {d : Nat} {a0 a1 a2 a3 : Value} {s0 : Int32} {s1 : Int32} {s2 : Nat} {s3 : Nat} {s4 : Int32} {h : AHp} : Rf d 217 547 [a0, a1, a2, a3] [.int s0, .int s1, .ref s2, .ref s3, .int s4] h = Rf d 217 548 [a0, a1, a2, a3] [.int (s1 + s0), .ref s2, .ref s3, .int s4] h := Rf_go ((stp_of c217_547).trans rfl)
theorem c217_548 : cd 217 548 = some (548, .iaload, 1, []) := by decide +kernel
theorem x217_548 {d : Nat} {a0 a1 a2 a3 : Value} {s0 : Int32} {s1 : Nat} {s2 : Nat} {s3 : Int32} {h : AHp} : Rf d 217 548 [a0, a1, a2, a3] [.int s0, .ref s1, .ref s2, .int s3] h = if (aT (h.1 s1) = 0 ∨ aT (h.1 s1) = 10) ∧ inB s0 (aN (h.1 s1)) = true then Rf d 217 549 [a0, a1, a2, a3] [.int (aF (h.1 s1) s0.toNatClampNeg), .ref s2, .int s3] h else Rx d 217 548 [a0, a1, a2, a3] [.int s0, .ref s1, .ref s2, .int s3] h := ldI c217_548
theorem c217_549 : cd 217 549 = some (549, .invokevirtual 69, 3, [(12, 174)]) := by decide +kernel
theorem xc217_549 {d : Nat} {a0 a1 a2 a3 : Value} {s0 : Int32} {s1 : Nat} {s2 : Int32} {h : AHp} {h1 : AHp} {v : Int32} (hr : cls (h.1 s1) = 12) (hq : Rf d 174 0 [.ref s1, .int s0, noV, noV, noV, noV, noV] [] h = some (some (.int v), h1)) : Rf (d + 1) 217 549 [a0, a1, a2, a3] [.int s0, .ref s1, .int s2] h = Rf (d + 1) 217 552 [a0, a1, a2, a3] [.int v, .int s2] h1 := clV (c := 174) (as := [.int s0]) c217_549 rfl (by simp [isV]) (by rw [hr]; rfl) hq
theorem c217_552 : cd 217 552 = some (552, .if_icmp .eq 456, 3, [(1008, 0)]) := by decide +kernel
theorem x217_552 {d : Nat} {a0 a1 a2 a3 : Value} {s0 : Int32} {s1 : Int32} {h : AHp} : Rf d 217 552 [a0, a1, a2, a3] [.int s0, .int s1] h = if s1 = s0 then Rf d 217 1008 [a0, a1, a2, a3] [] h else Rf d 217 555 [a0, a1, a2, a3] [] h := Rf_brd ((stp_of c217_552).trans rfl)
theorem c217_555 : cd 217 555 = some (555, .iconst 0, 1, []) := by decide +kernel
theorem x217_555 {d : Nat} {a0 a1 a2 a3 : Value} {h : AHp} : Rf d 217 555 [a0, a1, a2, a3] [] h = Rf d 217 556 [a0, a1, a2, a3] [.int 0] h := Rf_go ((stp_of c217_555).trans rfl)
theorem c217_556 : cd 217 556 = some (556, .ireturn, 1, []) := by decide +kernel
theorem x217_556 {d : Nat} {a0 a1 a2 a3 : Value} {s0 : Int32} {h : AHp} : Rf d 217 556 [a0, a1, a2, a3] [.int s0] h = if retI (some .boolean) s0 = true then some (some (.int s0), h) else Rx d 217 556 [a0, a1, a2, a3] [.int s0] h := Rf_ife (fun hk => by rw [stp_of c217_556]; exact if_pos hk)
theorem c217_511 : cd 217 511 = some (511, .aload_n 1, 1, []) := by decide +kernel
theorem x217_511 {d : Nat} {a0 a2 a3 : Value} {x : Nat} {h : AHp} : Rf d 217 511 [a0, .ref x, a2, a3] [] h = Rf d 217 512 [a0, .ref x, a2, a3] [.ref x] h := Rf_go ((stp_of c217_511).trans rfl)
theorem c217_512 : cd 217 512 = some (512, .aload_n 0, 1, []) := by decide +kernel
theorem x217_512 {d : Nat} {a1 a2 a3 : Value} {s0 : Nat} {x : Nat} {h : AHp} : Rf d 217 512 [.ref x, a1, a2, a3] [.ref s0] h = Rf d 217 513 [.ref x, a1, a2, a3] [.ref x, .ref s0] h := Rf_go ((stp_of c217_512).trans rfl)
theorem c217_513 : cd 217 513 = some (513, .iload_n 3, 1, []) := by decide +kernel
theorem x217_513 {d : Nat} {a0 a1 a2 : Value} {s0 : Nat} {s1 : Nat} {x : Int32} {h : AHp} : Rf d 217 513 [a0, a1, a2, .int x] [.ref s0, .ref s1] h = Rf d 217 514 [a0, a1, a2, .int x] [.int x, .ref s0, .ref s1] h := Rf_go ((stp_of c217_513).trans rfl)
theorem c217_514 : cd 217 514 = some (514, .iconst 1, 1, []) := by decide +kernel
theorem x217_514 {d : Nat} {a0 a1 a2 a3 : Value} {s0 : Int32} {s1 : Nat} {s2 : Nat} {h : AHp} : Rf d 217 514 [a0, a1, a2, a3] [.int s0, .ref s1, .ref s2] h = Rf d 217 515 [a0, a1, a2, a3] [.int 1, .int s0, .ref s1, .ref s2] h := Rf_go ((stp_of c217_514).trans rfl)
theorem c217_515 : cd 217 515 = some (515, .iadd, 1, []) := by decide +kernel
theorem x217_515 {d : Nat} {a0 a1 a2 a3 : Value} {s0 : Int32} {s1 : Int32} {s2 : Nat} {s3 : Nat} {h : AHp} : Rf d 217 515 [a0, a1, a2, a3] [.int s0, .int s1, .ref s2, .ref s3] h = Rf d 217 516 [a0, a1, a2, a3] [.int (s1 + s0), .ref s2, .ref s3] h := Rf_go ((stp_of c217_515).trans rfl)
theorem c217_516 : cd 217 516 = some (516, .iaload, 1, []) := by decide +kernel
theorem x217_516 {d : Nat} {a0 a1 a2 a3 : Value} {s0 : Int32} {s1 : Nat} {s2 : Nat} {h : AHp} : Rf d 217 516 [a0, a1, a2, a3] [.int s0, .ref s1, .ref s2] h = if (aT (h.1 s1) = 0 ∨ aT (h.1 s1) = 10) ∧ inB s0 (aN (h.1 s1)) = true then Rf d 217 517 [a0, a1, a2, a3] [.int (aF (h.1 s1) s0.toNatClampNeg), .ref s2] h else Rx d 217 516 [a0, a1, a2, a3] [.int s0, .ref s1, .ref s2] h := ldI c217_516
theorem c217_517 : cd 217 517 = some (517, .invokevirtual 62, 3, [(11, 106)]) := by decide +kernel
theorem xc217_517 {d : Nat} {a0 a1 a2 a3 : Value} {s0 : Int32} {s1 : Nat} {h : AHp} {h1 : AHp} {v : Int32} (hr : cls (h.1 s1) = 11) (hq : Rf d 106 0 [.ref s1, .int s0, noV, noV, noV, noV] [] h = some (some (.int v), h1)) : Rf (d + 1) 217 517 [a0, a1, a2, a3] [.int s0, .ref s1] h = Rf (d + 1) 217 520 [a0, a1, a2, a3] [.int v] h1 := clV (c := 106) (as := [.int s0]) c217_517 rfl (by simp [isV]) (by rw [hr]; rfl) hq
theorem c217_520 : cd 217 520 = some (520, .aload_n 2, 1, []) := by decide +kernel
theorem x217_520 {d : Nat} {a0 a1 a3 : Value} {s0 : Int32} {x : Nat} {h : AHp} : Rf d 217 520 [a0, a1, .ref x, a3] [.int s0] h = Rf d 217 521 [a0, a1, .ref x, a3] [.ref x, .int s0] h := Rf_go ((stp_of c217_520).trans rfl)
theorem c217_521 : cd 217 521 = some (521, .aload_n 0, 1, []) := by decide +kernel
theorem x217_521 {d : Nat} {a1 a2 a3 : Value} {s0 : Nat} {s1 : Int32} {x : Nat} {h : AHp} : Rf d 217 521 [.ref x, a1, a2, a3] [.ref s0, .int s1] h = Rf d 217 522 [.ref x, a1, a2, a3] [.ref x, .ref s0, .int s1] h := Rf_go ((stp_of c217_521).trans rfl)
theorem c217_522 : cd 217 522 = some (522, .iload_n 3, 1, []) := by decide +kernel
theorem x217_522 {d : Nat} {a0 a1 a2 : Value} {s0 : Nat} {s1 : Nat} {s2 : Int32} {x : Int32} {h : AHp} : Rf d 217 522 [a0, a1, a2, .int x] [.ref s0, .ref s1, .int s2] h = Rf d 217 523 [a0, a1, a2, .int x] [.int x, .ref s0, .ref s1, .int s2] h := Rf_go ((stp_of c217_522).trans rfl)
theorem c217_523 : cd 217 523 = some (523, .iconst 1, 1, []) := by decide +kernel
theorem x217_523 {d : Nat} {a0 a1 a2 a3 : Value} {s0 : Int32} {s1 : Nat} {s2 : Nat} {s3 : Int32} {h : AHp} : Rf d 217 523 [a0, a1, a2, a3] [.int s0, .ref s1, .ref s2, .int s3] h = Rf d 217 524 [a0, a1, a2, a3] [.int 1, .int s0, .ref s1, .ref s2, .int s3] h := Rf_go ((stp_of c217_523).trans rfl)
theorem c217_524 : cd 217 524 = some (524, .iadd, 1, []) := by decide +kernel
theorem x217_524 {d : Nat} {a0 a1 a2 a3 : Value} {s0 : Int32} {s1 : Int32} {s2 : Nat} {s3 : Nat} {s4 : Int32} {h : AHp} : Rf d 217 524 [a0, a1, a2, a3] [.int s0, .int s1, .ref s2, .ref s3, .int s4] h = Rf d 217 525 [a0, a1, a2, a3] [.int (s1 + s0), .ref s2, .ref s3, .int s4] h := Rf_go ((stp_of c217_524).trans rfl)
theorem c217_525 : cd 217 525 = some (525, .iaload, 1, []) := by decide +kernel
theorem x217_525 {d : Nat} {a0 a1 a2 a3 : Value} {s0 : Int32} {s1 : Nat} {s2 : Nat} {s3 : Int32} {h : AHp} : Rf d 217 525 [a0, a1, a2, a3] [.int s0, .ref s1, .ref s2, .int s3] h = if (aT (h.1 s1) = 0 ∨ aT (h.1 s1) = 10) ∧ inB s0 (aN (h.1 s1)) = true then Rf d 217 526 [a0, a1, a2, a3] [.int (aF (h.1 s1) s0.toNatClampNeg), .ref s2, .int s3] h else Rx d 217 525 [a0, a1, a2, a3] [.int s0, .ref s1, .ref s2, .int s3] h := ldI c217_525
theorem c217_526 : cd 217 526 = some (526, .invokevirtual 65, 3, [(12, 173)]) := by decide +kernel
theorem xc217_526 {d : Nat} {a0 a1 a2 a3 : Value} {s0 : Int32} {s1 : Nat} {s2 : Int32} {h : AHp} {h1 : AHp} {v : Int32} (hr : cls (h.1 s1) = 12) (hq : Rf d 173 0 [.ref s1, .int s0, noV, noV] [] h = some (some (.int v), h1)) : Rf (d + 1) 217 526 [a0, a1, a2, a3] [.int s0, .ref s1, .int s2] h = Rf (d + 1) 217 529 [a0, a1, a2, a3] [.int v, .int s2] h1 := clV (c := 173) (as := [.int s0]) c217_526 rfl (by simp [isV]) (by rw [hr]; rfl) hq
theorem c217_529 : cd 217 529 = some (529, .if_icmp .eq 479, 3, [(1008, 0)]) := by decide +kernel
theorem x217_529 {d : Nat} {a0 a1 a2 a3 : Value} {s0 : Int32} {s1 : Int32} {h : AHp} : Rf d 217 529 [a0, a1, a2, a3] [.int s0, .int s1] h = if s1 = s0 then Rf d 217 1008 [a0, a1, a2, a3] [] h else Rf d 217 532 [a0, a1, a2, a3] [] h := Rf_brd ((stp_of c217_529).trans rfl)
theorem c217_532 : cd 217 532 = some (532, .iconst 0, 1, []) := by decide +kernel
theorem x217_532 {d : Nat} {a0 a1 a2 a3 : Value} {h : AHp} : Rf d 217 532 [a0, a1, a2, a3] [] h = Rf d 217 533 [a0, a1, a2, a3] [.int 0] h := Rf_go ((stp_of c217_532).trans rfl)
theorem c217_533 : cd 217 533 = some (533, .ireturn, 1, []) := by decide +kernel
theorem x217_533 {d : Nat} {a0 a1 a2 a3 : Value} {s0 : Int32} {h : AHp} : Rf d 217 533 [a0, a1, a2, a3] [.int s0] h = if retI (some .boolean) s0 = true then some (some (.int s0), h) else Rx d 217 533 [a0, a1, a2, a3] [.int s0] h := Rf_ife (fun hk => by rw [stp_of c217_533]; exact if_pos hk)
theorem c217_468 : cd 217 468 = some (468, .aload_n 1, 1, []) := by decide +kernel
theorem x217_468 {d : Nat} {a0 a2 a3 : Value} {x : Nat} {h : AHp} : Rf d 217 468 [a0, .ref x, a2, a3] [] h = Rf d 217 469 [a0, .ref x, a2, a3] [.ref x] h := Rf_go ((stp_of c217_468).trans rfl)
theorem c217_469 : cd 217 469 = some (469, .aload_n 0, 1, []) := by decide +kernel
theorem x217_469 {d : Nat} {a1 a2 a3 : Value} {s0 : Nat} {x : Nat} {h : AHp} : Rf d 217 469 [.ref x, a1, a2, a3] [.ref s0] h = Rf d 217 470 [.ref x, a1, a2, a3] [.ref x, .ref s0] h := Rf_go ((stp_of c217_469).trans rfl)
theorem c217_470 : cd 217 470 = some (470, .iload_n 3, 1, []) := by decide +kernel
theorem x217_470 {d : Nat} {a0 a1 a2 : Value} {s0 : Nat} {s1 : Nat} {x : Int32} {h : AHp} : Rf d 217 470 [a0, a1, a2, .int x] [.ref s0, .ref s1] h = Rf d 217 471 [a0, a1, a2, .int x] [.int x, .ref s0, .ref s1] h := Rf_go ((stp_of c217_470).trans rfl)
theorem c217_471 : cd 217 471 = some (471, .iconst 1, 1, []) := by decide +kernel
theorem x217_471 {d : Nat} {a0 a1 a2 a3 : Value} {s0 : Int32} {s1 : Nat} {s2 : Nat} {h : AHp} : Rf d 217 471 [a0, a1, a2, a3] [.int s0, .ref s1, .ref s2] h = Rf d 217 472 [a0, a1, a2, a3] [.int 1, .int s0, .ref s1, .ref s2] h := Rf_go ((stp_of c217_471).trans rfl)
theorem c217_472 : cd 217 472 = some (472, .iadd, 1, []) := by decide +kernel
theorem x217_472 {d : Nat} {a0 a1 a2 a3 : Value} {s0 : Int32} {s1 : Int32} {s2 : Nat} {s3 : Nat} {h : AHp} : Rf d 217 472 [a0, a1, a2, a3] [.int s0, .int s1, .ref s2, .ref s3] h = Rf d 217 473 [a0, a1, a2, a3] [.int (s1 + s0), .ref s2, .ref s3] h := Rf_go ((stp_of c217_472).trans rfl)
theorem c217_473 : cd 217 473 = some (473, .iaload, 1, []) := by decide +kernel
theorem x217_473 {d : Nat} {a0 a1 a2 a3 : Value} {s0 : Int32} {s1 : Nat} {s2 : Nat} {h : AHp} : Rf d 217 473 [a0, a1, a2, a3] [.int s0, .ref s1, .ref s2] h = if (aT (h.1 s1) = 0 ∨ aT (h.1 s1) = 10) ∧ inB s0 (aN (h.1 s1)) = true then Rf d 217 474 [a0, a1, a2, a3] [.int (aF (h.1 s1) s0.toNatClampNeg), .ref s2] h else Rx d 217 473 [a0, a1, a2, a3] [.int s0, .ref s1, .ref s2] h := ldI c217_473
theorem c217_474 : cd 217 474 = some (474, .aload_n 0, 1, []) := by decide +kernel
theorem x217_474 {d : Nat} {a1 a2 a3 : Value} {s0 : Int32} {s1 : Nat} {x : Nat} {h : AHp} : Rf d 217 474 [.ref x, a1, a2, a3] [.int s0, .ref s1] h = Rf d 217 475 [.ref x, a1, a2, a3] [.ref x, .int s0, .ref s1] h := Rf_go ((stp_of c217_474).trans rfl)
theorem c217_475 : cd 217 475 = some (475, .iload_n 3, 1, []) := by decide +kernel
theorem x217_475 {d : Nat} {a0 a1 a2 : Value} {s0 : Nat} {s1 : Int32} {s2 : Nat} {x : Int32} {h : AHp} : Rf d 217 475 [a0, a1, a2, .int x] [.ref s0, .int s1, .ref s2] h = Rf d 217 476 [a0, a1, a2, .int x] [.int x, .ref s0, .int s1, .ref s2] h := Rf_go ((stp_of c217_475).trans rfl)
theorem c217_476 : cd 217 476 = some (476, .iconst 2, 1, []) := by decide +kernel
theorem x217_476 {d : Nat} {a0 a1 a2 a3 : Value} {s0 : Int32} {s1 : Nat} {s2 : Int32} {s3 : Nat} {h : AHp} : Rf d 217 476 [a0, a1, a2, a3] [.int s0, .ref s1, .int s2, .ref s3] h = Rf d 217 477 [a0, a1, a2, a3] [.int 2, .int s0, .ref s1, .int s2, .ref s3] h := Rf_go ((stp_of c217_476).trans rfl)
theorem c217_477 : cd 217 477 = some (477, .iadd, 1, []) := by decide +kernel
theorem x217_477 {d : Nat} {a0 a1 a2 a3 : Value} {s0 : Int32} {s1 : Int32} {s2 : Nat} {s3 : Int32} {s4 : Nat} {h : AHp} : Rf d 217 477 [a0, a1, a2, a3] [.int s0, .int s1, .ref s2, .int s3, .ref s4] h = Rf d 217 478 [a0, a1, a2, a3] [.int (s1 + s0), .ref s2, .int s3, .ref s4] h := Rf_go ((stp_of c217_477).trans rfl)
theorem c217_478 : cd 217 478 = some (478, .iaload, 1, []) := by decide +kernel
theorem x217_478 {d : Nat} {a0 a1 a2 a3 : Value} {s0 : Int32} {s1 : Nat} {s2 : Int32} {s3 : Nat} {h : AHp} : Rf d 217 478 [a0, a1, a2, a3] [.int s0, .ref s1, .int s2, .ref s3] h = if (aT (h.1 s1) = 0 ∨ aT (h.1 s1) = 10) ∧ inB s0 (aN (h.1 s1)) = true then Rf d 217 479 [a0, a1, a2, a3] [.int (aF (h.1 s1) s0.toNatClampNeg), .int s2, .ref s3] h else Rx d 217 478 [a0, a1, a2, a3] [.int s0, .ref s1, .int s2, .ref s3] h := ldI c217_478
theorem c217_479 : cd 217 479 = some (479, .aload_n 0, 1, []) := by decide +kernel
theorem x217_479 {d : Nat} {a1 a2 a3 : Value} {s0 : Int32} {s1 : Int32} {s2 : Nat} {x : Nat} {h : AHp} : Rf d 217 479 [.ref x, a1, a2, a3] [.int s0, .int s1, .ref s2] h = Rf d 217 480 [.ref x, a1, a2, a3] [.ref x, .int s0, .int s1, .ref s2] h := Rf_go ((stp_of c217_479).trans rfl)
theorem c217_480 : cd 217 480 = some (480, .iload_n 3, 1, []) := by decide +kernel
theorem x217_480 {d : Nat} {a0 a1 a2 : Value} {s0 : Nat} {s1 : Int32} {s2 : Int32} {s3 : Nat} {x : Int32} {h : AHp} : Rf d 217 480 [a0, a1, a2, .int x] [.ref s0, .int s1, .int s2, .ref s3] h = Rf d 217 481 [a0, a1, a2, .int x] [.int x, .ref s0, .int s1, .int s2, .ref s3] h := Rf_go ((stp_of c217_480).trans rfl)
theorem c217_481 : cd 217 481 = some (481, .iconst 3, 1, []) := by decide +kernel
theorem x217_481 {d : Nat} {a0 a1 a2 a3 : Value} {s0 : Int32} {s1 : Nat} {s2 : Int32} {s3 : Int32} {s4 : Nat} {h : AHp} : Rf d 217 481 [a0, a1, a2, a3] [.int s0, .ref s1, .int s2, .int s3, .ref s4] h = Rf d 217 482 [a0, a1, a2, a3] [.int 3, .int s0, .ref s1, .int s2, .int s3, .ref s4] h := Rf_go ((stp_of c217_481).trans rfl)
theorem c217_482 : cd 217 482 = some (482, .iadd, 1, []) := by decide +kernel
theorem x217_482 {d : Nat} {a0 a1 a2 a3 : Value} {s0 : Int32} {s1 : Int32} {s2 : Nat} {s3 : Int32} {s4 : Int32} {s5 : Nat} {h : AHp} : Rf d 217 482 [a0, a1, a2, a3] [.int s0, .int s1, .ref s2, .int s3, .int s4, .ref s5] h = Rf d 217 483 [a0, a1, a2, a3] [.int (s1 + s0), .ref s2, .int s3, .int s4, .ref s5] h := Rf_go ((stp_of c217_482).trans rfl)
theorem c217_483 : cd 217 483 = some (483, .iaload, 1, []) := by decide +kernel
theorem x217_483 {d : Nat} {a0 a1 a2 a3 : Value} {s0 : Int32} {s1 : Nat} {s2 : Int32} {s3 : Int32} {s4 : Nat} {h : AHp} : Rf d 217 483 [a0, a1, a2, a3] [.int s0, .ref s1, .int s2, .int s3, .ref s4] h = if (aT (h.1 s1) = 0 ∨ aT (h.1 s1) = 10) ∧ inB s0 (aN (h.1 s1)) = true then Rf d 217 484 [a0, a1, a2, a3] [.int (aF (h.1 s1) s0.toNatClampNeg), .int s2, .int s3, .ref s4] h else Rx d 217 483 [a0, a1, a2, a3] [.int s0, .ref s1, .int s2, .int s3, .ref s4] h := ldI c217_483
theorem c217_484 : cd 217 484 = some (484, .invokevirtual 58, 3, [(11, 105)]) := by decide +kernel
theorem xc217_484 {d : Nat} {a0 a1 a2 a3 : Value} {s0 : Int32} {s1 : Int32} {s2 : Int32} {s3 : Nat} {h : AHp} {h1 : AHp} {v : Int32} (hr : cls (h.1 s3) = 11) (hq : Rf d 105 0 [.ref s3, .int s2, .int s1, .int s0, noV] [] h = some (some (.int v), h1)) : Rf (d + 1) 217 484 [a0, a1, a2, a3] [.int s0, .int s1, .int s2, .ref s3] h = Rf (d + 1) 217 487 [a0, a1, a2, a3] [.int v] h1 := clV (c := 105) (as := [.int s2, .int s1, .int s0]) c217_484 rfl (by simp [isV]) (by rw [hr]; rfl) hq
theorem c217_487 : cd 217 487 = some (487, .aload_n 2, 1, []) := by decide +kernel
theorem x217_487 {d : Nat} {a0 a1 a3 : Value} {s0 : Int32} {x : Nat} {h : AHp} : Rf d 217 487 [a0, a1, .ref x, a3] [.int s0] h = Rf d 217 488 [a0, a1, .ref x, a3] [.ref x, .int s0] h := Rf_go ((stp_of c217_487).trans rfl)
theorem c217_488 : cd 217 488 = some (488, .aload_n 0, 1, []) := by decide +kernel
theorem x217_488 {d : Nat} {a1 a2 a3 : Value} {s0 : Nat} {s1 : Int32} {x : Nat} {h : AHp} : Rf d 217 488 [.ref x, a1, a2, a3] [.ref s0, .int s1] h = Rf d 217 489 [.ref x, a1, a2, a3] [.ref x, .ref s0, .int s1] h := Rf_go ((stp_of c217_488).trans rfl)
theorem c217_489 : cd 217 489 = some (489, .iload_n 3, 1, []) := by decide +kernel
theorem x217_489 {d : Nat} {a0 a1 a2 : Value} {s0 : Nat} {s1 : Nat} {s2 : Int32} {x : Int32} {h : AHp} : Rf d 217 489 [a0, a1, a2, .int x] [.ref s0, .ref s1, .int s2] h = Rf d 217 490 [a0, a1, a2, .int x] [.int x, .ref s0, .ref s1, .int s2] h := Rf_go ((stp_of c217_489).trans rfl)
theorem c217_490 : cd 217 490 = some (490, .iconst 1, 1, []) := by decide +kernel
theorem x217_490 {d : Nat} {a0 a1 a2 a3 : Value} {s0 : Int32} {s1 : Nat} {s2 : Nat} {s3 : Int32} {h : AHp} : Rf d 217 490 [a0, a1, a2, a3] [.int s0, .ref s1, .ref s2, .int s3] h = Rf d 217 491 [a0, a1, a2, a3] [.int 1, .int s0, .ref s1, .ref s2, .int s3] h := Rf_go ((stp_of c217_490).trans rfl)
theorem c217_491 : cd 217 491 = some (491, .iadd, 1, []) := by decide +kernel
theorem x217_491 {d : Nat} {a0 a1 a2 a3 : Value} {s0 : Int32} {s1 : Int32} {s2 : Nat} {s3 : Nat} {s4 : Int32} {h : AHp} : Rf d 217 491 [a0, a1, a2, a3] [.int s0, .int s1, .ref s2, .ref s3, .int s4] h = Rf d 217 492 [a0, a1, a2, a3] [.int (s1 + s0), .ref s2, .ref s3, .int s4] h := Rf_go ((stp_of c217_491).trans rfl)
theorem c217_492 : cd 217 492 = some (492, .iaload, 1, []) := by decide +kernel
theorem x217_492 {d : Nat} {a0 a1 a2 a3 : Value} {s0 : Int32} {s1 : Nat} {s2 : Nat} {s3 : Int32} {h : AHp} : Rf d 217 492 [a0, a1, a2, a3] [.int s0, .ref s1, .ref s2, .int s3] h = if (aT (h.1 s1) = 0 ∨ aT (h.1 s1) = 10) ∧ inB s0 (aN (h.1 s1)) = true then Rf d 217 493 [a0, a1, a2, a3] [.int (aF (h.1 s1) s0.toNatClampNeg), .ref s2, .int s3] h else Rx d 217 492 [a0, a1, a2, a3] [.int s0, .ref s1, .ref s2, .int s3] h := ldI c217_492
theorem c217_493 : cd 217 493 = some (493, .aload_n 0, 1, []) := by decide +kernel
theorem x217_493 {d : Nat} {a1 a2 a3 : Value} {s0 : Int32} {s1 : Nat} {s2 : Int32} {x : Nat} {h : AHp} : Rf d 217 493 [.ref x, a1, a2, a3] [.int s0, .ref s1, .int s2] h = Rf d 217 494 [.ref x, a1, a2, a3] [.ref x, .int s0, .ref s1, .int s2] h := Rf_go ((stp_of c217_493).trans rfl)
theorem c217_494 : cd 217 494 = some (494, .iload_n 3, 1, []) := by decide +kernel
theorem x217_494 {d : Nat} {a0 a1 a2 : Value} {s0 : Nat} {s1 : Int32} {s2 : Nat} {s3 : Int32} {x : Int32} {h : AHp} : Rf d 217 494 [a0, a1, a2, .int x] [.ref s0, .int s1, .ref s2, .int s3] h = Rf d 217 495 [a0, a1, a2, .int x] [.int x, .ref s0, .int s1, .ref s2, .int s3] h := Rf_go ((stp_of c217_494).trans rfl)
theorem c217_495 : cd 217 495 = some (495, .iconst 2, 1, []) := by decide +kernel
theorem x217_495 {d : Nat} {a0 a1 a2 a3 : Value} {s0 : Int32} {s1 : Nat} {s2 : Int32} {s3 : Nat} {s4 : Int32} {h : AHp} : Rf d 217 495 [a0, a1, a2, a3] [.int s0, .ref s1, .int s2, .ref s3, .int s4] h = Rf d 217 496 [a0, a1, a2, a3] [.int 2, .int s0, .ref s1, .int s2, .ref s3, .int s4] h := Rf_go ((stp_of c217_495).trans rfl)
theorem c217_496 : cd 217 496 = some (496, .iadd, 1, []) := by decide +kernel
theorem x217_496 {d : Nat} {a0 a1 a2 a3 : Value} {s0 : Int32} {s1 : Int32} {s2 : Nat} {s3 : Int32} {s4 : Nat} {s5 : Int32} {h : AHp} : Rf d 217 496 [a0, a1, a2, a3] [.int s0, .int s1, .ref s2, .int s3, .ref s4, .int s5] h = Rf d 217 497 [a0, a1, a2, a3] [.int (s1 + s0), .ref s2, .int s3, .ref s4, .int s5] h := Rf_go ((stp_of c217_496).trans rfl)
theorem c217_497 : cd 217 497 = some (497, .iaload, 1, []) := by decide +kernel
theorem x217_497 {d : Nat} {a0 a1 a2 a3 : Value} {s0 : Int32} {s1 : Nat} {s2 : Int32} {s3 : Nat} {s4 : Int32} {h : AHp} : Rf d 217 497 [a0, a1, a2, a3] [.int s0, .ref s1, .int s2, .ref s3, .int s4] h = if (aT (h.1 s1) = 0 ∨ aT (h.1 s1) = 10) ∧ inB s0 (aN (h.1 s1)) = true then Rf d 217 498 [a0, a1, a2, a3] [.int (aF (h.1 s1) s0.toNatClampNeg), .int s2, .ref s3, .int s4] h else Rx d 217 497 [a0, a1, a2, a3] [.int s0, .ref s1, .int s2, .ref s3, .int s4] h := ldI c217_497
theorem c217_498 : cd 217 498 = some (498, .aload_n 0, 1, []) := by decide +kernel
theorem x217_498 {d : Nat} {a1 a2 a3 : Value} {s0 : Int32} {s1 : Int32} {s2 : Nat} {s3 : Int32} {x : Nat} {h : AHp} : Rf d 217 498 [.ref x, a1, a2, a3] [.int s0, .int s1, .ref s2, .int s3] h = Rf d 217 499 [.ref x, a1, a2, a3] [.ref x, .int s0, .int s1, .ref s2, .int s3] h := Rf_go ((stp_of c217_498).trans rfl)
theorem c217_499 : cd 217 499 = some (499, .iload_n 3, 1, []) := by decide +kernel
theorem x217_499 {d : Nat} {a0 a1 a2 : Value} {s0 : Nat} {s1 : Int32} {s2 : Int32} {s3 : Nat} {s4 : Int32} {x : Int32} {h : AHp} : Rf d 217 499 [a0, a1, a2, .int x] [.ref s0, .int s1, .int s2, .ref s3, .int s4] h = Rf d 217 500 [a0, a1, a2, .int x] [.int x, .ref s0, .int s1, .int s2, .ref s3, .int s4] h := Rf_go ((stp_of c217_499).trans rfl)
theorem c217_500 : cd 217 500 = some (500, .iconst 3, 1, []) := by decide +kernel
theorem x217_500 {d : Nat} {a0 a1 a2 a3 : Value} {s0 : Int32} {s1 : Nat} {s2 : Int32} {s3 : Int32} {s4 : Nat} {s5 : Int32} {h : AHp} : Rf d 217 500 [a0, a1, a2, a3] [.int s0, .ref s1, .int s2, .int s3, .ref s4, .int s5] h = Rf d 217 501 [a0, a1, a2, a3] [.int 3, .int s0, .ref s1, .int s2, .int s3, .ref s4, .int s5] h := Rf_go ((stp_of c217_500).trans rfl)
theorem c217_501 : cd 217 501 = some (501, .iadd, 1, []) := by decide +kernel
theorem x217_501 {d : Nat} {a0 a1 a2 a3 : Value} {s0 : Int32} {s1 : Int32} {s2 : Nat} {s3 : Int32} {s4 : Int32} {s5 : Nat} {s6 : Int32} {h : AHp} : Rf d 217 501 [a0, a1, a2, a3] [.int s0, .int s1, .ref s2, .int s3, .int s4, .ref s5, .int s6] h = Rf d 217 502 [a0, a1, a2, a3] [.int (s1 + s0), .ref s2, .int s3, .int s4, .ref s5, .int s6] h := Rf_go ((stp_of c217_501).trans rfl)
theorem c217_502 : cd 217 502 = some (502, .iaload, 1, []) := by decide +kernel
theorem x217_502 {d : Nat} {a0 a1 a2 a3 : Value} {s0 : Int32} {s1 : Nat} {s2 : Int32} {s3 : Int32} {s4 : Nat} {s5 : Int32} {h : AHp} : Rf d 217 502 [a0, a1, a2, a3] [.int s0, .ref s1, .int s2, .int s3, .ref s4, .int s5] h = if (aT (h.1 s1) = 0 ∨ aT (h.1 s1) = 10) ∧ inB s0 (aN (h.1 s1)) = true then Rf d 217 503 [a0, a1, a2, a3] [.int (aF (h.1 s1) s0.toNatClampNeg), .int s2, .int s3, .ref s4, .int s5] h else Rx d 217 502 [a0, a1, a2, a3] [.int s0, .ref s1, .int s2, .int s3, .ref s4, .int s5] h := ldI c217_502
theorem c217_503 : cd 217 503 = some (503, .invokevirtual 61, 3, [(12, 172)]) := by decide +kernel
theorem xc217_503 {d : Nat} {a0 a1 a2 a3 : Value} {s0 : Int32} {s1 : Int32} {s2 : Int32} {s3 : Nat} {s4 : Int32} {h : AHp} {h1 : AHp} {v : Int32} (hr : cls (h.1 s3) = 12) (hq : Rf d 172 0 [.ref s3, .int s2, .int s1, .int s0, noV, noV] [] h = some (some (.int v), h1)) : Rf (d + 1) 217 503 [a0, a1, a2, a3] [.int s0, .int s1, .int s2, .ref s3, .int s4] h = Rf (d + 1) 217 506 [a0, a1, a2, a3] [.int v, .int s4] h1 := clV (c := 172) (as := [.int s2, .int s1, .int s0]) c217_503 rfl (by simp [isV]) (by rw [hr]; rfl) hq
theorem c217_506 : cd 217 506 = some (506, .if_icmp .eq 502, 3, [(1008, 0)]) := by decide +kernel
theorem x217_506 {d : Nat} {a0 a1 a2 a3 : Value} {s0 : Int32} {s1 : Int32} {h : AHp} : Rf d 217 506 [a0, a1, a2, a3] [.int s0, .int s1] h = if s1 = s0 then Rf d 217 1008 [a0, a1, a2, a3] [] h else Rf d 217 509 [a0, a1, a2, a3] [] h := Rf_brd ((stp_of c217_506).trans rfl)
theorem c217_509 : cd 217 509 = some (509, .iconst 0, 1, []) := by decide +kernel
theorem x217_509 {d : Nat} {a0 a1 a2 a3 : Value} {h : AHp} : Rf d 217 509 [a0, a1, a2, a3] [] h = Rf d 217 510 [a0, a1, a2, a3] [.int 0] h := Rf_go ((stp_of c217_509).trans rfl)
theorem c217_510 : cd 217 510 = some (510, .ireturn, 1, []) := by decide +kernel
theorem x217_510 {d : Nat} {a0 a1 a2 a3 : Value} {s0 : Int32} {h : AHp} : Rf d 217 510 [a0, a1, a2, a3] [.int s0] h = if retI (some .boolean) s0 = true then some (some (.int s0), h) else Rx d 217 510 [a0, a1, a2, a3] [.int s0] h := Rf_ife (fun hk => by rw [stp_of c217_510]; exact if_pos hk)
theorem c217_455 : cd 217 455 = some (455, .aload_n 1, 1, []) := by decide +kernel
theorem x217_455 {d : Nat} {a0 a2 a3 : Value} {x : Nat} {h : AHp} : Rf d 217 455 [a0, .ref x, a2, a3] [] h = Rf d 217 456 [a0, .ref x, a2, a3] [.ref x] h := Rf_go ((stp_of c217_455).trans rfl)
theorem c217_456 : cd 217 456 = some (456, .invokevirtual 54, 3, [(11, 104)]) := by decide +kernel
theorem xc217_456 {d : Nat} {a0 a1 a2 a3 : Value} {s0 : Nat} {h : AHp} {h1 : AHp} {v : Int32} (hr : cls (h.1 s0) = 11) (hq : Rf d 104 0 [.ref s0] [] h = some (some (.int v), h1)) : Rf (d + 1) 217 456 [a0, a1, a2, a3] [.ref s0] h = Rf (d + 1) 217 459 [a0, a1, a2, a3] [.int v] h1 := clV (c := 104) (as := []) c217_456 rfl (by simp [isV]) (by rw [hr]; rfl) hq
theorem c217_459 : cd 217 459 = some (459, .aload_n 2, 1, []) := by decide +kernel
theorem x217_459 {d : Nat} {a0 a1 a3 : Value} {s0 : Int32} {x : Nat} {h : AHp} : Rf d 217 459 [a0, a1, .ref x, a3] [.int s0] h = Rf d 217 460 [a0, a1, .ref x, a3] [.ref x, .int s0] h := Rf_go ((stp_of c217_459).trans rfl)
theorem c217_460 : cd 217 460 = some (460, .invokevirtual 57, 3, [(12, 169)]) := by decide +kernel
theorem xc217_460 {d : Nat} {a0 a1 a2 a3 : Value} {s0 : Nat} {s1 : Int32} {h : AHp} {h1 : AHp} {v : Int32} (hr : cls (h.1 s0) = 12) (hq : Rf d 169 0 [.ref s0] [] h = some (some (.int v), h1)) : Rf (d + 1) 217 460 [a0, a1, a2, a3] [.ref s0, .int s1] h = Rf (d + 1) 217 463 [a0, a1, a2, a3] [.int v, .int s1] h1 := clV (c := 169) (as := []) c217_460 rfl (by simp [isV]) (by rw [hr]; rfl) hq
theorem c217_463 : cd 217 463 = some (463, .if_icmp .eq 545, 3, [(1008, 0)]) := by decide +kernel
theorem x217_463 {d : Nat} {a0 a1 a2 a3 : Value} {s0 : Int32} {s1 : Int32} {h : AHp} : Rf d 217 463 [a0, a1, a2, a3] [.int s0, .int s1] h = if s1 = s0 then Rf d 217 1008 [a0, a1, a2, a3] [] h else Rf d 217 466 [a0, a1, a2, a3] [] h := Rf_brd ((stp_of c217_463).trans rfl)
theorem c217_466 : cd 217 466 = some (466, .iconst 0, 1, []) := by decide +kernel
theorem x217_466 {d : Nat} {a0 a1 a2 a3 : Value} {h : AHp} : Rf d 217 466 [a0, a1, a2, a3] [] h = Rf d 217 467 [a0, a1, a2, a3] [.int 0] h := Rf_go ((stp_of c217_466).trans rfl)
theorem c217_467 : cd 217 467 = some (467, .ireturn, 1, []) := by decide +kernel
theorem x217_467 {d : Nat} {a0 a1 a2 a3 : Value} {s0 : Int32} {h : AHp} : Rf d 217 467 [a0, a1, a2, a3] [.int s0] h = if retI (some .boolean) s0 = true then some (some (.int s0), h) else Rx d 217 467 [a0, a1, a2, a3] [.int s0] h := Rf_ife (fun hk => by rw [stp_of c217_467]; exact if_pos hk)
theorem c217_432 : cd 217 432 = some (432, .aload_n 1, 1, []) := by decide +kernel
theorem x217_432 {d : Nat} {a0 a2 a3 : Value} {x : Nat} {h : AHp} : Rf d 217 432 [a0, .ref x, a2, a3] [] h = Rf d 217 433 [a0, .ref x, a2, a3] [.ref x] h := Rf_go ((stp_of c217_432).trans rfl)
theorem c217_433 : cd 217 433 = some (433, .aload_n 0, 1, []) := by decide +kernel
theorem x217_433 {d : Nat} {a1 a2 a3 : Value} {s0 : Nat} {x : Nat} {h : AHp} : Rf d 217 433 [.ref x, a1, a2, a3] [.ref s0] h = Rf d 217 434 [.ref x, a1, a2, a3] [.ref x, .ref s0] h := Rf_go ((stp_of c217_433).trans rfl)
theorem c217_434 : cd 217 434 = some (434, .iload_n 3, 1, []) := by decide +kernel
theorem x217_434 {d : Nat} {a0 a1 a2 : Value} {s0 : Nat} {s1 : Nat} {x : Int32} {h : AHp} : Rf d 217 434 [a0, a1, a2, .int x] [.ref s0, .ref s1] h = Rf d 217 435 [a0, a1, a2, .int x] [.int x, .ref s0, .ref s1] h := Rf_go ((stp_of c217_434).trans rfl)
theorem c217_435 : cd 217 435 = some (435, .iconst 1, 1, []) := by decide +kernel
theorem x217_435 {d : Nat} {a0 a1 a2 a3 : Value} {s0 : Int32} {s1 : Nat} {s2 : Nat} {h : AHp} : Rf d 217 435 [a0, a1, a2, a3] [.int s0, .ref s1, .ref s2] h = Rf d 217 436 [a0, a1, a2, a3] [.int 1, .int s0, .ref s1, .ref s2] h := Rf_go ((stp_of c217_435).trans rfl)
theorem c217_436 : cd 217 436 = some (436, .iadd, 1, []) := by decide +kernel
theorem x217_436 {d : Nat} {a0 a1 a2 a3 : Value} {s0 : Int32} {s1 : Int32} {s2 : Nat} {s3 : Nat} {h : AHp} : Rf d 217 436 [a0, a1, a2, a3] [.int s0, .int s1, .ref s2, .ref s3] h = Rf d 217 437 [a0, a1, a2, a3] [.int (s1 + s0), .ref s2, .ref s3] h := Rf_go ((stp_of c217_436).trans rfl)
theorem c217_437 : cd 217 437 = some (437, .iaload, 1, []) := by decide +kernel
theorem x217_437 {d : Nat} {a0 a1 a2 a3 : Value} {s0 : Int32} {s1 : Nat} {s2 : Nat} {h : AHp} : Rf d 217 437 [a0, a1, a2, a3] [.int s0, .ref s1, .ref s2] h = if (aT (h.1 s1) = 0 ∨ aT (h.1 s1) = 10) ∧ inB s0 (aN (h.1 s1)) = true then Rf d 217 438 [a0, a1, a2, a3] [.int (aF (h.1 s1) s0.toNatClampNeg), .ref s2] h else Rx d 217 437 [a0, a1, a2, a3] [.int s0, .ref s1, .ref s2] h := ldI c217_437
theorem c217_438 : cd 217 438 = some (438, .invokevirtual 50, 3, [(11, 103)]) := by decide +kernel
theorem xc217_438 {d : Nat} {a0 a1 a2 a3 : Value} {s0 : Int32} {s1 : Nat} {h : AHp} {h1 : AHp} {v : Int32} (hr : cls (h.1 s1) = 11) (hq : Rf d 103 0 [.ref s1, .int s0, noV] [] h = some (some (.int v), h1)) : Rf (d + 1) 217 438 [a0, a1, a2, a3] [.int s0, .ref s1] h = Rf (d + 1) 217 441 [a0, a1, a2, a3] [.int v] h1 := clV (c := 103) (as := [.int s0]) c217_438 rfl (by simp [isV]) (by rw [hr]; rfl) hq
theorem c217_441 : cd 217 441 = some (441, .aload_n 2, 1, []) := by decide +kernel
theorem x217_441 {d : Nat} {a0 a1 a3 : Value} {s0 : Int32} {x : Nat} {h : AHp} : Rf d 217 441 [a0, a1, .ref x, a3] [.int s0] h = Rf d 217 442 [a0, a1, .ref x, a3] [.ref x, .int s0] h := Rf_go ((stp_of c217_441).trans rfl)
theorem c217_442 : cd 217 442 = some (442, .aload_n 0, 1, []) := by decide +kernel
theorem x217_442 {d : Nat} {a1 a2 a3 : Value} {s0 : Nat} {s1 : Int32} {x : Nat} {h : AHp} : Rf d 217 442 [.ref x, a1, a2, a3] [.ref s0, .int s1] h = Rf d 217 443 [.ref x, a1, a2, a3] [.ref x, .ref s0, .int s1] h := Rf_go ((stp_of c217_442).trans rfl)
theorem c217_443 : cd 217 443 = some (443, .iload_n 3, 1, []) := by decide +kernel
theorem x217_443 {d : Nat} {a0 a1 a2 : Value} {s0 : Nat} {s1 : Nat} {s2 : Int32} {x : Int32} {h : AHp} : Rf d 217 443 [a0, a1, a2, .int x] [.ref s0, .ref s1, .int s2] h = Rf d 217 444 [a0, a1, a2, .int x] [.int x, .ref s0, .ref s1, .int s2] h := Rf_go ((stp_of c217_443).trans rfl)
theorem c217_444 : cd 217 444 = some (444, .iconst 1, 1, []) := by decide +kernel
theorem x217_444 {d : Nat} {a0 a1 a2 a3 : Value} {s0 : Int32} {s1 : Nat} {s2 : Nat} {s3 : Int32} {h : AHp} : Rf d 217 444 [a0, a1, a2, a3] [.int s0, .ref s1, .ref s2, .int s3] h = Rf d 217 445 [a0, a1, a2, a3] [.int 1, .int s0, .ref s1, .ref s2, .int s3] h := Rf_go ((stp_of c217_444).trans rfl)
theorem c217_445 : cd 217 445 = some (445, .iadd, 1, []) := by decide +kernel
theorem x217_445 {d : Nat} {a0 a1 a2 a3 : Value} {s0 : Int32} {s1 : Int32} {s2 : Nat} {s3 : Nat} {s4 : Int32} {h : AHp} : Rf d 217 445 [a0, a1, a2, a3] [.int s0, .int s1, .ref s2, .ref s3, .int s4] h = Rf d 217 446 [a0, a1, a2, a3] [.int (s1 + s0), .ref s2, .ref s3, .int s4] h := Rf_go ((stp_of c217_445).trans rfl)
theorem c217_446 : cd 217 446 = some (446, .iaload, 1, []) := by decide +kernel
theorem x217_446 {d : Nat} {a0 a1 a2 a3 : Value} {s0 : Int32} {s1 : Nat} {s2 : Nat} {s3 : Int32} {h : AHp} : Rf d 217 446 [a0, a1, a2, a3] [.int s0, .ref s1, .ref s2, .int s3] h = if (aT (h.1 s1) = 0 ∨ aT (h.1 s1) = 10) ∧ inB s0 (aN (h.1 s1)) = true then Rf d 217 447 [a0, a1, a2, a3] [.int (aF (h.1 s1) s0.toNatClampNeg), .ref s2, .int s3] h else Rx d 217 446 [a0, a1, a2, a3] [.int s0, .ref s1, .ref s2, .int s3] h := ldI c217_446
theorem c217_447 : cd 217 447 = some (447, .invokevirtual 53, 3, [(12, 167)]) := by decide +kernel
theorem xc217_447 {d : Nat} {a0 a1 a2 a3 : Value} {s0 : Int32} {s1 : Nat} {s2 : Int32} {h : AHp} {h1 : AHp} {v : Int32} (hr : cls (h.1 s1) = 12) (hq : Rf d 167 0 [.ref s1, .int s0, noV] [] h = some (some (.int v), h1)) : Rf (d + 1) 217 447 [a0, a1, a2, a3] [.int s0, .ref s1, .int s2] h = Rf (d + 1) 217 450 [a0, a1, a2, a3] [.int v, .int s2] h1 := clV (c := 167) (as := [.int s0]) c217_447 rfl (by simp [isV]) (by rw [hr]; rfl) hq
theorem c217_450 : cd 217 450 = some (450, .if_icmp .eq 558, 3, [(1008, 0)]) := by decide +kernel
theorem x217_450 {d : Nat} {a0 a1 a2 a3 : Value} {s0 : Int32} {s1 : Int32} {h : AHp} : Rf d 217 450 [a0, a1, a2, a3] [.int s0, .int s1] h = if s1 = s0 then Rf d 217 1008 [a0, a1, a2, a3] [] h else Rf d 217 453 [a0, a1, a2, a3] [] h := Rf_brd ((stp_of c217_450).trans rfl)
theorem c217_453 : cd 217 453 = some (453, .iconst 0, 1, []) := by decide +kernel
theorem x217_453 {d : Nat} {a0 a1 a2 a3 : Value} {h : AHp} : Rf d 217 453 [a0, a1, a2, a3] [] h = Rf d 217 454 [a0, a1, a2, a3] [.int 0] h := Rf_go ((stp_of c217_453).trans rfl)
theorem c217_454 : cd 217 454 = some (454, .ireturn, 1, []) := by decide +kernel
theorem x217_454 {d : Nat} {a0 a1 a2 a3 : Value} {s0 : Int32} {h : AHp} : Rf d 217 454 [a0, a1, a2, a3] [.int s0] h = if retI (some .boolean) s0 = true then some (some (.int s0), h) else Rx d 217 454 [a0, a1, a2, a3] [.int s0] h := Rf_ife (fun hk => by rw [stp_of c217_454]; exact if_pos hk)
theorem c217_389 : cd 217 389 = some (389, .aload_n 1, 1, []) := by decide +kernel
theorem x217_389 {d : Nat} {a0 a2 a3 : Value} {x : Nat} {h : AHp} : Rf d 217 389 [a0, .ref x, a2, a3] [] h = Rf d 217 390 [a0, .ref x, a2, a3] [.ref x] h := Rf_go ((stp_of c217_389).trans rfl)
theorem c217_390 : cd 217 390 = some (390, .aload_n 0, 1, []) := by decide +kernel
theorem x217_390 {d : Nat} {a1 a2 a3 : Value} {s0 : Nat} {x : Nat} {h : AHp} : Rf d 217 390 [.ref x, a1, a2, a3] [.ref s0] h = Rf d 217 391 [.ref x, a1, a2, a3] [.ref x, .ref s0] h := Rf_go ((stp_of c217_390).trans rfl)
theorem c217_391 : cd 217 391 = some (391, .iload_n 3, 1, []) := by decide +kernel
theorem x217_391 {d : Nat} {a0 a1 a2 : Value} {s0 : Nat} {s1 : Nat} {x : Int32} {h : AHp} : Rf d 217 391 [a0, a1, a2, .int x] [.ref s0, .ref s1] h = Rf d 217 392 [a0, a1, a2, .int x] [.int x, .ref s0, .ref s1] h := Rf_go ((stp_of c217_391).trans rfl)
theorem c217_392 : cd 217 392 = some (392, .iconst 1, 1, []) := by decide +kernel
theorem x217_392 {d : Nat} {a0 a1 a2 a3 : Value} {s0 : Int32} {s1 : Nat} {s2 : Nat} {h : AHp} : Rf d 217 392 [a0, a1, a2, a3] [.int s0, .ref s1, .ref s2] h = Rf d 217 393 [a0, a1, a2, a3] [.int 1, .int s0, .ref s1, .ref s2] h := Rf_go ((stp_of c217_392).trans rfl)
theorem c217_393 : cd 217 393 = some (393, .iadd, 1, []) := by decide +kernel
theorem x217_393 {d : Nat} {a0 a1 a2 a3 : Value} {s0 : Int32} {s1 : Int32} {s2 : Nat} {s3 : Nat} {h : AHp} : Rf d 217 393 [a0, a1, a2, a3] [.int s0, .int s1, .ref s2, .ref s3] h = Rf d 217 394 [a0, a1, a2, a3] [.int (s1 + s0), .ref s2, .ref s3] h := Rf_go ((stp_of c217_393).trans rfl)
theorem c217_394 : cd 217 394 = some (394, .iaload, 1, []) := by decide +kernel
theorem x217_394 {d : Nat} {a0 a1 a2 a3 : Value} {s0 : Int32} {s1 : Nat} {s2 : Nat} {h : AHp} : Rf d 217 394 [a0, a1, a2, a3] [.int s0, .ref s1, .ref s2] h = if (aT (h.1 s1) = 0 ∨ aT (h.1 s1) = 10) ∧ inB s0 (aN (h.1 s1)) = true then Rf d 217 395 [a0, a1, a2, a3] [.int (aF (h.1 s1) s0.toNatClampNeg), .ref s2] h else Rx d 217 394 [a0, a1, a2, a3] [.int s0, .ref s1, .ref s2] h := ldI c217_394
theorem c217_395 : cd 217 395 = some (395, .aload_n 0, 1, []) := by decide +kernel
theorem x217_395 {d : Nat} {a1 a2 a3 : Value} {s0 : Int32} {s1 : Nat} {x : Nat} {h : AHp} : Rf d 217 395 [.ref x, a1, a2, a3] [.int s0, .ref s1] h = Rf d 217 396 [.ref x, a1, a2, a3] [.ref x, .int s0, .ref s1] h := Rf_go ((stp_of c217_395).trans rfl)
theorem c217_396 : cd 217 396 = some (396, .iload_n 3, 1, []) := by decide +kernel
theorem x217_396 {d : Nat} {a0 a1 a2 : Value} {s0 : Nat} {s1 : Int32} {s2 : Nat} {x : Int32} {h : AHp} : Rf d 217 396 [a0, a1, a2, .int x] [.ref s0, .int s1, .ref s2] h = Rf d 217 397 [a0, a1, a2, .int x] [.int x, .ref s0, .int s1, .ref s2] h := Rf_go ((stp_of c217_396).trans rfl)
theorem c217_397 : cd 217 397 = some (397, .iconst 2, 1, []) := by decide +kernel
theorem x217_397 {d : Nat} {a0 a1 a2 a3 : Value} {s0 : Int32} {s1 : Nat} {s2 : Int32} {s3 : Nat} {h : AHp} : Rf d 217 397 [a0, a1, a2, a3] [.int s0, .ref s1, .int s2, .ref s3] h = Rf d 217 398 [a0, a1, a2, a3] [.int 2, .int s0, .ref s1, .int s2, .ref s3] h := Rf_go ((stp_of c217_397).trans rfl)
theorem c217_398 : cd 217 398 = some (398, .iadd, 1, []) := by decide +kernel
theorem x217_398 {d : Nat} {a0 a1 a2 a3 : Value} {s0 : Int32} {s1 : Int32} {s2 : Nat} {s3 : Int32} {s4 : Nat} {h : AHp} : Rf d 217 398 [a0, a1, a2, a3] [.int s0, .int s1, .ref s2, .int s3, .ref s4] h = Rf d 217 399 [a0, a1, a2, a3] [.int (s1 + s0), .ref s2, .int s3, .ref s4] h := Rf_go ((stp_of c217_398).trans rfl)
theorem c217_399 : cd 217 399 = some (399, .iaload, 1, []) := by decide +kernel
theorem x217_399 {d : Nat} {a0 a1 a2 a3 : Value} {s0 : Int32} {s1 : Nat} {s2 : Int32} {s3 : Nat} {h : AHp} : Rf d 217 399 [a0, a1, a2, a3] [.int s0, .ref s1, .int s2, .ref s3] h = if (aT (h.1 s1) = 0 ∨ aT (h.1 s1) = 10) ∧ inB s0 (aN (h.1 s1)) = true then Rf d 217 400 [a0, a1, a2, a3] [.int (aF (h.1 s1) s0.toNatClampNeg), .int s2, .ref s3] h else Rx d 217 399 [a0, a1, a2, a3] [.int s0, .ref s1, .int s2, .ref s3] h := ldI c217_399
theorem c217_400 : cd 217 400 = some (400, .aload_n 0, 1, []) := by decide +kernel
theorem x217_400 {d : Nat} {a1 a2 a3 : Value} {s0 : Int32} {s1 : Int32} {s2 : Nat} {x : Nat} {h : AHp} : Rf d 217 400 [.ref x, a1, a2, a3] [.int s0, .int s1, .ref s2] h = Rf d 217 401 [.ref x, a1, a2, a3] [.ref x, .int s0, .int s1, .ref s2] h := Rf_go ((stp_of c217_400).trans rfl)
theorem c217_401 : cd 217 401 = some (401, .iload_n 3, 1, []) := by decide +kernel
theorem x217_401 {d : Nat} {a0 a1 a2 : Value} {s0 : Nat} {s1 : Int32} {s2 : Int32} {s3 : Nat} {x : Int32} {h : AHp} : Rf d 217 401 [a0, a1, a2, .int x] [.ref s0, .int s1, .int s2, .ref s3] h = Rf d 217 402 [a0, a1, a2, .int x] [.int x, .ref s0, .int s1, .int s2, .ref s3] h := Rf_go ((stp_of c217_401).trans rfl)
theorem c217_402 : cd 217 402 = some (402, .iconst 3, 1, []) := by decide +kernel
theorem x217_402 {d : Nat} {a0 a1 a2 a3 : Value} {s0 : Int32} {s1 : Nat} {s2 : Int32} {s3 : Int32} {s4 : Nat} {h : AHp} : Rf d 217 402 [a0, a1, a2, a3] [.int s0, .ref s1, .int s2, .int s3, .ref s4] h = Rf d 217 403 [a0, a1, a2, a3] [.int 3, .int s0, .ref s1, .int s2, .int s3, .ref s4] h := Rf_go ((stp_of c217_402).trans rfl)
theorem c217_403 : cd 217 403 = some (403, .iadd, 1, []) := by decide +kernel
theorem x217_403 {d : Nat} {a0 a1 a2 a3 : Value} {s0 : Int32} {s1 : Int32} {s2 : Nat} {s3 : Int32} {s4 : Int32} {s5 : Nat} {h : AHp} : Rf d 217 403 [a0, a1, a2, a3] [.int s0, .int s1, .ref s2, .int s3, .int s4, .ref s5] h = Rf d 217 404 [a0, a1, a2, a3] [.int (s1 + s0), .ref s2, .int s3, .int s4, .ref s5] h := Rf_go ((stp_of c217_403).trans rfl)
theorem c217_404 : cd 217 404 = some (404, .iaload, 1, []) := by decide +kernel
theorem x217_404 {d : Nat} {a0 a1 a2 a3 : Value} {s0 : Int32} {s1 : Nat} {s2 : Int32} {s3 : Int32} {s4 : Nat} {h : AHp} : Rf d 217 404 [a0, a1, a2, a3] [.int s0, .ref s1, .int s2, .int s3, .ref s4] h = if (aT (h.1 s1) = 0 ∨ aT (h.1 s1) = 10) ∧ inB s0 (aN (h.1 s1)) = true then Rf d 217 405 [a0, a1, a2, a3] [.int (aF (h.1 s1) s0.toNatClampNeg), .int s2, .int s3, .ref s4] h else Rx d 217 404 [a0, a1, a2, a3] [.int s0, .ref s1, .int s2, .int s3, .ref s4] h := ldI c217_404
theorem c217_405 : cd 217 405 = some (405, .invokevirtual 46, 3, [(11, 102)]) := by decide +kernel
theorem xc217_405 {d : Nat} {a0 a1 a2 a3 : Value} {s0 : Int32} {s1 : Int32} {s2 : Int32} {s3 : Nat} {h : AHp} {h1 : AHp} {v : Int32} (hr : cls (h.1 s3) = 11) (hq : Rf d 102 0 [.ref s3, .int s2, .int s1, .int s0, noV, noV] [] h = some (some (.int v), h1)) : Rf (d + 1) 217 405 [a0, a1, a2, a3] [.int s0, .int s1, .int s2, .ref s3] h = Rf (d + 1) 217 408 [a0, a1, a2, a3] [.int v] h1 := clV (c := 102) (as := [.int s2, .int s1, .int s0]) c217_405 rfl (by simp [isV]) (by rw [hr]; rfl) hq
theorem c217_408 : cd 217 408 = some (408, .aload_n 2, 1, []) := by decide +kernel
theorem x217_408 {d : Nat} {a0 a1 a3 : Value} {s0 : Int32} {x : Nat} {h : AHp} : Rf d 217 408 [a0, a1, .ref x, a3] [.int s0] h = Rf d 217 409 [a0, a1, .ref x, a3] [.ref x, .int s0] h := Rf_go ((stp_of c217_408).trans rfl)
theorem c217_409 : cd 217 409 = some (409, .aload_n 0, 1, []) := by decide +kernel
theorem x217_409 {d : Nat} {a1 a2 a3 : Value} {s0 : Nat} {s1 : Int32} {x : Nat} {h : AHp} : Rf d 217 409 [.ref x, a1, a2, a3] [.ref s0, .int s1] h = Rf d 217 410 [.ref x, a1, a2, a3] [.ref x, .ref s0, .int s1] h := Rf_go ((stp_of c217_409).trans rfl)
theorem c217_410 : cd 217 410 = some (410, .iload_n 3, 1, []) := by decide +kernel
theorem x217_410 {d : Nat} {a0 a1 a2 : Value} {s0 : Nat} {s1 : Nat} {s2 : Int32} {x : Int32} {h : AHp} : Rf d 217 410 [a0, a1, a2, .int x] [.ref s0, .ref s1, .int s2] h = Rf d 217 411 [a0, a1, a2, .int x] [.int x, .ref s0, .ref s1, .int s2] h := Rf_go ((stp_of c217_410).trans rfl)
theorem c217_411 : cd 217 411 = some (411, .iconst 1, 1, []) := by decide +kernel
theorem x217_411 {d : Nat} {a0 a1 a2 a3 : Value} {s0 : Int32} {s1 : Nat} {s2 : Nat} {s3 : Int32} {h : AHp} : Rf d 217 411 [a0, a1, a2, a3] [.int s0, .ref s1, .ref s2, .int s3] h = Rf d 217 412 [a0, a1, a2, a3] [.int 1, .int s0, .ref s1, .ref s2, .int s3] h := Rf_go ((stp_of c217_411).trans rfl)
theorem c217_412 : cd 217 412 = some (412, .iadd, 1, []) := by decide +kernel
theorem x217_412 {d : Nat} {a0 a1 a2 a3 : Value} {s0 : Int32} {s1 : Int32} {s2 : Nat} {s3 : Nat} {s4 : Int32} {h : AHp} : Rf d 217 412 [a0, a1, a2, a3] [.int s0, .int s1, .ref s2, .ref s3, .int s4] h = Rf d 217 413 [a0, a1, a2, a3] [.int (s1 + s0), .ref s2, .ref s3, .int s4] h := Rf_go ((stp_of c217_412).trans rfl)
theorem c217_413 : cd 217 413 = some (413, .iaload, 1, []) := by decide +kernel
theorem x217_413 {d : Nat} {a0 a1 a2 a3 : Value} {s0 : Int32} {s1 : Nat} {s2 : Nat} {s3 : Int32} {h : AHp} : Rf d 217 413 [a0, a1, a2, a3] [.int s0, .ref s1, .ref s2, .int s3] h = if (aT (h.1 s1) = 0 ∨ aT (h.1 s1) = 10) ∧ inB s0 (aN (h.1 s1)) = true then Rf d 217 414 [a0, a1, a2, a3] [.int (aF (h.1 s1) s0.toNatClampNeg), .ref s2, .int s3] h else Rx d 217 413 [a0, a1, a2, a3] [.int s0, .ref s1, .ref s2, .int s3] h := ldI c217_413
theorem c217_414 : cd 217 414 = some (414, .aload_n 0, 1, []) := by decide +kernel
theorem x217_414 {d : Nat} {a1 a2 a3 : Value} {s0 : Int32} {s1 : Nat} {s2 : Int32} {x : Nat} {h : AHp} : Rf d 217 414 [.ref x, a1, a2, a3] [.int s0, .ref s1, .int s2] h = Rf d 217 415 [.ref x, a1, a2, a3] [.ref x, .int s0, .ref s1, .int s2] h := Rf_go ((stp_of c217_414).trans rfl)
theorem c217_415 : cd 217 415 = some (415, .iload_n 3, 1, []) := by decide +kernel
theorem x217_415 {d : Nat} {a0 a1 a2 : Value} {s0 : Nat} {s1 : Int32} {s2 : Nat} {s3 : Int32} {x : Int32} {h : AHp} : Rf d 217 415 [a0, a1, a2, .int x] [.ref s0, .int s1, .ref s2, .int s3] h = Rf d 217 416 [a0, a1, a2, .int x] [.int x, .ref s0, .int s1, .ref s2, .int s3] h := Rf_go ((stp_of c217_415).trans rfl)
theorem c217_416 : cd 217 416 = some (416, .iconst 2, 1, []) := by decide +kernel
theorem x217_416 {d : Nat} {a0 a1 a2 a3 : Value} {s0 : Int32} {s1 : Nat} {s2 : Int32} {s3 : Nat} {s4 : Int32} {h : AHp} : Rf d 217 416 [a0, a1, a2, a3] [.int s0, .ref s1, .int s2, .ref s3, .int s4] h = Rf d 217 417 [a0, a1, a2, a3] [.int 2, .int s0, .ref s1, .int s2, .ref s3, .int s4] h := Rf_go ((stp_of c217_416).trans rfl)
theorem c217_417 : cd 217 417 = some (417, .iadd, 1, []) := by decide +kernel
theorem x217_417 {d : Nat} {a0 a1 a2 a3 : Value} {s0 : Int32} {s1 : Int32} {s2 : Nat} {s3 : Int32} {s4 : Nat} {s5 : Int32} {h : AHp} : Rf d 217 417 [a0, a1, a2, a3] [.int s0, .int s1, .ref s2, .int s3, .ref s4, .int s5] h = Rf d 217 418 [a0, a1, a2, a3] [.int (s1 + s0), .ref s2, .int s3, .ref s4, .int s5] h := Rf_go ((stp_of c217_417).trans rfl)
theorem c217_418 : cd 217 418 = some (418, .iaload, 1, []) := by decide +kernel
theorem x217_418 {d : Nat} {a0 a1 a2 a3 : Value} {s0 : Int32} {s1 : Nat} {s2 : Int32} {s3 : Nat} {s4 : Int32} {h : AHp} : Rf d 217 418 [a0, a1, a2, a3] [.int s0, .ref s1, .int s2, .ref s3, .int s4] h = if (aT (h.1 s1) = 0 ∨ aT (h.1 s1) = 10) ∧ inB s0 (aN (h.1 s1)) = true then Rf d 217 419 [a0, a1, a2, a3] [.int (aF (h.1 s1) s0.toNatClampNeg), .int s2, .ref s3, .int s4] h else Rx d 217 418 [a0, a1, a2, a3] [.int s0, .ref s1, .int s2, .ref s3, .int s4] h := ldI c217_418
theorem c217_419 : cd 217 419 = some (419, .aload_n 0, 1, []) := by decide +kernel
theorem x217_419 {d : Nat} {a1 a2 a3 : Value} {s0 : Int32} {s1 : Int32} {s2 : Nat} {s3 : Int32} {x : Nat} {h : AHp} : Rf d 217 419 [.ref x, a1, a2, a3] [.int s0, .int s1, .ref s2, .int s3] h = Rf d 217 420 [.ref x, a1, a2, a3] [.ref x, .int s0, .int s1, .ref s2, .int s3] h := Rf_go ((stp_of c217_419).trans rfl)
theorem c217_420 : cd 217 420 = some (420, .iload_n 3, 1, []) := by decide +kernel
theorem x217_420 {d : Nat} {a0 a1 a2 : Value} {s0 : Nat} {s1 : Int32} {s2 : Int32} {s3 : Nat} {s4 : Int32} {x : Int32} {h : AHp} : Rf d 217 420 [a0, a1, a2, .int x] [.ref s0, .int s1, .int s2, .ref s3, .int s4] h = Rf d 217 421 [a0, a1, a2, .int x] [.int x, .ref s0, .int s1, .int s2, .ref s3, .int s4] h := Rf_go ((stp_of c217_420).trans rfl)
theorem c217_421 : cd 217 421 = some (421, .iconst 3, 1, []) := by decide +kernel
theorem x217_421 {d : Nat} {a0 a1 a2 a3 : Value} {s0 : Int32} {s1 : Nat} {s2 : Int32} {s3 : Int32} {s4 : Nat} {s5 : Int32} {h : AHp} : Rf d 217 421 [a0, a1, a2, a3] [.int s0, .ref s1, .int s2, .int s3, .ref s4, .int s5] h = Rf d 217 422 [a0, a1, a2, a3] [.int 3, .int s0, .ref s1, .int s2, .int s3, .ref s4, .int s5] h := Rf_go ((stp_of c217_421).trans rfl)
theorem c217_422 : cd 217 422 = some (422, .iadd, 1, []) := by decide +kernel
theorem x217_422 {d : Nat} {a0 a1 a2 a3 : Value} {s0 : Int32} {s1 : Int32} {s2 : Nat} {s3 : Int32} {s4 : Int32} {s5 : Nat} {s6 : Int32} {h : AHp} : Rf d 217 422 [a0, a1, a2, a3] [.int s0, .int s1, .ref s2, .int s3, .int s4, .ref s5, .int s6] h = Rf d 217 423 [a0, a1, a2, a3] [.int (s1 + s0), .ref s2, .int s3, .int s4, .ref s5, .int s6] h := Rf_go ((stp_of c217_422).trans rfl)
theorem c217_423 : cd 217 423 = some (423, .iaload, 1, []) := by decide +kernel
theorem x217_423 {d : Nat} {a0 a1 a2 a3 : Value} {s0 : Int32} {s1 : Nat} {s2 : Int32} {s3 : Int32} {s4 : Nat} {s5 : Int32} {h : AHp} : Rf d 217 423 [a0, a1, a2, a3] [.int s0, .ref s1, .int s2, .int s3, .ref s4, .int s5] h = if (aT (h.1 s1) = 0 ∨ aT (h.1 s1) = 10) ∧ inB s0 (aN (h.1 s1)) = true then Rf d 217 424 [a0, a1, a2, a3] [.int (aF (h.1 s1) s0.toNatClampNeg), .int s2, .int s3, .ref s4, .int s5] h else Rx d 217 423 [a0, a1, a2, a3] [.int s0, .ref s1, .int s2, .int s3, .ref s4, .int s5] h := ldI c217_423
theorem c217_424 : cd 217 424 = some (424, .invokevirtual 49, 3, [(12, 166)]) := by decide +kernel
theorem xc217_424 {d : Nat} {a0 a1 a2 a3 : Value} {s0 : Int32} {s1 : Int32} {s2 : Int32} {s3 : Nat} {s4 : Int32} {h : AHp} {h1 : AHp} {v : Int32} (hr : cls (h.1 s3) = 12) (hq : Rf d 166 0 [.ref s3, .int s2, .int s1, .int s0, noV, noV] [] h = some (some (.int v), h1)) : Rf (d + 1) 217 424 [a0, a1, a2, a3] [.int s0, .int s1, .int s2, .ref s3, .int s4] h = Rf (d + 1) 217 427 [a0, a1, a2, a3] [.int v, .int s4] h1 := clV (c := 166) (as := [.int s2, .int s1, .int s0]) c217_424 rfl (by simp [isV]) (by rw [hr]; rfl) hq
theorem c217_427 : cd 217 427 = some (427, .if_icmp .eq 581, 3, [(1008, 0)]) := by decide +kernel
theorem x217_427 {d : Nat} {a0 a1 a2 a3 : Value} {s0 : Int32} {s1 : Int32} {h : AHp} : Rf d 217 427 [a0, a1, a2, a3] [.int s0, .int s1] h = if s1 = s0 then Rf d 217 1008 [a0, a1, a2, a3] [] h else Rf d 217 430 [a0, a1, a2, a3] [] h := Rf_brd ((stp_of c217_427).trans rfl)
theorem c217_430 : cd 217 430 = some (430, .iconst 0, 1, []) := by decide +kernel
theorem x217_430 {d : Nat} {a0 a1 a2 a3 : Value} {h : AHp} : Rf d 217 430 [a0, a1, a2, a3] [] h = Rf d 217 431 [a0, a1, a2, a3] [.int 0] h := Rf_go ((stp_of c217_430).trans rfl)
theorem c217_431 : cd 217 431 = some (431, .ireturn, 1, []) := by decide +kernel
theorem x217_431 {d : Nat} {a0 a1 a2 a3 : Value} {s0 : Int32} {h : AHp} : Rf d 217 431 [a0, a1, a2, a3] [.int s0] h = if retI (some .boolean) s0 = true then some (some (.int s0), h) else Rx d 217 431 [a0, a1, a2, a3] [.int s0] h := Rf_ife (fun hk => by rw [stp_of c217_431]; exact if_pos hk)
theorem c217_356 : cd 217 356 = some (356, .aload_n 1, 1, []) := by decide +kernel
theorem x217_356 {d : Nat} {a0 a2 a3 : Value} {x : Nat} {h : AHp} : Rf d 217 356 [a0, .ref x, a2, a3] [] h = Rf d 217 357 [a0, .ref x, a2, a3] [.ref x] h := Rf_go ((stp_of c217_356).trans rfl)
theorem c217_357 : cd 217 357 = some (357, .aload_n 0, 1, []) := by decide +kernel
theorem x217_357 {d : Nat} {a1 a2 a3 : Value} {s0 : Nat} {x : Nat} {h : AHp} : Rf d 217 357 [.ref x, a1, a2, a3] [.ref s0] h = Rf d 217 358 [.ref x, a1, a2, a3] [.ref x, .ref s0] h := Rf_go ((stp_of c217_357).trans rfl)
theorem c217_358 : cd 217 358 = some (358, .iload_n 3, 1, []) := by decide +kernel
theorem x217_358 {d : Nat} {a0 a1 a2 : Value} {s0 : Nat} {s1 : Nat} {x : Int32} {h : AHp} : Rf d 217 358 [a0, a1, a2, .int x] [.ref s0, .ref s1] h = Rf d 217 359 [a0, a1, a2, .int x] [.int x, .ref s0, .ref s1] h := Rf_go ((stp_of c217_358).trans rfl)
theorem c217_359 : cd 217 359 = some (359, .iconst 1, 1, []) := by decide +kernel
theorem x217_359 {d : Nat} {a0 a1 a2 a3 : Value} {s0 : Int32} {s1 : Nat} {s2 : Nat} {h : AHp} : Rf d 217 359 [a0, a1, a2, a3] [.int s0, .ref s1, .ref s2] h = Rf d 217 360 [a0, a1, a2, a3] [.int 1, .int s0, .ref s1, .ref s2] h := Rf_go ((stp_of c217_359).trans rfl)
theorem c217_360 : cd 217 360 = some (360, .iadd, 1, []) := by decide +kernel
theorem x217_360 {d : Nat} {a0 a1 a2 a3 : Value} {s0 : Int32} {s1 : Int32} {s2 : Nat} {s3 : Nat} {h : AHp} : Rf d 217 360 [a0, a1, a2, a3] [.int s0, .int s1, .ref s2, .ref s3] h = Rf d 217 361 [a0, a1, a2, a3] [.int (s1 + s0), .ref s2, .ref s3] h := Rf_go ((stp_of c217_360).trans rfl)
theorem c217_361 : cd 217 361 = some (361, .iaload, 1, []) := by decide +kernel
theorem x217_361 {d : Nat} {a0 a1 a2 a3 : Value} {s0 : Int32} {s1 : Nat} {s2 : Nat} {h : AHp} : Rf d 217 361 [a0, a1, a2, a3] [.int s0, .ref s1, .ref s2] h = if (aT (h.1 s1) = 0 ∨ aT (h.1 s1) = 10) ∧ inB s0 (aN (h.1 s1)) = true then Rf d 217 362 [a0, a1, a2, a3] [.int (aF (h.1 s1) s0.toNatClampNeg), .ref s2] h else Rx d 217 361 [a0, a1, a2, a3] [.int s0, .ref s1, .ref s2] h := ldI c217_361
theorem c217_362 : cd 217 362 = some (362, .aload_n 0, 1, []) := by decide +kernel
theorem x217_362 {d : Nat} {a1 a2 a3 : Value} {s0 : Int32} {s1 : Nat} {x : Nat} {h : AHp} : Rf d 217 362 [.ref x, a1, a2, a3] [.int s0, .ref s1] h = Rf d 217 363 [.ref x, a1, a2, a3] [.ref x, .int s0, .ref s1] h := Rf_go ((stp_of c217_362).trans rfl)
theorem c217_363 : cd 217 363 = some (363, .iload_n 3, 1, []) := by decide +kernel
theorem x217_363 {d : Nat} {a0 a1 a2 : Value} {s0 : Nat} {s1 : Int32} {s2 : Nat} {x : Int32} {h : AHp} : Rf d 217 363 [a0, a1, a2, .int x] [.ref s0, .int s1, .ref s2] h = Rf d 217 364 [a0, a1, a2, .int x] [.int x, .ref s0, .int s1, .ref s2] h := Rf_go ((stp_of c217_363).trans rfl)
theorem c217_364 : cd 217 364 = some (364, .iconst 2, 1, []) := by decide +kernel
theorem x217_364 {d : Nat} {a0 a1 a2 a3 : Value} {s0 : Int32} {s1 : Nat} {s2 : Int32} {s3 : Nat} {h : AHp} : Rf d 217 364 [a0, a1, a2, a3] [.int s0, .ref s1, .int s2, .ref s3] h = Rf d 217 365 [a0, a1, a2, a3] [.int 2, .int s0, .ref s1, .int s2, .ref s3] h := Rf_go ((stp_of c217_364).trans rfl)
theorem c217_365 : cd 217 365 = some (365, .iadd, 1, []) := by decide +kernel
theorem x217_365 {d : Nat} {a0 a1 a2 a3 : Value} {s0 : Int32} {s1 : Int32} {s2 : Nat} {s3 : Int32} {s4 : Nat} {h : AHp} : Rf d 217 365 [a0, a1, a2, a3] [.int s0, .int s1, .ref s2, .int s3, .ref s4] h = Rf d 217 366 [a0, a1, a2, a3] [.int (s1 + s0), .ref s2, .int s3, .ref s4] h := Rf_go ((stp_of c217_365).trans rfl)
theorem c217_366 : cd 217 366 = some (366, .iaload, 1, []) := by decide +kernel
theorem x217_366 {d : Nat} {a0 a1 a2 a3 : Value} {s0 : Int32} {s1 : Nat} {s2 : Int32} {s3 : Nat} {h : AHp} : Rf d 217 366 [a0, a1, a2, a3] [.int s0, .ref s1, .int s2, .ref s3] h = if (aT (h.1 s1) = 0 ∨ aT (h.1 s1) = 10) ∧ inB s0 (aN (h.1 s1)) = true then Rf d 217 367 [a0, a1, a2, a3] [.int (aF (h.1 s1) s0.toNatClampNeg), .int s2, .ref s3] h else Rx d 217 366 [a0, a1, a2, a3] [.int s0, .ref s1, .int s2, .ref s3] h := ldI c217_366
theorem c217_367 : cd 217 367 = some (367, .invokevirtual 42, 3, [(11, 101)]) := by decide +kernel
theorem xc217_367 {d : Nat} {a0 a1 a2 a3 : Value} {s0 : Int32} {s1 : Int32} {s2 : Nat} {h : AHp} {h1 : AHp} {v : Int32} (hr : cls (h.1 s2) = 11) (hq : Rf d 101 0 [.ref s2, .int s1, .int s0] [] h = some (some (.int v), h1)) : Rf (d + 1) 217 367 [a0, a1, a2, a3] [.int s0, .int s1, .ref s2] h = Rf (d + 1) 217 370 [a0, a1, a2, a3] [.int v] h1 := clV (c := 101) (as := [.int s1, .int s0]) c217_367 rfl (by simp [isV]) (by rw [hr]; rfl) hq
theorem c217_370 : cd 217 370 = some (370, .aload_n 2, 1, []) := by decide +kernel
theorem x217_370 {d : Nat} {a0 a1 a3 : Value} {s0 : Int32} {x : Nat} {h : AHp} : Rf d 217 370 [a0, a1, .ref x, a3] [.int s0] h = Rf d 217 371 [a0, a1, .ref x, a3] [.ref x, .int s0] h := Rf_go ((stp_of c217_370).trans rfl)
theorem c217_371 : cd 217 371 = some (371, .aload_n 0, 1, []) := by decide +kernel
theorem x217_371 {d : Nat} {a1 a2 a3 : Value} {s0 : Nat} {s1 : Int32} {x : Nat} {h : AHp} : Rf d 217 371 [.ref x, a1, a2, a3] [.ref s0, .int s1] h = Rf d 217 372 [.ref x, a1, a2, a3] [.ref x, .ref s0, .int s1] h := Rf_go ((stp_of c217_371).trans rfl)
theorem c217_372 : cd 217 372 = some (372, .iload_n 3, 1, []) := by decide +kernel
theorem x217_372 {d : Nat} {a0 a1 a2 : Value} {s0 : Nat} {s1 : Nat} {s2 : Int32} {x : Int32} {h : AHp} : Rf d 217 372 [a0, a1, a2, .int x] [.ref s0, .ref s1, .int s2] h = Rf d 217 373 [a0, a1, a2, .int x] [.int x, .ref s0, .ref s1, .int s2] h := Rf_go ((stp_of c217_372).trans rfl)
theorem c217_373 : cd 217 373 = some (373, .iconst 1, 1, []) := by decide +kernel
theorem x217_373 {d : Nat} {a0 a1 a2 a3 : Value} {s0 : Int32} {s1 : Nat} {s2 : Nat} {s3 : Int32} {h : AHp} : Rf d 217 373 [a0, a1, a2, a3] [.int s0, .ref s1, .ref s2, .int s3] h = Rf d 217 374 [a0, a1, a2, a3] [.int 1, .int s0, .ref s1, .ref s2, .int s3] h := Rf_go ((stp_of c217_373).trans rfl)
theorem c217_374 : cd 217 374 = some (374, .iadd, 1, []) := by decide +kernel
theorem x217_374 {d : Nat} {a0 a1 a2 a3 : Value} {s0 : Int32} {s1 : Int32} {s2 : Nat} {s3 : Nat} {s4 : Int32} {h : AHp} : Rf d 217 374 [a0, a1, a2, a3] [.int s0, .int s1, .ref s2, .ref s3, .int s4] h = Rf d 217 375 [a0, a1, a2, a3] [.int (s1 + s0), .ref s2, .ref s3, .int s4] h := Rf_go ((stp_of c217_374).trans rfl)
theorem c217_375 : cd 217 375 = some (375, .iaload, 1, []) := by decide +kernel
theorem x217_375 {d : Nat} {a0 a1 a2 a3 : Value} {s0 : Int32} {s1 : Nat} {s2 : Nat} {s3 : Int32} {h : AHp} : Rf d 217 375 [a0, a1, a2, a3] [.int s0, .ref s1, .ref s2, .int s3] h = if (aT (h.1 s1) = 0 ∨ aT (h.1 s1) = 10) ∧ inB s0 (aN (h.1 s1)) = true then Rf d 217 376 [a0, a1, a2, a3] [.int (aF (h.1 s1) s0.toNatClampNeg), .ref s2, .int s3] h else Rx d 217 375 [a0, a1, a2, a3] [.int s0, .ref s1, .ref s2, .int s3] h := ldI c217_375
theorem c217_376 : cd 217 376 = some (376, .aload_n 0, 1, []) := by decide +kernel
theorem x217_376 {d : Nat} {a1 a2 a3 : Value} {s0 : Int32} {s1 : Nat} {s2 : Int32} {x : Nat} {h : AHp} : Rf d 217 376 [.ref x, a1, a2, a3] [.int s0, .ref s1, .int s2] h = Rf d 217 377 [.ref x, a1, a2, a3] [.ref x, .int s0, .ref s1, .int s2] h := Rf_go ((stp_of c217_376).trans rfl)
theorem c217_377 : cd 217 377 = some (377, .iload_n 3, 1, []) := by decide +kernel
theorem x217_377 {d : Nat} {a0 a1 a2 : Value} {s0 : Nat} {s1 : Int32} {s2 : Nat} {s3 : Int32} {x : Int32} {h : AHp} : Rf d 217 377 [a0, a1, a2, .int x] [.ref s0, .int s1, .ref s2, .int s3] h = Rf d 217 378 [a0, a1, a2, .int x] [.int x, .ref s0, .int s1, .ref s2, .int s3] h := Rf_go ((stp_of c217_377).trans rfl)
theorem c217_378 : cd 217 378 = some (378, .iconst 2, 1, []) := by decide +kernel
theorem x217_378 {d : Nat} {a0 a1 a2 a3 : Value} {s0 : Int32} {s1 : Nat} {s2 : Int32} {s3 : Nat} {s4 : Int32} {h : AHp} : Rf d 217 378 [a0, a1, a2, a3] [.int s0, .ref s1, .int s2, .ref s3, .int s4] h = Rf d 217 379 [a0, a1, a2, a3] [.int 2, .int s0, .ref s1, .int s2, .ref s3, .int s4] h := Rf_go ((stp_of c217_378).trans rfl)
theorem c217_379 : cd 217 379 = some (379, .iadd, 1, []) := by decide +kernel
theorem x217_379 {d : Nat} {a0 a1 a2 a3 : Value} {s0 : Int32} {s1 : Int32} {s2 : Nat} {s3 : Int32} {s4 : Nat} {s5 : Int32} {h : AHp} : Rf d 217 379 [a0, a1, a2, a3] [.int s0, .int s1, .ref s2, .int s3, .ref s4, .int s5] h = Rf d 217 380 [a0, a1, a2, a3] [.int (s1 + s0), .ref s2, .int s3, .ref s4, .int s5] h := Rf_go ((stp_of c217_379).trans rfl)
theorem c217_380 : cd 217 380 = some (380, .iaload, 1, []) := by decide +kernel
theorem x217_380 {d : Nat} {a0 a1 a2 a3 : Value} {s0 : Int32} {s1 : Nat} {s2 : Int32} {s3 : Nat} {s4 : Int32} {h : AHp} : Rf d 217 380 [a0, a1, a2, a3] [.int s0, .ref s1, .int s2, .ref s3, .int s4] h = if (aT (h.1 s1) = 0 ∨ aT (h.1 s1) = 10) ∧ inB s0 (aN (h.1 s1)) = true then Rf d 217 381 [a0, a1, a2, a3] [.int (aF (h.1 s1) s0.toNatClampNeg), .int s2, .ref s3, .int s4] h else Rx d 217 380 [a0, a1, a2, a3] [.int s0, .ref s1, .int s2, .ref s3, .int s4] h := ldI c217_380
theorem c217_381 : cd 217 381 = some (381, .invokevirtual 45, 3, [(12, 165)]) := by decide +kernel
theorem xc217_381 {d : Nat} {a0 a1 a2 a3 : Value} {s0 : Int32} {s1 : Int32} {s2 : Nat} {s3 : Int32} {h : AHp} {h1 : AHp} {v : Int32} (hr : cls (h.1 s2) = 12) (hq : Rf d 165 0 [.ref s2, .int s1, .int s0] [] h = some (some (.int v), h1)) : Rf (d + 1) 217 381 [a0, a1, a2, a3] [.int s0, .int s1, .ref s2, .int s3] h = Rf (d + 1) 217 384 [a0, a1, a2, a3] [.int v, .int s3] h1 := clV (c := 165) (as := [.int s1, .int s0]) c217_381 rfl (by simp [isV]) (by rw [hr]; rfl) hq
theorem c217_384 : cd 217 384 = some (384, .if_icmp .eq 624, 3, [(1008, 0)]) := by decide +kernel
theorem x217_384 {d : Nat} {a0 a1 a2 a3 : Value} {s0 : Int32} {s1 : Int32} {h : AHp} : Rf d 217 384 [a0, a1, a2, a3] [.int s0, .int s1] h = if s1 = s0 then Rf d 217 1008 [a0, a1, a2, a3] [] h else Rf d 217 387 [a0, a1, a2, a3] [] h := Rf_brd ((stp_of c217_384).trans rfl)
theorem c217_387 : cd 217 387 = some (387, .iconst 0, 1, []) := by decide +kernel
theorem x217_387 {d : Nat} {a0 a1 a2 a3 : Value} {h : AHp} : Rf d 217 387 [a0, a1, a2, a3] [] h = Rf d 217 388 [a0, a1, a2, a3] [.int 0] h := Rf_go ((stp_of c217_387).trans rfl)
theorem c217_388 : cd 217 388 = some (388, .ireturn, 1, []) := by decide +kernel
theorem x217_388 {d : Nat} {a0 a1 a2 a3 : Value} {s0 : Int32} {h : AHp} : Rf d 217 388 [a0, a1, a2, a3] [.int s0] h = if retI (some .boolean) s0 = true then some (some (.int s0), h) else Rx d 217 388 [a0, a1, a2, a3] [.int s0] h := Rf_ife (fun hk => by rw [stp_of c217_388]; exact if_pos hk)
theorem c217_323 : cd 217 323 = some (323, .aload_n 1, 1, []) := by decide +kernel
theorem x217_323 {d : Nat} {a0 a2 a3 : Value} {x : Nat} {h : AHp} : Rf d 217 323 [a0, .ref x, a2, a3] [] h = Rf d 217 324 [a0, .ref x, a2, a3] [.ref x] h := Rf_go ((stp_of c217_323).trans rfl)
theorem c217_324 : cd 217 324 = some (324, .aload_n 0, 1, []) := by decide +kernel
theorem x217_324 {d : Nat} {a1 a2 a3 : Value} {s0 : Nat} {x : Nat} {h : AHp} : Rf d 217 324 [.ref x, a1, a2, a3] [.ref s0] h = Rf d 217 325 [.ref x, a1, a2, a3] [.ref x, .ref s0] h := Rf_go ((stp_of c217_324).trans rfl)
theorem c217_325 : cd 217 325 = some (325, .iload_n 3, 1, []) := by decide +kernel
theorem x217_325 {d : Nat} {a0 a1 a2 : Value} {s0 : Nat} {s1 : Nat} {x : Int32} {h : AHp} : Rf d 217 325 [a0, a1, a2, .int x] [.ref s0, .ref s1] h = Rf d 217 326 [a0, a1, a2, .int x] [.int x, .ref s0, .ref s1] h := Rf_go ((stp_of c217_325).trans rfl)
theorem c217_326 : cd 217 326 = some (326, .iconst 1, 1, []) := by decide +kernel
theorem x217_326 {d : Nat} {a0 a1 a2 a3 : Value} {s0 : Int32} {s1 : Nat} {s2 : Nat} {h : AHp} : Rf d 217 326 [a0, a1, a2, a3] [.int s0, .ref s1, .ref s2] h = Rf d 217 327 [a0, a1, a2, a3] [.int 1, .int s0, .ref s1, .ref s2] h := Rf_go ((stp_of c217_326).trans rfl)
theorem c217_327 : cd 217 327 = some (327, .iadd, 1, []) := by decide +kernel
theorem x217_327 {d : Nat} {a0 a1 a2 a3 : Value} {s0 : Int32} {s1 : Int32} {s2 : Nat} {s3 : Nat} {h : AHp} : Rf d 217 327 [a0, a1, a2, a3] [.int s0, .int s1, .ref s2, .ref s3] h = Rf d 217 328 [a0, a1, a2, a3] [.int (s1 + s0), .ref s2, .ref s3] h := Rf_go ((stp_of c217_327).trans rfl)
theorem c217_328 : cd 217 328 = some (328, .iaload, 1, []) := by decide +kernel
theorem x217_328 {d : Nat} {a0 a1 a2 a3 : Value} {s0 : Int32} {s1 : Nat} {s2 : Nat} {h : AHp} : Rf d 217 328 [a0, a1, a2, a3] [.int s0, .ref s1, .ref s2] h = if (aT (h.1 s1) = 0 ∨ aT (h.1 s1) = 10) ∧ inB s0 (aN (h.1 s1)) = true then Rf d 217 329 [a0, a1, a2, a3] [.int (aF (h.1 s1) s0.toNatClampNeg), .ref s2] h else Rx d 217 328 [a0, a1, a2, a3] [.int s0, .ref s1, .ref s2] h := ldI c217_328
theorem c217_329 : cd 217 329 = some (329, .aload_n 0, 1, []) := by decide +kernel
theorem x217_329 {d : Nat} {a1 a2 a3 : Value} {s0 : Int32} {s1 : Nat} {x : Nat} {h : AHp} : Rf d 217 329 [.ref x, a1, a2, a3] [.int s0, .ref s1] h = Rf d 217 330 [.ref x, a1, a2, a3] [.ref x, .int s0, .ref s1] h := Rf_go ((stp_of c217_329).trans rfl)
theorem c217_330 : cd 217 330 = some (330, .iload_n 3, 1, []) := by decide +kernel
theorem x217_330 {d : Nat} {a0 a1 a2 : Value} {s0 : Nat} {s1 : Int32} {s2 : Nat} {x : Int32} {h : AHp} : Rf d 217 330 [a0, a1, a2, .int x] [.ref s0, .int s1, .ref s2] h = Rf d 217 331 [a0, a1, a2, .int x] [.int x, .ref s0, .int s1, .ref s2] h := Rf_go ((stp_of c217_330).trans rfl)
theorem c217_331 : cd 217 331 = some (331, .iconst 2, 1, []) := by decide +kernel
theorem x217_331 {d : Nat} {a0 a1 a2 a3 : Value} {s0 : Int32} {s1 : Nat} {s2 : Int32} {s3 : Nat} {h : AHp} : Rf d 217 331 [a0, a1, a2, a3] [.int s0, .ref s1, .int s2, .ref s3] h = Rf d 217 332 [a0, a1, a2, a3] [.int 2, .int s0, .ref s1, .int s2, .ref s3] h := Rf_go ((stp_of c217_331).trans rfl)
theorem c217_332 : cd 217 332 = some (332, .iadd, 1, []) := by decide +kernel
theorem x217_332 {d : Nat} {a0 a1 a2 a3 : Value} {s0 : Int32} {s1 : Int32} {s2 : Nat} {s3 : Int32} {s4 : Nat} {h : AHp} : Rf d 217 332 [a0, a1, a2, a3] [.int s0, .int s1, .ref s2, .int s3, .ref s4] h = Rf d 217 333 [a0, a1, a2, a3] [.int (s1 + s0), .ref s2, .int s3, .ref s4] h := Rf_go ((stp_of c217_332).trans rfl)
theorem c217_333 : cd 217 333 = some (333, .iaload, 1, []) := by decide +kernel
theorem x217_333 {d : Nat} {a0 a1 a2 a3 : Value} {s0 : Int32} {s1 : Nat} {s2 : Int32} {s3 : Nat} {h : AHp} : Rf d 217 333 [a0, a1, a2, a3] [.int s0, .ref s1, .int s2, .ref s3] h = if (aT (h.1 s1) = 0 ∨ aT (h.1 s1) = 10) ∧ inB s0 (aN (h.1 s1)) = true then Rf d 217 334 [a0, a1, a2, a3] [.int (aF (h.1 s1) s0.toNatClampNeg), .int s2, .ref s3] h else Rx d 217 333 [a0, a1, a2, a3] [.int s0, .ref s1, .int s2, .ref s3] h := ldI c217_333
theorem c217_334 : cd 217 334 = some (334, .invokevirtual 37, 3, [(11, 100)]) := by decide +kernel
theorem xc217_334 {d : Nat} {a0 a1 a2 a3 : Value} {s0 : Int32} {s1 : Int32} {s2 : Nat} {h : AHp} {h1 : AHp} {v : Int32} (hr : cls (h.1 s2) = 11) (hq : Rf d 100 0 [.ref s2, .int s1, .int s0, noV] [] h = some (some (.int v), h1)) : Rf (d + 1) 217 334 [a0, a1, a2, a3] [.int s0, .int s1, .ref s2] h = Rf (d + 1) 217 337 [a0, a1, a2, a3] [.int v] h1 := clV (c := 100) (as := [.int s1, .int s0]) c217_334 rfl (by simp [isV]) (by rw [hr]; rfl) hq
theorem c217_337 : cd 217 337 = some (337, .aload_n 2, 1, []) := by decide +kernel
theorem x217_337 {d : Nat} {a0 a1 a3 : Value} {s0 : Int32} {x : Nat} {h : AHp} : Rf d 217 337 [a0, a1, .ref x, a3] [.int s0] h = Rf d 217 338 [a0, a1, .ref x, a3] [.ref x, .int s0] h := Rf_go ((stp_of c217_337).trans rfl)
theorem c217_338 : cd 217 338 = some (338, .aload_n 0, 1, []) := by decide +kernel
theorem x217_338 {d : Nat} {a1 a2 a3 : Value} {s0 : Nat} {s1 : Int32} {x : Nat} {h : AHp} : Rf d 217 338 [.ref x, a1, a2, a3] [.ref s0, .int s1] h = Rf d 217 339 [.ref x, a1, a2, a3] [.ref x, .ref s0, .int s1] h := Rf_go ((stp_of c217_338).trans rfl)
theorem c217_339 : cd 217 339 = some (339, .iload_n 3, 1, []) := by decide +kernel
theorem x217_339 {d : Nat} {a0 a1 a2 : Value} {s0 : Nat} {s1 : Nat} {s2 : Int32} {x : Int32} {h : AHp} : Rf d 217 339 [a0, a1, a2, .int x] [.ref s0, .ref s1, .int s2] h = Rf d 217 340 [a0, a1, a2, .int x] [.int x, .ref s0, .ref s1, .int s2] h := Rf_go ((stp_of c217_339).trans rfl)
theorem c217_340 : cd 217 340 = some (340, .iconst 1, 1, []) := by decide +kernel
theorem x217_340 {d : Nat} {a0 a1 a2 a3 : Value} {s0 : Int32} {s1 : Nat} {s2 : Nat} {s3 : Int32} {h : AHp} : Rf d 217 340 [a0, a1, a2, a3] [.int s0, .ref s1, .ref s2, .int s3] h = Rf d 217 341 [a0, a1, a2, a3] [.int 1, .int s0, .ref s1, .ref s2, .int s3] h := Rf_go ((stp_of c217_340).trans rfl)
theorem c217_341 : cd 217 341 = some (341, .iadd, 1, []) := by decide +kernel
theorem x217_341 {d : Nat} {a0 a1 a2 a3 : Value} {s0 : Int32} {s1 : Int32} {s2 : Nat} {s3 : Nat} {s4 : Int32} {h : AHp} : Rf d 217 341 [a0, a1, a2, a3] [.int s0, .int s1, .ref s2, .ref s3, .int s4] h = Rf d 217 342 [a0, a1, a2, a3] [.int (s1 + s0), .ref s2, .ref s3, .int s4] h := Rf_go ((stp_of c217_341).trans rfl)
theorem c217_342 : cd 217 342 = some (342, .iaload, 1, []) := by decide +kernel
theorem x217_342 {d : Nat} {a0 a1 a2 a3 : Value} {s0 : Int32} {s1 : Nat} {s2 : Nat} {s3 : Int32} {h : AHp} : Rf d 217 342 [a0, a1, a2, a3] [.int s0, .ref s1, .ref s2, .int s3] h = if (aT (h.1 s1) = 0 ∨ aT (h.1 s1) = 10) ∧ inB s0 (aN (h.1 s1)) = true then Rf d 217 343 [a0, a1, a2, a3] [.int (aF (h.1 s1) s0.toNatClampNeg), .ref s2, .int s3] h else Rx d 217 342 [a0, a1, a2, a3] [.int s0, .ref s1, .ref s2, .int s3] h := ldI c217_342
theorem c217_343 : cd 217 343 = some (343, .aload_n 0, 1, []) := by decide +kernel
theorem x217_343 {d : Nat} {a1 a2 a3 : Value} {s0 : Int32} {s1 : Nat} {s2 : Int32} {x : Nat} {h : AHp} : Rf d 217 343 [.ref x, a1, a2, a3] [.int s0, .ref s1, .int s2] h = Rf d 217 344 [.ref x, a1, a2, a3] [.ref x, .int s0, .ref s1, .int s2] h := Rf_go ((stp_of c217_343).trans rfl)
theorem c217_344 : cd 217 344 = some (344, .iload_n 3, 1, []) := by decide +kernel
theorem x217_344 {d : Nat} {a0 a1 a2 : Value} {s0 : Nat} {s1 : Int32} {s2 : Nat} {s3 : Int32} {x : Int32} {h : AHp} : Rf d 217 344 [a0, a1, a2, .int x] [.ref s0, .int s1, .ref s2, .int s3] h = Rf d 217 345 [a0, a1, a2, .int x] [.int x, .ref s0, .int s1, .ref s2, .int s3] h := Rf_go ((stp_of c217_344).trans rfl)
theorem c217_345 : cd 217 345 = some (345, .iconst 2, 1, []) := by decide +kernel
theorem x217_345 {d : Nat} {a0 a1 a2 a3 : Value} {s0 : Int32} {s1 : Nat} {s2 : Int32} {s3 : Nat} {s4 : Int32} {h : AHp} : Rf d 217 345 [a0, a1, a2, a3] [.int s0, .ref s1, .int s2, .ref s3, .int s4] h = Rf d 217 346 [a0, a1, a2, a3] [.int 2, .int s0, .ref s1, .int s2, .ref s3, .int s4] h := Rf_go ((stp_of c217_345).trans rfl)
theorem c217_346 : cd 217 346 = some (346, .iadd, 1, []) := by decide +kernel
theorem x217_346 {d : Nat} {a0 a1 a2 a3 : Value} {s0 : Int32} {s1 : Int32} {s2 : Nat} {s3 : Int32} {s4 : Nat} {s5 : Int32} {h : AHp} : Rf d 217 346 [a0, a1, a2, a3] [.int s0, .int s1, .ref s2, .int s3, .ref s4, .int s5] h = Rf d 217 347 [a0, a1, a2, a3] [.int (s1 + s0), .ref s2, .int s3, .ref s4, .int s5] h := Rf_go ((stp_of c217_346).trans rfl)
theorem c217_347 : cd 217 347 = some (347, .iaload, 1, []) := by decide +kernel
theorem x217_347 {d : Nat} {a0 a1 a2 a3 : Value} {s0 : Int32} {s1 : Nat} {s2 : Int32} {s3 : Nat} {s4 : Int32} {h : AHp} : Rf d 217 347 [a0, a1, a2, a3] [.int s0, .ref s1, .int s2, .ref s3, .int s4] h = if (aT (h.1 s1) = 0 ∨ aT (h.1 s1) = 10) ∧ inB s0 (aN (h.1 s1)) = true then Rf d 217 348 [a0, a1, a2, a3] [.int (aF (h.1 s1) s0.toNatClampNeg), .int s2, .ref s3, .int s4] h else Rx d 217 347 [a0, a1, a2, a3] [.int s0, .ref s1, .int s2, .ref s3, .int s4] h := ldI c217_347
theorem c217_348 : cd 217 348 = some (348, .invokevirtual 41, 3, [(12, 160)]) := by decide +kernel
theorem xc217_348 {d : Nat} {a0 a1 a2 a3 : Value} {s0 : Int32} {s1 : Int32} {s2 : Nat} {s3 : Int32} {h : AHp} {h1 : AHp} {v : Int32} (hr : cls (h.1 s2) = 12) (hq : Rf d 160 0 [.ref s2, .int s1, .int s0, noV] [] h = some (some (.int v), h1)) : Rf (d + 1) 217 348 [a0, a1, a2, a3] [.int s0, .int s1, .ref s2, .int s3] h = Rf (d + 1) 217 351 [a0, a1, a2, a3] [.int v, .int s3] h1 := clV (c := 160) (as := [.int s1, .int s0]) c217_348 rfl (by simp [isV]) (by rw [hr]; rfl) hq
theorem c217_351 : cd 217 351 = some (351, .if_icmp .eq 657, 3, [(1008, 0)]) := by decide +kernel
theorem x217_351 {d : Nat} {a0 a1 a2 a3 : Value} {s0 : Int32} {s1 : Int32} {h : AHp} : Rf d 217 351 [a0, a1, a2, a3] [.int s0, .int s1] h = if s1 = s0 then Rf d 217 1008 [a0, a1, a2, a3] [] h else Rf d 217 354 [a0, a1, a2, a3] [] h := Rf_brd ((stp_of c217_351).trans rfl)
theorem c217_354 : cd 217 354 = some (354, .iconst 0, 1, []) := by decide +kernel
theorem x217_354 {d : Nat} {a0 a1 a2 a3 : Value} {h : AHp} : Rf d 217 354 [a0, a1, a2, a3] [] h = Rf d 217 355 [a0, a1, a2, a3] [.int 0] h := Rf_go ((stp_of c217_354).trans rfl)
theorem c217_355 : cd 217 355 = some (355, .ireturn, 1, []) := by decide +kernel
theorem x217_355 {d : Nat} {a0 a1 a2 a3 : Value} {s0 : Int32} {h : AHp} : Rf d 217 355 [a0, a1, a2, a3] [.int s0] h = if retI (some .boolean) s0 = true then some (some (.int s0), h) else Rx d 217 355 [a0, a1, a2, a3] [.int s0] h := Rf_ife (fun hk => by rw [stp_of c217_355]; exact if_pos hk)
theorem c217_280 : cd 217 280 = some (280, .aload_n 1, 1, []) := by decide +kernel
theorem x217_280 {d : Nat} {a0 a2 a3 : Value} {x : Nat} {h : AHp} : Rf d 217 280 [a0, .ref x, a2, a3] [] h = Rf d 217 281 [a0, .ref x, a2, a3] [.ref x] h := Rf_go ((stp_of c217_280).trans rfl)
theorem c217_281 : cd 217 281 = some (281, .aload_n 0, 1, []) := by decide +kernel
theorem x217_281 {d : Nat} {a1 a2 a3 : Value} {s0 : Nat} {x : Nat} {h : AHp} : Rf d 217 281 [.ref x, a1, a2, a3] [.ref s0] h = Rf d 217 282 [.ref x, a1, a2, a3] [.ref x, .ref s0] h := Rf_go ((stp_of c217_281).trans rfl)
theorem c217_282 : cd 217 282 = some (282, .iload_n 3, 1, []) := by decide +kernel
theorem x217_282 {d : Nat} {a0 a1 a2 : Value} {s0 : Nat} {s1 : Nat} {x : Int32} {h : AHp} : Rf d 217 282 [a0, a1, a2, .int x] [.ref s0, .ref s1] h = Rf d 217 283 [a0, a1, a2, .int x] [.int x, .ref s0, .ref s1] h := Rf_go ((stp_of c217_282).trans rfl)
theorem c217_283 : cd 217 283 = some (283, .iconst 1, 1, []) := by decide +kernel
theorem x217_283 {d : Nat} {a0 a1 a2 a3 : Value} {s0 : Int32} {s1 : Nat} {s2 : Nat} {h : AHp} : Rf d 217 283 [a0, a1, a2, a3] [.int s0, .ref s1, .ref s2] h = Rf d 217 284 [a0, a1, a2, a3] [.int 1, .int s0, .ref s1, .ref s2] h := Rf_go ((stp_of c217_283).trans rfl)
theorem c217_284 : cd 217 284 = some (284, .iadd, 1, []) := by decide +kernel
theorem x217_284 {d : Nat} {a0 a1 a2 a3 : Value} {s0 : Int32} {s1 : Int32} {s2 : Nat} {s3 : Nat} {h : AHp} : Rf d 217 284 [a0, a1, a2, a3] [.int s0, .int s1, .ref s2, .ref s3] h = Rf d 217 285 [a0, a1, a2, a3] [.int (s1 + s0), .ref s2, .ref s3] h := Rf_go ((stp_of c217_284).trans rfl)
theorem c217_285 : cd 217 285 = some (285, .iaload, 1, []) := by decide +kernel
theorem x217_285 {d : Nat} {a0 a1 a2 a3 : Value} {s0 : Int32} {s1 : Nat} {s2 : Nat} {h : AHp} : Rf d 217 285 [a0, a1, a2, a3] [.int s0, .ref s1, .ref s2] h = if (aT (h.1 s1) = 0 ∨ aT (h.1 s1) = 10) ∧ inB s0 (aN (h.1 s1)) = true then Rf d 217 286 [a0, a1, a2, a3] [.int (aF (h.1 s1) s0.toNatClampNeg), .ref s2] h else Rx d 217 285 [a0, a1, a2, a3] [.int s0, .ref s1, .ref s2] h := ldI c217_285
theorem c217_286 : cd 217 286 = some (286, .aload_n 0, 1, []) := by decide +kernel
theorem x217_286 {d : Nat} {a1 a2 a3 : Value} {s0 : Int32} {s1 : Nat} {x : Nat} {h : AHp} : Rf d 217 286 [.ref x, a1, a2, a3] [.int s0, .ref s1] h = Rf d 217 287 [.ref x, a1, a2, a3] [.ref x, .int s0, .ref s1] h := Rf_go ((stp_of c217_286).trans rfl)
theorem c217_287 : cd 217 287 = some (287, .iload_n 3, 1, []) := by decide +kernel
theorem x217_287 {d : Nat} {a0 a1 a2 : Value} {s0 : Nat} {s1 : Int32} {s2 : Nat} {x : Int32} {h : AHp} : Rf d 217 287 [a0, a1, a2, .int x] [.ref s0, .int s1, .ref s2] h = Rf d 217 288 [a0, a1, a2, .int x] [.int x, .ref s0, .int s1, .ref s2] h := Rf_go ((stp_of c217_287).trans rfl)
theorem c217_288 : cd 217 288 = some (288, .iconst 2, 1, []) := by decide +kernel
theorem x217_288 {d : Nat} {a0 a1 a2 a3 : Value} {s0 : Int32} {s1 : Nat} {s2 : Int32} {s3 : Nat} {h : AHp} : Rf d 217 288 [a0, a1, a2, a3] [.int s0, .ref s1, .int s2, .ref s3] h = Rf d 217 289 [a0, a1, a2, a3] [.int 2, .int s0, .ref s1, .int s2, .ref s3] h := Rf_go ((stp_of c217_288).trans rfl)
theorem c217_289 : cd 217 289 = some (289, .iadd, 1, []) := by decide +kernel
theorem x217_289 {d : Nat} {a0 a1 a2 a3 : Value} {s0 : Int32} {s1 : Int32} {s2 : Nat} {s3 : Int32} {s4 : Nat} {h : AHp} : Rf d 217 289 [a0, a1, a2, a3] [.int s0, .int s1, .ref s2, .int s3, .ref s4] h = Rf d 217 290 [a0, a1, a2, a3] [.int (s1 + s0), .ref s2, .int s3, .ref s4] h := Rf_go ((stp_of c217_289).trans rfl)
theorem c217_290 : cd 217 290 = some (290, .iaload, 1, []) := by decide +kernel
theorem x217_290 {d : Nat} {a0 a1 a2 a3 : Value} {s0 : Int32} {s1 : Nat} {s2 : Int32} {s3 : Nat} {h : AHp} : Rf d 217 290 [a0, a1, a2, a3] [.int s0, .ref s1, .int s2, .ref s3] h = if (aT (h.1 s1) = 0 ∨ aT (h.1 s1) = 10) ∧ inB s0 (aN (h.1 s1)) = true then Rf d 217 291 [a0, a1, a2, a3] [.int (aF (h.1 s1) s0.toNatClampNeg), .int s2, .ref s3] h else Rx d 217 290 [a0, a1, a2, a3] [.int s0, .ref s1, .int s2, .ref s3] h := ldI c217_290
theorem c217_291 : cd 217 291 = some (291, .aload_n 0, 1, []) := by decide +kernel
theorem x217_291 {d : Nat} {a1 a2 a3 : Value} {s0 : Int32} {s1 : Int32} {s2 : Nat} {x : Nat} {h : AHp} : Rf d 217 291 [.ref x, a1, a2, a3] [.int s0, .int s1, .ref s2] h = Rf d 217 292 [.ref x, a1, a2, a3] [.ref x, .int s0, .int s1, .ref s2] h := Rf_go ((stp_of c217_291).trans rfl)
theorem c217_292 : cd 217 292 = some (292, .iload_n 3, 1, []) := by decide +kernel
theorem x217_292 {d : Nat} {a0 a1 a2 : Value} {s0 : Nat} {s1 : Int32} {s2 : Int32} {s3 : Nat} {x : Int32} {h : AHp} : Rf d 217 292 [a0, a1, a2, .int x] [.ref s0, .int s1, .int s2, .ref s3] h = Rf d 217 293 [a0, a1, a2, .int x] [.int x, .ref s0, .int s1, .int s2, .ref s3] h := Rf_go ((stp_of c217_292).trans rfl)
theorem c217_293 : cd 217 293 = some (293, .iconst 3, 1, []) := by decide +kernel
theorem x217_293 {d : Nat} {a0 a1 a2 a3 : Value} {s0 : Int32} {s1 : Nat} {s2 : Int32} {s3 : Int32} {s4 : Nat} {h : AHp} : Rf d 217 293 [a0, a1, a2, a3] [.int s0, .ref s1, .int s2, .int s3, .ref s4] h = Rf d 217 294 [a0, a1, a2, a3] [.int 3, .int s0, .ref s1, .int s2, .int s3, .ref s4] h := Rf_go ((stp_of c217_293).trans rfl)
theorem c217_294 : cd 217 294 = some (294, .iadd, 1, []) := by decide +kernel
theorem x217_294 {d : Nat} {a0 a1 a2 a3 : Value} {s0 : Int32} {s1 : Int32} {s2 : Nat} {s3 : Int32} {s4 : Int32} {s5 : Nat} {h : AHp} : Rf d 217 294 [a0, a1, a2, a3] [.int s0, .int s1, .ref s2, .int s3, .int s4, .ref s5] h = Rf d 217 295 [a0, a1, a2, a3] [.int (s1 + s0), .ref s2, .int s3, .int s4, .ref s5] h := Rf_go ((stp_of c217_294).trans rfl)
theorem c217_295 : cd 217 295 = some (295, .iaload, 1, []) := by decide +kernel
theorem x217_295 {d : Nat} {a0 a1 a2 a3 : Value} {s0 : Int32} {s1 : Nat} {s2 : Int32} {s3 : Int32} {s4 : Nat} {h : AHp} : Rf d 217 295 [a0, a1, a2, a3] [.int s0, .ref s1, .int s2, .int s3, .ref s4] h = if (aT (h.1 s1) = 0 ∨ aT (h.1 s1) = 10) ∧ inB s0 (aN (h.1 s1)) = true then Rf d 217 296 [a0, a1, a2, a3] [.int (aF (h.1 s1) s0.toNatClampNeg), .int s2, .int s3, .ref s4] h else Rx d 217 295 [a0, a1, a2, a3] [.int s0, .ref s1, .int s2, .int s3, .ref s4] h := ldI c217_295
theorem c217_296 : cd 217 296 = some (296, .invokevirtual 32, 3, [(11, 99)]) := by decide +kernel
theorem xc217_296 {d : Nat} {a0 a1 a2 a3 : Value} {s0 : Int32} {s1 : Int32} {s2 : Int32} {s3 : Nat} {h : AHp} {h1 : AHp} {v : Int32} (hr : cls (h.1 s3) = 11) (hq : Rf d 99 0 [.ref s3, .int s2, .int s1, .int s0] [] h = some (some (.int v), h1)) : Rf (d + 1) 217 296 [a0, a1, a2, a3] [.int s0, .int s1, .int s2, .ref s3] h = Rf (d + 1) 217 299 [a0, a1, a2, a3] [.int v] h1 := clV (c := 99) (as := [.int s2, .int s1, .int s0]) c217_296 rfl (by simp [isV]) (by rw [hr]; rfl) hq
theorem c217_299 : cd 217 299 = some (299, .aload_n 2, 1, []) := by decide +kernel
theorem x217_299 {d : Nat} {a0 a1 a3 : Value} {s0 : Int32} {x : Nat} {h : AHp} : Rf d 217 299 [a0, a1, .ref x, a3] [.int s0] h = Rf d 217 300 [a0, a1, .ref x, a3] [.ref x, .int s0] h := Rf_go ((stp_of c217_299).trans rfl)
theorem c217_300 : cd 217 300 = some (300, .aload_n 0, 1, []) := by decide +kernel
theorem x217_300 {d : Nat} {a1 a2 a3 : Value} {s0 : Nat} {s1 : Int32} {x : Nat} {h : AHp} : Rf d 217 300 [.ref x, a1, a2, a3] [.ref s0, .int s1] h = Rf d 217 301 [.ref x, a1, a2, a3] [.ref x, .ref s0, .int s1] h := Rf_go ((stp_of c217_300).trans rfl)
theorem c217_301 : cd 217 301 = some (301, .iload_n 3, 1, []) := by decide +kernel
theorem x217_301 {d : Nat} {a0 a1 a2 : Value} {s0 : Nat} {s1 : Nat} {s2 : Int32} {x : Int32} {h : AHp} : Rf d 217 301 [a0, a1, a2, .int x] [.ref s0, .ref s1, .int s2] h = Rf d 217 302 [a0, a1, a2, .int x] [.int x, .ref s0, .ref s1, .int s2] h := Rf_go ((stp_of c217_301).trans rfl)
theorem c217_302 : cd 217 302 = some (302, .iconst 1, 1, []) := by decide +kernel
theorem x217_302 {d : Nat} {a0 a1 a2 a3 : Value} {s0 : Int32} {s1 : Nat} {s2 : Nat} {s3 : Int32} {h : AHp} : Rf d 217 302 [a0, a1, a2, a3] [.int s0, .ref s1, .ref s2, .int s3] h = Rf d 217 303 [a0, a1, a2, a3] [.int 1, .int s0, .ref s1, .ref s2, .int s3] h := Rf_go ((stp_of c217_302).trans rfl)
theorem c217_303 : cd 217 303 = some (303, .iadd, 1, []) := by decide +kernel
theorem x217_303 {d : Nat} {a0 a1 a2 a3 : Value} {s0 : Int32} {s1 : Int32} {s2 : Nat} {s3 : Nat} {s4 : Int32} {h : AHp} : Rf d 217 303 [a0, a1, a2, a3] [.int s0, .int s1, .ref s2, .ref s3, .int s4] h = Rf d 217 304 [a0, a1, a2, a3] [.int (s1 + s0), .ref s2, .ref s3, .int s4] h := Rf_go ((stp_of c217_303).trans rfl)
theorem c217_304 : cd 217 304 = some (304, .iaload, 1, []) := by decide +kernel
theorem x217_304 {d : Nat} {a0 a1 a2 a3 : Value} {s0 : Int32} {s1 : Nat} {s2 : Nat} {s3 : Int32} {h : AHp} : Rf d 217 304 [a0, a1, a2, a3] [.int s0, .ref s1, .ref s2, .int s3] h = if (aT (h.1 s1) = 0 ∨ aT (h.1 s1) = 10) ∧ inB s0 (aN (h.1 s1)) = true then Rf d 217 305 [a0, a1, a2, a3] [.int (aF (h.1 s1) s0.toNatClampNeg), .ref s2, .int s3] h else Rx d 217 304 [a0, a1, a2, a3] [.int s0, .ref s1, .ref s2, .int s3] h := ldI c217_304
theorem c217_305 : cd 217 305 = some (305, .aload_n 0, 1, []) := by decide +kernel
theorem x217_305 {d : Nat} {a1 a2 a3 : Value} {s0 : Int32} {s1 : Nat} {s2 : Int32} {x : Nat} {h : AHp} : Rf d 217 305 [.ref x, a1, a2, a3] [.int s0, .ref s1, .int s2] h = Rf d 217 306 [.ref x, a1, a2, a3] [.ref x, .int s0, .ref s1, .int s2] h := Rf_go ((stp_of c217_305).trans rfl)
theorem c217_306 : cd 217 306 = some (306, .iload_n 3, 1, []) := by decide +kernel
theorem x217_306 {d : Nat} {a0 a1 a2 : Value} {s0 : Nat} {s1 : Int32} {s2 : Nat} {s3 : Int32} {x : Int32} {h : AHp} : Rf d 217 306 [a0, a1, a2, .int x] [.ref s0, .int s1, .ref s2, .int s3] h = Rf d 217 307 [a0, a1, a2, .int x] [.int x, .ref s0, .int s1, .ref s2, .int s3] h := Rf_go ((stp_of c217_306).trans rfl)
theorem c217_307 : cd 217 307 = some (307, .iconst 2, 1, []) := by decide +kernel
theorem x217_307 {d : Nat} {a0 a1 a2 a3 : Value} {s0 : Int32} {s1 : Nat} {s2 : Int32} {s3 : Nat} {s4 : Int32} {h : AHp} : Rf d 217 307 [a0, a1, a2, a3] [.int s0, .ref s1, .int s2, .ref s3, .int s4] h = Rf d 217 308 [a0, a1, a2, a3] [.int 2, .int s0, .ref s1, .int s2, .ref s3, .int s4] h := Rf_go ((stp_of c217_307).trans rfl)
theorem c217_308 : cd 217 308 = some (308, .iadd, 1, []) := by decide +kernel
theorem x217_308 {d : Nat} {a0 a1 a2 a3 : Value} {s0 : Int32} {s1 : Int32} {s2 : Nat} {s3 : Int32} {s4 : Nat} {s5 : Int32} {h : AHp} : Rf d 217 308 [a0, a1, a2, a3] [.int s0, .int s1, .ref s2, .int s3, .ref s4, .int s5] h = Rf d 217 309 [a0, a1, a2, a3] [.int (s1 + s0), .ref s2, .int s3, .ref s4, .int s5] h := Rf_go ((stp_of c217_308).trans rfl)
theorem c217_309 : cd 217 309 = some (309, .iaload, 1, []) := by decide +kernel
theorem x217_309 {d : Nat} {a0 a1 a2 a3 : Value} {s0 : Int32} {s1 : Nat} {s2 : Int32} {s3 : Nat} {s4 : Int32} {h : AHp} : Rf d 217 309 [a0, a1, a2, a3] [.int s0, .ref s1, .int s2, .ref s3, .int s4] h = if (aT (h.1 s1) = 0 ∨ aT (h.1 s1) = 10) ∧ inB s0 (aN (h.1 s1)) = true then Rf d 217 310 [a0, a1, a2, a3] [.int (aF (h.1 s1) s0.toNatClampNeg), .int s2, .ref s3, .int s4] h else Rx d 217 309 [a0, a1, a2, a3] [.int s0, .ref s1, .int s2, .ref s3, .int s4] h := ldI c217_309
theorem c217_310 : cd 217 310 = some (310, .aload_n 0, 1, []) := by decide +kernel
theorem x217_310 {d : Nat} {a1 a2 a3 : Value} {s0 : Int32} {s1 : Int32} {s2 : Nat} {s3 : Int32} {x : Nat} {h : AHp} : Rf d 217 310 [.ref x, a1, a2, a3] [.int s0, .int s1, .ref s2, .int s3] h = Rf d 217 311 [.ref x, a1, a2, a3] [.ref x, .int s0, .int s1, .ref s2, .int s3] h := Rf_go ((stp_of c217_310).trans rfl)
theorem c217_311 : cd 217 311 = some (311, .iload_n 3, 1, []) := by decide +kernel
theorem x217_311 {d : Nat} {a0 a1 a2 : Value} {s0 : Nat} {s1 : Int32} {s2 : Int32} {s3 : Nat} {s4 : Int32} {x : Int32} {h : AHp} : Rf d 217 311 [a0, a1, a2, .int x] [.ref s0, .int s1, .int s2, .ref s3, .int s4] h = Rf d 217 312 [a0, a1, a2, .int x] [.int x, .ref s0, .int s1, .int s2, .ref s3, .int s4] h := Rf_go ((stp_of c217_311).trans rfl)
theorem c217_312 : cd 217 312 = some (312, .iconst 3, 1, []) := by decide +kernel
theorem x217_312 {d : Nat} {a0 a1 a2 a3 : Value} {s0 : Int32} {s1 : Nat} {s2 : Int32} {s3 : Int32} {s4 : Nat} {s5 : Int32} {h : AHp} : Rf d 217 312 [a0, a1, a2, a3] [.int s0, .ref s1, .int s2, .int s3, .ref s4, .int s5] h = Rf d 217 313 [a0, a1, a2, a3] [.int 3, .int s0, .ref s1, .int s2, .int s3, .ref s4, .int s5] h := Rf_go ((stp_of c217_312).trans rfl)
theorem c217_313 : cd 217 313 = some (313, .iadd, 1, []) := by decide +kernel
theorem x217_313 {d : Nat} {a0 a1 a2 a3 : Value} {s0 : Int32} {s1 : Int32} {s2 : Nat} {s3 : Int32} {s4 : Int32} {s5 : Nat} {s6 : Int32} {h : AHp} : Rf d 217 313 [a0, a1, a2, a3] [.int s0, .int s1, .ref s2, .int s3, .int s4, .ref s5, .int s6] h = Rf d 217 314 [a0, a1, a2, a3] [.int (s1 + s0), .ref s2, .int s3, .int s4, .ref s5, .int s6] h := Rf_go ((stp_of c217_313).trans rfl)
theorem c217_314 : cd 217 314 = some (314, .iaload, 1, []) := by decide +kernel
theorem x217_314 {d : Nat} {a0 a1 a2 a3 : Value} {s0 : Int32} {s1 : Nat} {s2 : Int32} {s3 : Int32} {s4 : Nat} {s5 : Int32} {h : AHp} : Rf d 217 314 [a0, a1, a2, a3] [.int s0, .ref s1, .int s2, .int s3, .ref s4, .int s5] h = if (aT (h.1 s1) = 0 ∨ aT (h.1 s1) = 10) ∧ inB s0 (aN (h.1 s1)) = true then Rf d 217 315 [a0, a1, a2, a3] [.int (aF (h.1 s1) s0.toNatClampNeg), .int s2, .int s3, .ref s4, .int s5] h else Rx d 217 314 [a0, a1, a2, a3] [.int s0, .ref s1, .int s2, .int s3, .ref s4, .int s5] h := ldI c217_314
theorem c217_315 : cd 217 315 = some (315, .invokevirtual 36, 3, [(12, 159)]) := by decide +kernel
theorem xc217_315 {d : Nat} {a0 a1 a2 a3 : Value} {s0 : Int32} {s1 : Int32} {s2 : Int32} {s3 : Nat} {s4 : Int32} {h : AHp} {h1 : AHp} {v : Int32} (hr : cls (h.1 s3) = 12) (hq : Rf d 159 0 [.ref s3, .int s2, .int s1, .int s0, noV] [] h = some (some (.int v), h1)) : Rf (d + 1) 217 315 [a0, a1, a2, a3] [.int s0, .int s1, .int s2, .ref s3, .int s4] h = Rf (d + 1) 217 318 [a0, a1, a2, a3] [.int v, .int s4] h1 := clV (c := 159) (as := [.int s2, .int s1, .int s0]) c217_315 rfl (by simp [isV]) (by rw [hr]; rfl) hq
theorem c217_318 : cd 217 318 = some (318, .if_icmp .eq 690, 3, [(1008, 0)]) := by decide +kernel
theorem x217_318 {d : Nat} {a0 a1 a2 a3 : Value} {s0 : Int32} {s1 : Int32} {h : AHp} : Rf d 217 318 [a0, a1, a2, a3] [.int s0, .int s1] h = if s1 = s0 then Rf d 217 1008 [a0, a1, a2, a3] [] h else Rf d 217 321 [a0, a1, a2, a3] [] h := Rf_brd ((stp_of c217_318).trans rfl)
theorem c217_321 : cd 217 321 = some (321, .iconst 0, 1, []) := by decide +kernel
theorem x217_321 {d : Nat} {a0 a1 a2 a3 : Value} {h : AHp} : Rf d 217 321 [a0, a1, a2, a3] [] h = Rf d 217 322 [a0, a1, a2, a3] [.int 0] h := Rf_go ((stp_of c217_321).trans rfl)
theorem c217_322 : cd 217 322 = some (322, .ireturn, 1, []) := by decide +kernel
theorem x217_322 {d : Nat} {a0 a1 a2 a3 : Value} {s0 : Int32} {h : AHp} : Rf d 217 322 [a0, a1, a2, a3] [.int s0] h = if retI (some .boolean) s0 = true then some (some (.int s0), h) else Rx d 217 322 [a0, a1, a2, a3] [.int s0] h := Rf_ife (fun hk => by rw [stp_of c217_322]; exact if_pos hk)
theorem c217_227 : cd 217 227 = some (227, .aload_n 1, 1, []) := by decide +kernel
theorem x217_227 {d : Nat} {a0 a2 a3 : Value} {x : Nat} {h : AHp} : Rf d 217 227 [a0, .ref x, a2, a3] [] h = Rf d 217 228 [a0, .ref x, a2, a3] [.ref x] h := Rf_go ((stp_of c217_227).trans rfl)
theorem c217_228 : cd 217 228 = some (228, .aload_n 0, 1, []) := by decide +kernel
theorem x217_228 {d : Nat} {a1 a2 a3 : Value} {s0 : Nat} {x : Nat} {h : AHp} : Rf d 217 228 [.ref x, a1, a2, a3] [.ref s0] h = Rf d 217 229 [.ref x, a1, a2, a3] [.ref x, .ref s0] h := Rf_go ((stp_of c217_228).trans rfl)
theorem c217_229 : cd 217 229 = some (229, .iload_n 3, 1, []) := by decide +kernel
theorem x217_229 {d : Nat} {a0 a1 a2 : Value} {s0 : Nat} {s1 : Nat} {x : Int32} {h : AHp} : Rf d 217 229 [a0, a1, a2, .int x] [.ref s0, .ref s1] h = Rf d 217 230 [a0, a1, a2, .int x] [.int x, .ref s0, .ref s1] h := Rf_go ((stp_of c217_229).trans rfl)
theorem c217_230 : cd 217 230 = some (230, .iconst 1, 1, []) := by decide +kernel
theorem x217_230 {d : Nat} {a0 a1 a2 a3 : Value} {s0 : Int32} {s1 : Nat} {s2 : Nat} {h : AHp} : Rf d 217 230 [a0, a1, a2, a3] [.int s0, .ref s1, .ref s2] h = Rf d 217 231 [a0, a1, a2, a3] [.int 1, .int s0, .ref s1, .ref s2] h := Rf_go ((stp_of c217_230).trans rfl)
theorem c217_231 : cd 217 231 = some (231, .iadd, 1, []) := by decide +kernel
theorem x217_231 {d : Nat} {a0 a1 a2 a3 : Value} {s0 : Int32} {s1 : Int32} {s2 : Nat} {s3 : Nat} {h : AHp} : Rf d 217 231 [a0, a1, a2, a3] [.int s0, .int s1, .ref s2, .ref s3] h = Rf d 217 232 [a0, a1, a2, a3] [.int (s1 + s0), .ref s2, .ref s3] h := Rf_go ((stp_of c217_231).trans rfl)
theorem c217_232 : cd 217 232 = some (232, .iaload, 1, []) := by decide +kernel
theorem x217_232 {d : Nat} {a0 a1 a2 a3 : Value} {s0 : Int32} {s1 : Nat} {s2 : Nat} {h : AHp} : Rf d 217 232 [a0, a1, a2, a3] [.int s0, .ref s1, .ref s2] h = if (aT (h.1 s1) = 0 ∨ aT (h.1 s1) = 10) ∧ inB s0 (aN (h.1 s1)) = true then Rf d 217 233 [a0, a1, a2, a3] [.int (aF (h.1 s1) s0.toNatClampNeg), .ref s2] h else Rx d 217 232 [a0, a1, a2, a3] [.int s0, .ref s1, .ref s2] h := ldI c217_232
theorem c217_233 : cd 217 233 = some (233, .aload_n 0, 1, []) := by decide +kernel
theorem x217_233 {d : Nat} {a1 a2 a3 : Value} {s0 : Int32} {s1 : Nat} {x : Nat} {h : AHp} : Rf d 217 233 [.ref x, a1, a2, a3] [.int s0, .ref s1] h = Rf d 217 234 [.ref x, a1, a2, a3] [.ref x, .int s0, .ref s1] h := Rf_go ((stp_of c217_233).trans rfl)
theorem c217_234 : cd 217 234 = some (234, .iload_n 3, 1, []) := by decide +kernel
theorem x217_234 {d : Nat} {a0 a1 a2 : Value} {s0 : Nat} {s1 : Int32} {s2 : Nat} {x : Int32} {h : AHp} : Rf d 217 234 [a0, a1, a2, .int x] [.ref s0, .int s1, .ref s2] h = Rf d 217 235 [a0, a1, a2, .int x] [.int x, .ref s0, .int s1, .ref s2] h := Rf_go ((stp_of c217_234).trans rfl)
theorem c217_235 : cd 217 235 = some (235, .iconst 2, 1, []) := by decide +kernel
theorem x217_235 {d : Nat} {a0 a1 a2 a3 : Value} {s0 : Int32} {s1 : Nat} {s2 : Int32} {s3 : Nat} {h : AHp} : Rf d 217 235 [a0, a1, a2, a3] [.int s0, .ref s1, .int s2, .ref s3] h = Rf d 217 236 [a0, a1, a2, a3] [.int 2, .int s0, .ref s1, .int s2, .ref s3] h := Rf_go ((stp_of c217_235).trans rfl)
theorem c217_236 : cd 217 236 = some (236, .iadd, 1, []) := by decide +kernel
theorem x217_236 {d : Nat} {a0 a1 a2 a3 : Value} {s0 : Int32} {s1 : Int32} {s2 : Nat} {s3 : Int32} {s4 : Nat} {h : AHp} : Rf d 217 236 [a0, a1, a2, a3] [.int s0, .int s1, .ref s2, .int s3, .ref s4] h = Rf d 217 237 [a0, a1, a2, a3] [.int (s1 + s0), .ref s2, .int s3, .ref s4] h := Rf_go ((stp_of c217_236).trans rfl)
theorem c217_237 : cd 217 237 = some (237, .iaload, 1, []) := by decide +kernel
theorem x217_237 {d : Nat} {a0 a1 a2 a3 : Value} {s0 : Int32} {s1 : Nat} {s2 : Int32} {s3 : Nat} {h : AHp} : Rf d 217 237 [a0, a1, a2, a3] [.int s0, .ref s1, .int s2, .ref s3] h = if (aT (h.1 s1) = 0 ∨ aT (h.1 s1) = 10) ∧ inB s0 (aN (h.1 s1)) = true then Rf d 217 238 [a0, a1, a2, a3] [.int (aF (h.1 s1) s0.toNatClampNeg), .int s2, .ref s3] h else Rx d 217 237 [a0, a1, a2, a3] [.int s0, .ref s1, .int s2, .ref s3] h := ldI c217_237
theorem c217_238 : cd 217 238 = some (238, .aload_n 0, 1, []) := by decide +kernel
theorem x217_238 {d : Nat} {a1 a2 a3 : Value} {s0 : Int32} {s1 : Int32} {s2 : Nat} {x : Nat} {h : AHp} : Rf d 217 238 [.ref x, a1, a2, a3] [.int s0, .int s1, .ref s2] h = Rf d 217 239 [.ref x, a1, a2, a3] [.ref x, .int s0, .int s1, .ref s2] h := Rf_go ((stp_of c217_238).trans rfl)
theorem c217_239 : cd 217 239 = some (239, .iload_n 3, 1, []) := by decide +kernel
theorem x217_239 {d : Nat} {a0 a1 a2 : Value} {s0 : Nat} {s1 : Int32} {s2 : Int32} {s3 : Nat} {x : Int32} {h : AHp} : Rf d 217 239 [a0, a1, a2, .int x] [.ref s0, .int s1, .int s2, .ref s3] h = Rf d 217 240 [a0, a1, a2, .int x] [.int x, .ref s0, .int s1, .int s2, .ref s3] h := Rf_go ((stp_of c217_239).trans rfl)
theorem c217_240 : cd 217 240 = some (240, .iconst 3, 1, []) := by decide +kernel
theorem x217_240 {d : Nat} {a0 a1 a2 a3 : Value} {s0 : Int32} {s1 : Nat} {s2 : Int32} {s3 : Int32} {s4 : Nat} {h : AHp} : Rf d 217 240 [a0, a1, a2, a3] [.int s0, .ref s1, .int s2, .int s3, .ref s4] h = Rf d 217 241 [a0, a1, a2, a3] [.int 3, .int s0, .ref s1, .int s2, .int s3, .ref s4] h := Rf_go ((stp_of c217_240).trans rfl)
theorem c217_241 : cd 217 241 = some (241, .iadd, 1, []) := by decide +kernel
theorem x217_241 {d : Nat} {a0 a1 a2 a3 : Value} {s0 : Int32} {s1 : Int32} {s2 : Nat} {s3 : Int32} {s4 : Int32} {s5 : Nat} {h : AHp} : Rf d 217 241 [a0, a1, a2, a3] [.int s0, .int s1, .ref s2, .int s3, .int s4, .ref s5] h = Rf d 217 242 [a0, a1, a2, a3] [.int (s1 + s0), .ref s2, .int s3, .int s4, .ref s5] h := Rf_go ((stp_of c217_241).trans rfl)
theorem c217_242 : cd 217 242 = some (242, .iaload, 1, []) := by decide +kernel
theorem x217_242 {d : Nat} {a0 a1 a2 a3 : Value} {s0 : Int32} {s1 : Nat} {s2 : Int32} {s3 : Int32} {s4 : Nat} {h : AHp} : Rf d 217 242 [a0, a1, a2, a3] [.int s0, .ref s1, .int s2, .int s3, .ref s4] h = if (aT (h.1 s1) = 0 ∨ aT (h.1 s1) = 10) ∧ inB s0 (aN (h.1 s1)) = true then Rf d 217 243 [a0, a1, a2, a3] [.int (aF (h.1 s1) s0.toNatClampNeg), .int s2, .int s3, .ref s4] h else Rx d 217 242 [a0, a1, a2, a3] [.int s0, .ref s1, .int s2, .int s3, .ref s4] h := ldI c217_242
theorem c217_243 : cd 217 243 = some (243, .aload_n 0, 1, []) := by decide +kernel
theorem x217_243 {d : Nat} {a1 a2 a3 : Value} {s0 : Int32} {s1 : Int32} {s2 : Int32} {s3 : Nat} {x : Nat} {h : AHp} : Rf d 217 243 [.ref x, a1, a2, a3] [.int s0, .int s1, .int s2, .ref s3] h = Rf d 217 244 [.ref x, a1, a2, a3] [.ref x, .int s0, .int s1, .int s2, .ref s3] h := Rf_go ((stp_of c217_243).trans rfl)
theorem c217_244 : cd 217 244 = some (244, .iload_n 3, 1, []) := by decide +kernel
theorem x217_244 {d : Nat} {a0 a1 a2 : Value} {s0 : Nat} {s1 : Int32} {s2 : Int32} {s3 : Int32} {s4 : Nat} {x : Int32} {h : AHp} : Rf d 217 244 [a0, a1, a2, .int x] [.ref s0, .int s1, .int s2, .int s3, .ref s4] h = Rf d 217 245 [a0, a1, a2, .int x] [.int x, .ref s0, .int s1, .int s2, .int s3, .ref s4] h := Rf_go ((stp_of c217_244).trans rfl)
theorem c217_245 : cd 217 245 = some (245, .iconst 4, 1, []) := by decide +kernel
theorem x217_245 {d : Nat} {a0 a1 a2 a3 : Value} {s0 : Int32} {s1 : Nat} {s2 : Int32} {s3 : Int32} {s4 : Int32} {s5 : Nat} {h : AHp} : Rf d 217 245 [a0, a1, a2, a3] [.int s0, .ref s1, .int s2, .int s3, .int s4, .ref s5] h = Rf d 217 246 [a0, a1, a2, a3] [.int 4, .int s0, .ref s1, .int s2, .int s3, .int s4, .ref s5] h := Rf_go ((stp_of c217_245).trans rfl)
theorem c217_246 : cd 217 246 = some (246, .iadd, 1, []) := by decide +kernel
theorem x217_246 {d : Nat} {a0 a1 a2 a3 : Value} {s0 : Int32} {s1 : Int32} {s2 : Nat} {s3 : Int32} {s4 : Int32} {s5 : Int32} {s6 : Nat} {h : AHp} : Rf d 217 246 [a0, a1, a2, a3] [.int s0, .int s1, .ref s2, .int s3, .int s4, .int s5, .ref s6] h = Rf d 217 247 [a0, a1, a2, a3] [.int (s1 + s0), .ref s2, .int s3, .int s4, .int s5, .ref s6] h := Rf_go ((stp_of c217_246).trans rfl)
theorem c217_247 : cd 217 247 = some (247, .iaload, 1, []) := by decide +kernel
theorem x217_247 {d : Nat} {a0 a1 a2 a3 : Value} {s0 : Int32} {s1 : Nat} {s2 : Int32} {s3 : Int32} {s4 : Int32} {s5 : Nat} {h : AHp} : Rf d 217 247 [a0, a1, a2, a3] [.int s0, .ref s1, .int s2, .int s3, .int s4, .ref s5] h = if (aT (h.1 s1) = 0 ∨ aT (h.1 s1) = 10) ∧ inB s0 (aN (h.1 s1)) = true then Rf d 217 248 [a0, a1, a2, a3] [.int (aF (h.1 s1) s0.toNatClampNeg), .int s2, .int s3, .int s4, .ref s5] h else Rx d 217 247 [a0, a1, a2, a3] [.int s0, .ref s1, .int s2, .int s3, .int s4, .ref s5] h := ldI c217_247
theorem c217_248 : cd 217 248 = some (248, .invokevirtual 27, 3, [(11, 98)]) := by decide +kernel
theorem xc217_248 {d : Nat} {a0 a1 a2 a3 : Value} {s0 : Int32} {s1 : Int32} {s2 : Int32} {s3 : Int32} {s4 : Nat} {h : AHp} {h1 : AHp} {v : Int32} (hr : cls (h.1 s4) = 11) (hq : Rf d 98 0 [.ref s4, .int s3, .int s2, .int s1, .int s0] [] h = some (some (.int v), h1)) : Rf (d + 1) 217 248 [a0, a1, a2, a3] [.int s0, .int s1, .int s2, .int s3, .ref s4] h = Rf (d + 1) 217 251 [a0, a1, a2, a3] [.int v] h1 := clV (c := 98) (as := [.int s3, .int s2, .int s1, .int s0]) c217_248 rfl (by simp [isV]) (by rw [hr]; rfl) hq
theorem c217_251 : cd 217 251 = some (251, .aload_n 2, 1, []) := by decide +kernel
theorem x217_251 {d : Nat} {a0 a1 a3 : Value} {s0 : Int32} {x : Nat} {h : AHp} : Rf d 217 251 [a0, a1, .ref x, a3] [.int s0] h = Rf d 217 252 [a0, a1, .ref x, a3] [.ref x, .int s0] h := Rf_go ((stp_of c217_251).trans rfl)
theorem c217_252 : cd 217 252 = some (252, .aload_n 0, 1, []) := by decide +kernel
theorem x217_252 {d : Nat} {a1 a2 a3 : Value} {s0 : Nat} {s1 : Int32} {x : Nat} {h : AHp} : Rf d 217 252 [.ref x, a1, a2, a3] [.ref s0, .int s1] h = Rf d 217 253 [.ref x, a1, a2, a3] [.ref x, .ref s0, .int s1] h := Rf_go ((stp_of c217_252).trans rfl)
theorem c217_253 : cd 217 253 = some (253, .iload_n 3, 1, []) := by decide +kernel
theorem x217_253 {d : Nat} {a0 a1 a2 : Value} {s0 : Nat} {s1 : Nat} {s2 : Int32} {x : Int32} {h : AHp} : Rf d 217 253 [a0, a1, a2, .int x] [.ref s0, .ref s1, .int s2] h = Rf d 217 254 [a0, a1, a2, .int x] [.int x, .ref s0, .ref s1, .int s2] h := Rf_go ((stp_of c217_253).trans rfl)
theorem c217_254 : cd 217 254 = some (254, .iconst 1, 1, []) := by decide +kernel
theorem x217_254 {d : Nat} {a0 a1 a2 a3 : Value} {s0 : Int32} {s1 : Nat} {s2 : Nat} {s3 : Int32} {h : AHp} : Rf d 217 254 [a0, a1, a2, a3] [.int s0, .ref s1, .ref s2, .int s3] h = Rf d 217 255 [a0, a1, a2, a3] [.int 1, .int s0, .ref s1, .ref s2, .int s3] h := Rf_go ((stp_of c217_254).trans rfl)
theorem c217_255 : cd 217 255 = some (255, .iadd, 1, []) := by decide +kernel
theorem x217_255 {d : Nat} {a0 a1 a2 a3 : Value} {s0 : Int32} {s1 : Int32} {s2 : Nat} {s3 : Nat} {s4 : Int32} {h : AHp} : Rf d 217 255 [a0, a1, a2, a3] [.int s0, .int s1, .ref s2, .ref s3, .int s4] h = Rf d 217 256 [a0, a1, a2, a3] [.int (s1 + s0), .ref s2, .ref s3, .int s4] h := Rf_go ((stp_of c217_255).trans rfl)
theorem c217_256 : cd 217 256 = some (256, .iaload, 1, []) := by decide +kernel
theorem x217_256 {d : Nat} {a0 a1 a2 a3 : Value} {s0 : Int32} {s1 : Nat} {s2 : Nat} {s3 : Int32} {h : AHp} : Rf d 217 256 [a0, a1, a2, a3] [.int s0, .ref s1, .ref s2, .int s3] h = if (aT (h.1 s1) = 0 ∨ aT (h.1 s1) = 10) ∧ inB s0 (aN (h.1 s1)) = true then Rf d 217 257 [a0, a1, a2, a3] [.int (aF (h.1 s1) s0.toNatClampNeg), .ref s2, .int s3] h else Rx d 217 256 [a0, a1, a2, a3] [.int s0, .ref s1, .ref s2, .int s3] h := ldI c217_256
theorem c217_257 : cd 217 257 = some (257, .aload_n 0, 1, []) := by decide +kernel
theorem x217_257 {d : Nat} {a1 a2 a3 : Value} {s0 : Int32} {s1 : Nat} {s2 : Int32} {x : Nat} {h : AHp} : Rf d 217 257 [.ref x, a1, a2, a3] [.int s0, .ref s1, .int s2] h = Rf d 217 258 [.ref x, a1, a2, a3] [.ref x, .int s0, .ref s1, .int s2] h := Rf_go ((stp_of c217_257).trans rfl)
theorem c217_258 : cd 217 258 = some (258, .iload_n 3, 1, []) := by decide +kernel
theorem x217_258 {d : Nat} {a0 a1 a2 : Value} {s0 : Nat} {s1 : Int32} {s2 : Nat} {s3 : Int32} {x : Int32} {h : AHp} : Rf d 217 258 [a0, a1, a2, .int x] [.ref s0, .int s1, .ref s2, .int s3] h = Rf d 217 259 [a0, a1, a2, .int x] [.int x, .ref s0, .int s1, .ref s2, .int s3] h := Rf_go ((stp_of c217_258).trans rfl)
theorem c217_259 : cd 217 259 = some (259, .iconst 2, 1, []) := by decide +kernel
theorem x217_259 {d : Nat} {a0 a1 a2 a3 : Value} {s0 : Int32} {s1 : Nat} {s2 : Int32} {s3 : Nat} {s4 : Int32} {h : AHp} : Rf d 217 259 [a0, a1, a2, a3] [.int s0, .ref s1, .int s2, .ref s3, .int s4] h = Rf d 217 260 [a0, a1, a2, a3] [.int 2, .int s0, .ref s1, .int s2, .ref s3, .int s4] h := Rf_go ((stp_of c217_259).trans rfl)
theorem c217_260 : cd 217 260 = some (260, .iadd, 1, []) := by decide +kernel
theorem x217_260 {d : Nat} {a0 a1 a2 a3 : Value} {s0 : Int32} {s1 : Int32} {s2 : Nat} {s3 : Int32} {s4 : Nat} {s5 : Int32} {h : AHp} : Rf d 217 260 [a0, a1, a2, a3] [.int s0, .int s1, .ref s2, .int s3, .ref s4, .int s5] h = Rf d 217 261 [a0, a1, a2, a3] [.int (s1 + s0), .ref s2, .int s3, .ref s4, .int s5] h := Rf_go ((stp_of c217_260).trans rfl)
theorem c217_261 : cd 217 261 = some (261, .iaload, 1, []) := by decide +kernel
theorem x217_261 {d : Nat} {a0 a1 a2 a3 : Value} {s0 : Int32} {s1 : Nat} {s2 : Int32} {s3 : Nat} {s4 : Int32} {h : AHp} : Rf d 217 261 [a0, a1, a2, a3] [.int s0, .ref s1, .int s2, .ref s3, .int s4] h = if (aT (h.1 s1) = 0 ∨ aT (h.1 s1) = 10) ∧ inB s0 (aN (h.1 s1)) = true then Rf d 217 262 [a0, a1, a2, a3] [.int (aF (h.1 s1) s0.toNatClampNeg), .int s2, .ref s3, .int s4] h else Rx d 217 261 [a0, a1, a2, a3] [.int s0, .ref s1, .int s2, .ref s3, .int s4] h := ldI c217_261
theorem c217_262 : cd 217 262 = some (262, .aload_n 0, 1, []) := by decide +kernel
theorem x217_262 {d : Nat} {a1 a2 a3 : Value} {s0 : Int32} {s1 : Int32} {s2 : Nat} {s3 : Int32} {x : Nat} {h : AHp} : Rf d 217 262 [.ref x, a1, a2, a3] [.int s0, .int s1, .ref s2, .int s3] h = Rf d 217 263 [.ref x, a1, a2, a3] [.ref x, .int s0, .int s1, .ref s2, .int s3] h := Rf_go ((stp_of c217_262).trans rfl)
theorem c217_263 : cd 217 263 = some (263, .iload_n 3, 1, []) := by decide +kernel
theorem x217_263 {d : Nat} {a0 a1 a2 : Value} {s0 : Nat} {s1 : Int32} {s2 : Int32} {s3 : Nat} {s4 : Int32} {x : Int32} {h : AHp} : Rf d 217 263 [a0, a1, a2, .int x] [.ref s0, .int s1, .int s2, .ref s3, .int s4] h = Rf d 217 264 [a0, a1, a2, .int x] [.int x, .ref s0, .int s1, .int s2, .ref s3, .int s4] h := Rf_go ((stp_of c217_263).trans rfl)
theorem c217_264 : cd 217 264 = some (264, .iconst 3, 1, []) := by decide +kernel
theorem x217_264 {d : Nat} {a0 a1 a2 a3 : Value} {s0 : Int32} {s1 : Nat} {s2 : Int32} {s3 : Int32} {s4 : Nat} {s5 : Int32} {h : AHp} : Rf d 217 264 [a0, a1, a2, a3] [.int s0, .ref s1, .int s2, .int s3, .ref s4, .int s5] h = Rf d 217 265 [a0, a1, a2, a3] [.int 3, .int s0, .ref s1, .int s2, .int s3, .ref s4, .int s5] h := Rf_go ((stp_of c217_264).trans rfl)
theorem c217_265 : cd 217 265 = some (265, .iadd, 1, []) := by decide +kernel
theorem x217_265 {d : Nat} {a0 a1 a2 a3 : Value} {s0 : Int32} {s1 : Int32} {s2 : Nat} {s3 : Int32} {s4 : Int32} {s5 : Nat} {s6 : Int32} {h : AHp} : Rf d 217 265 [a0, a1, a2, a3] [.int s0, .int s1, .ref s2, .int s3, .int s4, .ref s5, .int s6] h = Rf d 217 266 [a0, a1, a2, a3] [.int (s1 + s0), .ref s2, .int s3, .int s4, .ref s5, .int s6] h := Rf_go ((stp_of c217_265).trans rfl)
theorem c217_266 : cd 217 266 = some (266, .iaload, 1, []) := by decide +kernel
theorem x217_266 {d : Nat} {a0 a1 a2 a3 : Value} {s0 : Int32} {s1 : Nat} {s2 : Int32} {s3 : Int32} {s4 : Nat} {s5 : Int32} {h : AHp} : Rf d 217 266 [a0, a1, a2, a3] [.int s0, .ref s1, .int s2, .int s3, .ref s4, .int s5] h = if (aT (h.1 s1) = 0 ∨ aT (h.1 s1) = 10) ∧ inB s0 (aN (h.1 s1)) = true then Rf d 217 267 [a0, a1, a2, a3] [.int (aF (h.1 s1) s0.toNatClampNeg), .int s2, .int s3, .ref s4, .int s5] h else Rx d 217 266 [a0, a1, a2, a3] [.int s0, .ref s1, .int s2, .int s3, .ref s4, .int s5] h := ldI c217_266
theorem c217_267 : cd 217 267 = some (267, .aload_n 0, 1, []) := by decide +kernel
theorem x217_267 {d : Nat} {a1 a2 a3 : Value} {s0 : Int32} {s1 : Int32} {s2 : Int32} {s3 : Nat} {s4 : Int32} {x : Nat} {h : AHp} : Rf d 217 267 [.ref x, a1, a2, a3] [.int s0, .int s1, .int s2, .ref s3, .int s4] h = Rf d 217 268 [.ref x, a1, a2, a3] [.ref x, .int s0, .int s1, .int s2, .ref s3, .int s4] h := Rf_go ((stp_of c217_267).trans rfl)
theorem c217_268 : cd 217 268 = some (268, .iload_n 3, 1, []) := by decide +kernel
theorem x217_268 {d : Nat} {a0 a1 a2 : Value} {s0 : Nat} {s1 : Int32} {s2 : Int32} {s3 : Int32} {s4 : Nat} {s5 : Int32} {x : Int32} {h : AHp} : Rf d 217 268 [a0, a1, a2, .int x] [.ref s0, .int s1, .int s2, .int s3, .ref s4, .int s5] h = Rf d 217 269 [a0, a1, a2, .int x] [.int x, .ref s0, .int s1, .int s2, .int s3, .ref s4, .int s5] h := Rf_go ((stp_of c217_268).trans rfl)
theorem c217_269 : cd 217 269 = some (269, .iconst 4, 1, []) := by decide +kernel
theorem x217_269 {d : Nat} {a0 a1 a2 a3 : Value} {s0 : Int32} {s1 : Nat} {s2 : Int32} {s3 : Int32} {s4 : Int32} {s5 : Nat} {s6 : Int32} {h : AHp} : Rf d 217 269 [a0, a1, a2, a3] [.int s0, .ref s1, .int s2, .int s3, .int s4, .ref s5, .int s6] h = Rf d 217 270 [a0, a1, a2, a3] [.int 4, .int s0, .ref s1, .int s2, .int s3, .int s4, .ref s5, .int s6] h := Rf_go ((stp_of c217_269).trans rfl)
theorem c217_270 : cd 217 270 = some (270, .iadd, 1, []) := by decide +kernel
theorem x217_270 {d : Nat} {a0 a1 a2 a3 : Value} {s0 : Int32} {s1 : Int32} {s2 : Nat} {s3 : Int32} {s4 : Int32} {s5 : Int32} {s6 : Nat} {s7 : Int32} {h : AHp} : Rf d 217 270 [a0, a1, a2, a3] [.int s0, .int s1, .ref s2, .int s3, .int s4, .int s5, .ref s6, .int s7] h = Rf d 217 271 [a0, a1, a2, a3] [.int (s1 + s0), .ref s2, .int s3, .int s4, .int s5, .ref s6, .int s7] h := Rf_go ((stp_of c217_270).trans rfl)
theorem c217_271 : cd 217 271 = some (271, .iaload, 1, []) := by decide +kernel
theorem x217_271 {d : Nat} {a0 a1 a2 a3 : Value} {s0 : Int32} {s1 : Nat} {s2 : Int32} {s3 : Int32} {s4 : Int32} {s5 : Nat} {s6 : Int32} {h : AHp} : Rf d 217 271 [a0, a1, a2, a3] [.int s0, .ref s1, .int s2, .int s3, .int s4, .ref s5, .int s6] h = if (aT (h.1 s1) = 0 ∨ aT (h.1 s1) = 10) ∧ inB s0 (aN (h.1 s1)) = true then Rf d 217 272 [a0, a1, a2, a3] [.int (aF (h.1 s1) s0.toNatClampNeg), .int s2, .int s3, .int s4, .ref s5, .int s6] h else Rx d 217 271 [a0, a1, a2, a3] [.int s0, .ref s1, .int s2, .int s3, .int s4, .ref s5, .int s6] h := ldI c217_271
theorem c217_272 : cd 217 272 = some (272, .invokevirtual 31, 3, [(12, 158)]) := by decide +kernel
theorem xc217_272 {d : Nat} {a0 a1 a2 a3 : Value} {s0 : Int32} {s1 : Int32} {s2 : Int32} {s3 : Int32} {s4 : Nat} {s5 : Int32} {h : AHp} {h1 : AHp} {v : Int32} (hr : cls (h.1 s4) = 12) (hq : Rf d 158 0 [.ref s4, .int s3, .int s2, .int s1, .int s0, noV] [] h = some (some (.int v), h1)) : Rf (d + 1) 217 272 [a0, a1, a2, a3] [.int s0, .int s1, .int s2, .int s3, .ref s4, .int s5] h = Rf (d + 1) 217 275 [a0, a1, a2, a3] [.int v, .int s5] h1 := clV (c := 158) (as := [.int s3, .int s2, .int s1, .int s0]) c217_272 rfl (by simp [isV]) (by rw [hr]; rfl) hq
theorem c217_275 : cd 217 275 = some (275, .if_icmp .eq 733, 3, [(1008, 0)]) := by decide +kernel
theorem x217_275 {d : Nat} {a0 a1 a2 a3 : Value} {s0 : Int32} {s1 : Int32} {h : AHp} : Rf d 217 275 [a0, a1, a2, a3] [.int s0, .int s1] h = if s1 = s0 then Rf d 217 1008 [a0, a1, a2, a3] [] h else Rf d 217 278 [a0, a1, a2, a3] [] h := Rf_brd ((stp_of c217_275).trans rfl)
theorem c217_278 : cd 217 278 = some (278, .iconst 0, 1, []) := by decide +kernel
theorem x217_278 {d : Nat} {a0 a1 a2 a3 : Value} {h : AHp} : Rf d 217 278 [a0, a1, a2, a3] [] h = Rf d 217 279 [a0, a1, a2, a3] [.int 0] h := Rf_go ((stp_of c217_278).trans rfl)
theorem c217_279 : cd 217 279 = some (279, .ireturn, 1, []) := by decide +kernel
theorem x217_279 {d : Nat} {a0 a1 a2 a3 : Value} {s0 : Int32} {h : AHp} : Rf d 217 279 [a0, a1, a2, a3] [.int s0] h = if retI (some .boolean) s0 = true then some (some (.int s0), h) else Rx d 217 279 [a0, a1, a2, a3] [.int s0] h := Rf_ife (fun hk => by rw [stp_of c217_279]; exact if_pos hk)
theorem c217_204 : cd 217 204 = some (204, .aload_n 1, 1, []) := by decide +kernel
theorem x217_204 {d : Nat} {a0 a2 a3 : Value} {x : Nat} {h : AHp} : Rf d 217 204 [a0, .ref x, a2, a3] [] h = Rf d 217 205 [a0, .ref x, a2, a3] [.ref x] h := Rf_go ((stp_of c217_204).trans rfl)
theorem c217_205 : cd 217 205 = some (205, .aload_n 0, 1, []) := by decide +kernel
theorem x217_205 {d : Nat} {a1 a2 a3 : Value} {s0 : Nat} {x : Nat} {h : AHp} : Rf d 217 205 [.ref x, a1, a2, a3] [.ref s0] h = Rf d 217 206 [.ref x, a1, a2, a3] [.ref x, .ref s0] h := Rf_go ((stp_of c217_205).trans rfl)
theorem c217_206 : cd 217 206 = some (206, .iload_n 3, 1, []) := by decide +kernel
theorem x217_206 {d : Nat} {a0 a1 a2 : Value} {s0 : Nat} {s1 : Nat} {x : Int32} {h : AHp} : Rf d 217 206 [a0, a1, a2, .int x] [.ref s0, .ref s1] h = Rf d 217 207 [a0, a1, a2, .int x] [.int x, .ref s0, .ref s1] h := Rf_go ((stp_of c217_206).trans rfl)
theorem c217_207 : cd 217 207 = some (207, .iconst 1, 1, []) := by decide +kernel
theorem x217_207 {d : Nat} {a0 a1 a2 a3 : Value} {s0 : Int32} {s1 : Nat} {s2 : Nat} {h : AHp} : Rf d 217 207 [a0, a1, a2, a3] [.int s0, .ref s1, .ref s2] h = Rf d 217 208 [a0, a1, a2, a3] [.int 1, .int s0, .ref s1, .ref s2] h := Rf_go ((stp_of c217_207).trans rfl)
theorem c217_208 : cd 217 208 = some (208, .iadd, 1, []) := by decide +kernel
theorem x217_208 {d : Nat} {a0 a1 a2 a3 : Value} {s0 : Int32} {s1 : Int32} {s2 : Nat} {s3 : Nat} {h : AHp} : Rf d 217 208 [a0, a1, a2, a3] [.int s0, .int s1, .ref s2, .ref s3] h = Rf d 217 209 [a0, a1, a2, a3] [.int (s1 + s0), .ref s2, .ref s3] h := Rf_go ((stp_of c217_208).trans rfl)
theorem c217_209 : cd 217 209 = some (209, .iaload, 1, []) := by decide +kernel
theorem x217_209 {d : Nat} {a0 a1 a2 a3 : Value} {s0 : Int32} {s1 : Nat} {s2 : Nat} {h : AHp} : Rf d 217 209 [a0, a1, a2, a3] [.int s0, .ref s1, .ref s2] h = if (aT (h.1 s1) = 0 ∨ aT (h.1 s1) = 10) ∧ inB s0 (aN (h.1 s1)) = true then Rf d 217 210 [a0, a1, a2, a3] [.int (aF (h.1 s1) s0.toNatClampNeg), .ref s2] h else Rx d 217 209 [a0, a1, a2, a3] [.int s0, .ref s1, .ref s2] h := ldI c217_209
theorem c217_210 : cd 217 210 = some (210, .invokevirtual 23, 3, [(11, 97)]) := by decide +kernel
theorem xc217_210 {d : Nat} {a0 a1 a2 a3 : Value} {s0 : Int32} {s1 : Nat} {h : AHp} {h1 : AHp} {v : Int32} (hr : cls (h.1 s1) = 11) (hq : Rf d 97 0 [.ref s1, .int s0] [] h = some (some (.int v), h1)) : Rf (d + 1) 217 210 [a0, a1, a2, a3] [.int s0, .ref s1] h = Rf (d + 1) 217 213 [a0, a1, a2, a3] [.int v] h1 := clV (c := 97) (as := [.int s0]) c217_210 rfl (by simp [isV]) (by rw [hr]; rfl) hq
theorem c217_213 : cd 217 213 = some (213, .aload_n 2, 1, []) := by decide +kernel
theorem x217_213 {d : Nat} {a0 a1 a3 : Value} {s0 : Int32} {x : Nat} {h : AHp} : Rf d 217 213 [a0, a1, .ref x, a3] [.int s0] h = Rf d 217 214 [a0, a1, .ref x, a3] [.ref x, .int s0] h := Rf_go ((stp_of c217_213).trans rfl)
theorem c217_214 : cd 217 214 = some (214, .aload_n 0, 1, []) := by decide +kernel
theorem x217_214 {d : Nat} {a1 a2 a3 : Value} {s0 : Nat} {s1 : Int32} {x : Nat} {h : AHp} : Rf d 217 214 [.ref x, a1, a2, a3] [.ref s0, .int s1] h = Rf d 217 215 [.ref x, a1, a2, a3] [.ref x, .ref s0, .int s1] h := Rf_go ((stp_of c217_214).trans rfl)
theorem c217_215 : cd 217 215 = some (215, .iload_n 3, 1, []) := by decide +kernel
theorem x217_215 {d : Nat} {a0 a1 a2 : Value} {s0 : Nat} {s1 : Nat} {s2 : Int32} {x : Int32} {h : AHp} : Rf d 217 215 [a0, a1, a2, .int x] [.ref s0, .ref s1, .int s2] h = Rf d 217 216 [a0, a1, a2, .int x] [.int x, .ref s0, .ref s1, .int s2] h := Rf_go ((stp_of c217_215).trans rfl)
theorem c217_216 : cd 217 216 = some (216, .iconst 1, 1, []) := by decide +kernel
theorem x217_216 {d : Nat} {a0 a1 a2 a3 : Value} {s0 : Int32} {s1 : Nat} {s2 : Nat} {s3 : Int32} {h : AHp} : Rf d 217 216 [a0, a1, a2, a3] [.int s0, .ref s1, .ref s2, .int s3] h = Rf d 217 217 [a0, a1, a2, a3] [.int 1, .int s0, .ref s1, .ref s2, .int s3] h := Rf_go ((stp_of c217_216).trans rfl)
theorem c217_217 : cd 217 217 = some (217, .iadd, 1, []) := by decide +kernel
theorem x217_217 {d : Nat} {a0 a1 a2 a3 : Value} {s0 : Int32} {s1 : Int32} {s2 : Nat} {s3 : Nat} {s4 : Int32} {h : AHp} : Rf d 217 217 [a0, a1, a2, a3] [.int s0, .int s1, .ref s2, .ref s3, .int s4] h = Rf d 217 218 [a0, a1, a2, a3] [.int (s1 + s0), .ref s2, .ref s3, .int s4] h := Rf_go ((stp_of c217_217).trans rfl)
theorem c217_218 : cd 217 218 = some (218, .iaload, 1, []) := by decide +kernel
theorem x217_218 {d : Nat} {a0 a1 a2 a3 : Value} {s0 : Int32} {s1 : Nat} {s2 : Nat} {s3 : Int32} {h : AHp} : Rf d 217 218 [a0, a1, a2, a3] [.int s0, .ref s1, .ref s2, .int s3] h = if (aT (h.1 s1) = 0 ∨ aT (h.1 s1) = 10) ∧ inB s0 (aN (h.1 s1)) = true then Rf d 217 219 [a0, a1, a2, a3] [.int (aF (h.1 s1) s0.toNatClampNeg), .ref s2, .int s3] h else Rx d 217 218 [a0, a1, a2, a3] [.int s0, .ref s1, .ref s2, .int s3] h := ldI c217_218
theorem c217_219 : cd 217 219 = some (219, .invokevirtual 26, 3, [(12, 156)]) := by decide +kernel
theorem xc217_219 {d : Nat} {a0 a1 a2 a3 : Value} {s0 : Int32} {s1 : Nat} {s2 : Int32} {h : AHp} {h1 : AHp} {v : Int32} (hr : cls (h.1 s1) = 12) (hq : Rf d 156 0 [.ref s1, .int s0] [] h = some (some (.int v), h1)) : Rf (d + 1) 217 219 [a0, a1, a2, a3] [.int s0, .ref s1, .int s2] h = Rf (d + 1) 217 222 [a0, a1, a2, a3] [.int v, .int s2] h1 := clV (c := 156) (as := [.int s0]) c217_219 rfl (by simp [isV]) (by rw [hr]; rfl) hq
theorem c217_222 : cd 217 222 = some (222, .if_icmp .eq 786, 3, [(1008, 0)]) := by decide +kernel
theorem x217_222 {d : Nat} {a0 a1 a2 a3 : Value} {s0 : Int32} {s1 : Int32} {h : AHp} : Rf d 217 222 [a0, a1, a2, a3] [.int s0, .int s1] h = if s1 = s0 then Rf d 217 1008 [a0, a1, a2, a3] [] h else Rf d 217 225 [a0, a1, a2, a3] [] h := Rf_brd ((stp_of c217_222).trans rfl)
theorem c217_225 : cd 217 225 = some (225, .iconst 0, 1, []) := by decide +kernel
theorem x217_225 {d : Nat} {a0 a1 a2 a3 : Value} {h : AHp} : Rf d 217 225 [a0, a1, a2, a3] [] h = Rf d 217 226 [a0, a1, a2, a3] [.int 0] h := Rf_go ((stp_of c217_225).trans rfl)
theorem c217_226 : cd 217 226 = some (226, .ireturn, 1, []) := by decide +kernel
theorem x217_226 {d : Nat} {a0 a1 a2 a3 : Value} {s0 : Int32} {h : AHp} : Rf d 217 226 [a0, a1, a2, a3] [.int s0] h = if retI (some .boolean) s0 = true then some (some (.int s0), h) else Rx d 217 226 [a0, a1, a2, a3] [.int s0] h := Rf_ife (fun hk => by rw [stp_of c217_226]; exact if_pos hk)
theorem c217_191 : cd 217 191 = some (191, .aload_n 1, 1, []) := by decide +kernel
theorem x217_191 {d : Nat} {a0 a2 a3 : Value} {x : Nat} {h : AHp} : Rf d 217 191 [a0, .ref x, a2, a3] [] h = Rf d 217 192 [a0, .ref x, a2, a3] [.ref x] h := Rf_go ((stp_of c217_191).trans rfl)
theorem c217_192 : cd 217 192 = some (192, .invokevirtual 18, 3, [(11, 96)]) := by decide +kernel
theorem xc217_192 {d : Nat} {a0 a1 a2 a3 : Value} {s0 : Nat} {h : AHp} {h1 : AHp} {v : Int32} (hr : cls (h.1 s0) = 11) (hq : Rf d 96 0 [.ref s0, noV, noV] [] h = some (some (.int v), h1)) : Rf (d + 1) 217 192 [a0, a1, a2, a3] [.ref s0] h = Rf (d + 1) 217 195 [a0, a1, a2, a3] [.int v] h1 := clV (c := 96) (as := []) c217_192 rfl (by simp [isV]) (by rw [hr]; rfl) hq
theorem c217_195 : cd 217 195 = some (195, .aload_n 2, 1, []) := by decide +kernel
theorem x217_195 {d : Nat} {a0 a1 a3 : Value} {s0 : Int32} {x : Nat} {h : AHp} : Rf d 217 195 [a0, a1, .ref x, a3] [.int s0] h = Rf d 217 196 [a0, a1, .ref x, a3] [.ref x, .int s0] h := Rf_go ((stp_of c217_195).trans rfl)
theorem c217_196 : cd 217 196 = some (196, .invokevirtual 22, 3, [(12, 145)]) := by decide +kernel
theorem xc217_196 {d : Nat} {a0 a1 a2 a3 : Value} {s0 : Nat} {s1 : Int32} {h : AHp} {h1 : AHp} {v : Int32} (hr : cls (h.1 s0) = 12) (hq : Rf d 145 0 [.ref s0, noV] [] h = some (some (.int v), h1)) : Rf (d + 1) 217 196 [a0, a1, a2, a3] [.ref s0, .int s1] h = Rf (d + 1) 217 199 [a0, a1, a2, a3] [.int v, .int s1] h1 := clV (c := 145) (as := []) c217_196 rfl (by simp [isV]) (by rw [hr]; rfl) hq
theorem c217_199 : cd 217 199 = some (199, .if_icmp .eq 809, 3, [(1008, 0)]) := by decide +kernel
theorem x217_199 {d : Nat} {a0 a1 a2 a3 : Value} {s0 : Int32} {s1 : Int32} {h : AHp} : Rf d 217 199 [a0, a1, a2, a3] [.int s0, .int s1] h = if s1 = s0 then Rf d 217 1008 [a0, a1, a2, a3] [] h else Rf d 217 202 [a0, a1, a2, a3] [] h := Rf_brd ((stp_of c217_199).trans rfl)
theorem c217_202 : cd 217 202 = some (202, .iconst 0, 1, []) := by decide +kernel
theorem x217_202 {d : Nat} {a0 a1 a2 a3 : Value} {h : AHp} : Rf d 217 202 [a0, a1, a2, a3] [] h = Rf d 217 203 [a0, a1, a2, a3] [.int 0] h := Rf_go ((stp_of c217_202).trans rfl)
theorem c217_203 : cd 217 203 = some (203, .ireturn, 1, []) := by decide +kernel
theorem x217_203 {d : Nat} {a0 a1 a2 a3 : Value} {s0 : Int32} {h : AHp} : Rf d 217 203 [a0, a1, a2, a3] [.int s0] h = if retI (some .boolean) s0 = true then some (some (.int s0), h) else Rx d 217 203 [a0, a1, a2, a3] [.int s0] h := Rf_ife (fun hk => by rw [stp_of c217_203]; exact if_pos hk)
theorem c217_168 : cd 217 168 = some (168, .aload_n 1, 1, []) := by decide +kernel
theorem x217_168 {d : Nat} {a0 a2 a3 : Value} {x : Nat} {h : AHp} : Rf d 217 168 [a0, .ref x, a2, a3] [] h = Rf d 217 169 [a0, .ref x, a2, a3] [.ref x] h := Rf_go ((stp_of c217_168).trans rfl)
theorem c217_169 : cd 217 169 = some (169, .aload_n 0, 1, []) := by decide +kernel
theorem x217_169 {d : Nat} {a1 a2 a3 : Value} {s0 : Nat} {x : Nat} {h : AHp} : Rf d 217 169 [.ref x, a1, a2, a3] [.ref s0] h = Rf d 217 170 [.ref x, a1, a2, a3] [.ref x, .ref s0] h := Rf_go ((stp_of c217_169).trans rfl)
theorem c217_170 : cd 217 170 = some (170, .iload_n 3, 1, []) := by decide +kernel
theorem x217_170 {d : Nat} {a0 a1 a2 : Value} {s0 : Nat} {s1 : Nat} {x : Int32} {h : AHp} : Rf d 217 170 [a0, a1, a2, .int x] [.ref s0, .ref s1] h = Rf d 217 171 [a0, a1, a2, .int x] [.int x, .ref s0, .ref s1] h := Rf_go ((stp_of c217_170).trans rfl)
theorem c217_171 : cd 217 171 = some (171, .iconst 1, 1, []) := by decide +kernel
theorem x217_171 {d : Nat} {a0 a1 a2 a3 : Value} {s0 : Int32} {s1 : Nat} {s2 : Nat} {h : AHp} : Rf d 217 171 [a0, a1, a2, a3] [.int s0, .ref s1, .ref s2] h = Rf d 217 172 [a0, a1, a2, a3] [.int 1, .int s0, .ref s1, .ref s2] h := Rf_go ((stp_of c217_171).trans rfl)
theorem c217_172 : cd 217 172 = some (172, .iadd, 1, []) := by decide +kernel
theorem x217_172 {d : Nat} {a0 a1 a2 a3 : Value} {s0 : Int32} {s1 : Int32} {s2 : Nat} {s3 : Nat} {h : AHp} : Rf d 217 172 [a0, a1, a2, a3] [.int s0, .int s1, .ref s2, .ref s3] h = Rf d 217 173 [a0, a1, a2, a3] [.int (s1 + s0), .ref s2, .ref s3] h := Rf_go ((stp_of c217_172).trans rfl)
theorem c217_173 : cd 217 173 = some (173, .iaload, 1, []) := by decide +kernel
theorem x217_173 {d : Nat} {a0 a1 a2 a3 : Value} {s0 : Int32} {s1 : Nat} {s2 : Nat} {h : AHp} : Rf d 217 173 [a0, a1, a2, a3] [.int s0, .ref s1, .ref s2] h = if (aT (h.1 s1) = 0 ∨ aT (h.1 s1) = 10) ∧ inB s0 (aN (h.1 s1)) = true then Rf d 217 174 [a0, a1, a2, a3] [.int (aF (h.1 s1) s0.toNatClampNeg), .ref s2] h else Rx d 217 173 [a0, a1, a2, a3] [.int s0, .ref s1, .ref s2] h := ldI c217_173
theorem c217_174 : cd 217 174 = some (174, .invokevirtual 13, 3, [(11, 95)]) := by decide +kernel
theorem xc217_174 {d : Nat} {a0 a1 a2 a3 : Value} {s0 : Int32} {s1 : Nat} {h : AHp} {h1 : AHp} {v : Int32} (hr : cls (h.1 s1) = 11) (hq : Rf d 95 0 [.ref s1, .int s0] [] h = some (some (.int v), h1)) : Rf (d + 1) 217 174 [a0, a1, a2, a3] [.int s0, .ref s1] h = Rf (d + 1) 217 177 [a0, a1, a2, a3] [.int v] h1 := clV (c := 95) (as := [.int s0]) c217_174 rfl (by simp [isV]) (by rw [hr]; rfl) hq
theorem c217_177 : cd 217 177 = some (177, .aload_n 2, 1, []) := by decide +kernel
theorem x217_177 {d : Nat} {a0 a1 a3 : Value} {s0 : Int32} {x : Nat} {h : AHp} : Rf d 217 177 [a0, a1, .ref x, a3] [.int s0] h = Rf d 217 178 [a0, a1, .ref x, a3] [.ref x, .int s0] h := Rf_go ((stp_of c217_177).trans rfl)
theorem c217_178 : cd 217 178 = some (178, .aload_n 0, 1, []) := by decide +kernel
theorem x217_178 {d : Nat} {a1 a2 a3 : Value} {s0 : Nat} {s1 : Int32} {x : Nat} {h : AHp} : Rf d 217 178 [.ref x, a1, a2, a3] [.ref s0, .int s1] h = Rf d 217 179 [.ref x, a1, a2, a3] [.ref x, .ref s0, .int s1] h := Rf_go ((stp_of c217_178).trans rfl)
theorem c217_179 : cd 217 179 = some (179, .iload_n 3, 1, []) := by decide +kernel
theorem x217_179 {d : Nat} {a0 a1 a2 : Value} {s0 : Nat} {s1 : Nat} {s2 : Int32} {x : Int32} {h : AHp} : Rf d 217 179 [a0, a1, a2, .int x] [.ref s0, .ref s1, .int s2] h = Rf d 217 180 [a0, a1, a2, .int x] [.int x, .ref s0, .ref s1, .int s2] h := Rf_go ((stp_of c217_179).trans rfl)
theorem c217_180 : cd 217 180 = some (180, .iconst 1, 1, []) := by decide +kernel
theorem x217_180 {d : Nat} {a0 a1 a2 a3 : Value} {s0 : Int32} {s1 : Nat} {s2 : Nat} {s3 : Int32} {h : AHp} : Rf d 217 180 [a0, a1, a2, a3] [.int s0, .ref s1, .ref s2, .int s3] h = Rf d 217 181 [a0, a1, a2, a3] [.int 1, .int s0, .ref s1, .ref s2, .int s3] h := Rf_go ((stp_of c217_180).trans rfl)
theorem c217_181 : cd 217 181 = some (181, .iadd, 1, []) := by decide +kernel
theorem x217_181 {d : Nat} {a0 a1 a2 a3 : Value} {s0 : Int32} {s1 : Int32} {s2 : Nat} {s3 : Nat} {s4 : Int32} {h : AHp} : Rf d 217 181 [a0, a1, a2, a3] [.int s0, .int s1, .ref s2, .ref s3, .int s4] h = Rf d 217 182 [a0, a1, a2, a3] [.int (s1 + s0), .ref s2, .ref s3, .int s4] h := Rf_go ((stp_of c217_181).trans rfl)
theorem c217_182 : cd 217 182 = some (182, .iaload, 1, []) := by decide +kernel
theorem x217_182 {d : Nat} {a0 a1 a2 a3 : Value} {s0 : Int32} {s1 : Nat} {s2 : Nat} {s3 : Int32} {h : AHp} : Rf d 217 182 [a0, a1, a2, a3] [.int s0, .ref s1, .ref s2, .int s3] h = if (aT (h.1 s1) = 0 ∨ aT (h.1 s1) = 10) ∧ inB s0 (aN (h.1 s1)) = true then Rf d 217 183 [a0, a1, a2, a3] [.int (aF (h.1 s1) s0.toNatClampNeg), .ref s2, .int s3] h else Rx d 217 182 [a0, a1, a2, a3] [.int s0, .ref s1, .ref s2, .int s3] h := ldI c217_182
theorem c217_183 : cd 217 183 = some (183, .invokevirtual 17, 3, [(12, 133)]) := by decide +kernel
theorem xc217_183 {d : Nat} {a0 a1 a2 a3 : Value} {s0 : Int32} {s1 : Nat} {s2 : Int32} {h : AHp} {h1 : AHp} {v : Int32} (hr : cls (h.1 s1) = 12) (hq : Rf d 133 0 [.ref s1, .int s0] [] h = some (some (.int v), h1)) : Rf (d + 1) 217 183 [a0, a1, a2, a3] [.int s0, .ref s1, .int s2] h = Rf (d + 1) 217 186 [a0, a1, a2, a3] [.int v, .int s2] h1 := clV (c := 133) (as := [.int s0]) c217_183 rfl (by simp [isV]) (by rw [hr]; rfl) hq
theorem c217_186 : cd 217 186 = some (186, .if_icmp .eq 822, 3, [(1008, 0)]) := by decide +kernel
theorem x217_186 {d : Nat} {a0 a1 a2 a3 : Value} {s0 : Int32} {s1 : Int32} {h : AHp} : Rf d 217 186 [a0, a1, a2, a3] [.int s0, .int s1] h = if s1 = s0 then Rf d 217 1008 [a0, a1, a2, a3] [] h else Rf d 217 189 [a0, a1, a2, a3] [] h := Rf_brd ((stp_of c217_186).trans rfl)
theorem c217_189 : cd 217 189 = some (189, .iconst 0, 1, []) := by decide +kernel
theorem x217_189 {d : Nat} {a0 a1 a2 a3 : Value} {h : AHp} : Rf d 217 189 [a0, a1, a2, a3] [] h = Rf d 217 190 [a0, a1, a2, a3] [.int 0] h := Rf_go ((stp_of c217_189).trans rfl)
theorem c217_190 : cd 217 190 = some (190, .ireturn, 1, []) := by decide +kernel
theorem x217_190 {d : Nat} {a0 a1 a2 a3 : Value} {s0 : Int32} {h : AHp} : Rf d 217 190 [a0, a1, a2, a3] [.int s0] h = if retI (some .boolean) s0 = true then some (some (.int s0), h) else Rx d 217 190 [a0, a1, a2, a3] [.int s0] h := Rf_ife (fun hk => by rw [stp_of c217_190]; exact if_pos hk)
theorem c217_1008 : cd 217 1008 = some (1008, .iinc 3 5, 3, []) := by decide +kernel
theorem x217_1008 {d : Nat} {a0 a1 a2 : Value} {x : Int32} {h : AHp} : Rf d 217 1008 [a0, a1, a2, .int x] [] h = Rf d 217 1011 [a0, a1, a2, .int (x + 5)] [] h := Rf_go ((stp_of c217_1008).trans rfl)
theorem c217_1011 : cd 217 1011 = some (1011, .goto (-993), 3, [(18, 0)]) := by decide +kernel
theorem x217_1011 {d : Nat} {a0 a1 a2 a3 : Value} {h : AHp} : Rf d 217 1011 [a0, a1, a2, a3] [] h = Rf d 217 18 [a0, a1, a2, a3] [] h := Rf_go ((stp_of c217_1011).trans rfl)
