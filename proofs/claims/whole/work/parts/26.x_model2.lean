-- 166: X12_set
theorem c166_0 : cd 166 0 = some (0, .aload_n 0, 1, []) := by decide +kernel
theorem x166_0 {d : Nat} {a1 a2 a3 a4 a5 : Value} {x : Nat} {h : AHp} : Rf d 166 0 [.ref x, a1, a2, a3, a4, a5] [] h = Rf d 166 1 [.ref x, a1, a2, a3, a4, a5] [.ref x] h := Rf_go ((stp_of c166_0).trans rfl)
theorem c166_1 : cd 166 1 = some (1, .iload_n 1, 1, []) := by decide +kernel
theorem x166_1 {d : Nat} {a0 a2 a3 a4 a5 : Value} {s0 : Nat} {x : Int32} {h : AHp} : Rf d 166 1 [a0, .int x, a2, a3, a4, a5] [.ref s0] h = Rf d 166 2 [a0, .int x, a2, a3, a4, a5] [.int x, .ref s0] h := Rf_go ((stp_of c166_1).trans rfl)
theorem c166_2 : cd 166 2 = some (2, .invokevirtual 140, 3, [(12, 132)]) := by decide +kernel
theorem xc166_2 {d : Nat} {a0 a1 a2 a3 a4 a5 : Value} {s0 : Int32} {s1 : Nat} {h : AHp} {h1 : AHp} {v : Int32} (hr : cls (h.1 s1) = 12) (hq : Rf d 132 0 [.ref s1, .int s0] [] h = some (some (.int v), h1)) : Rf (d + 1) 166 2 [a0, a1, a2, a3, a4, a5] [.int s0, .ref s1] h = Rf (d + 1) 166 5 [a0, a1, a2, a3, a4, a5] [.int v] h1 := clV (c := 132) (as := [.int s0]) c166_2 rfl (by simp [isV]) (by rw [hr]; rfl) hq
theorem c166_5 : cd 166 5 = some (5, .ifCond .eq 12, 3, [(17, 0)]) := by decide +kernel
theorem x166_5 {d : Nat} {a0 a1 a2 a3 a4 a5 : Value} {s0 : Int32} {h : AHp} : Rf d 166 5 [a0, a1, a2, a3, a4, a5] [.int s0] h = if s0 = 0 then Rf d 166 17 [a0, a1, a2, a3, a4, a5] [] h else Rf d 166 8 [a0, a1, a2, a3, a4, a5] [] h := Rf_brd ((stp_of c166_5).trans rfl)
theorem c166_17 : cd 166 17 = some (17, .iconst (-1), 1, []) := by decide +kernel
theorem x166_17 {d : Nat} {a0 a1 a2 a3 a4 a5 : Value} {h : AHp} : Rf d 166 17 [a0, a1, a2, a3, a4, a5] [] h = Rf d 166 18 [a0, a1, a2, a3, a4, a5] [.int (-1)] h := Rf_go ((stp_of c166_17).trans rfl)
theorem c166_18 : cd 166 18 = some (18, .ireturn, 1, []) := by decide +kernel
theorem x166_18 {d : Nat} {a0 a1 a2 a3 a4 a5 : Value} {s0 : Int32} {h : AHp} : Rf d 166 18 [a0, a1, a2, a3, a4, a5] [.int s0] h = some (some (.int s0), h) := Rf_end (by rw [stp_of c166_18]; simp only [stpI]; rw [if_pos (show retI (mH 166).2.2.1 s0 = true from retI_int)])
theorem c166_8 : cd 166 8 = some (8, .iload_n 2, 1, []) := by decide +kernel
theorem x166_8 {d : Nat} {a0 a1 a3 a4 a5 : Value} {x : Int32} {h : AHp} : Rf d 166 8 [a0, a1, .int x, a3, a4, a5] [] h = Rf d 166 9 [a0, a1, .int x, a3, a4, a5] [.int x] h := Rf_go ((stp_of c166_8).trans rfl)
theorem c166_9 : cd 166 9 = some (9, .iconst 0, 1, []) := by decide +kernel
theorem x166_9 {d : Nat} {a0 a1 a2 a3 a4 a5 : Value} {s0 : Int32} {h : AHp} : Rf d 166 9 [a0, a1, a2, a3, a4, a5] [.int s0] h = Rf d 166 10 [a0, a1, a2, a3, a4, a5] [.int 0, .int s0] h := Rf_go ((stp_of c166_9).trans rfl)
theorem c166_10 : cd 166 10 = some (10, .iconst 1, 1, []) := by decide +kernel
theorem x166_10 {d : Nat} {a0 a1 a2 a3 a4 a5 : Value} {s0 : Int32} {s1 : Int32} {h : AHp} : Rf d 166 10 [a0, a1, a2, a3, a4, a5] [.int s0, .int s1] h = Rf d 166 11 [a0, a1, a2, a3, a4, a5] [.int 1, .int s0, .int s1] h := Rf_go ((stp_of c166_10).trans rfl)
theorem c166_11 : cd 166 11 = some (11, .invokestatic 31, 3, [(0, 131)]) := by decide +kernel
theorem xc166_11 {d : Nat} {a0 a1 a2 a3 a4 a5 : Value} {s0 : Int32} {s1 : Int32} {s2 : Int32} {h : AHp} {h1 : AHp} {v : Int32} (hq : Rf d 131 0 [.int s2, .int s1, .int s0] [] h = some (some (.int v), h1)) : Rf (d + 1) 166 11 [a0, a1, a2, a3, a4, a5] [.int s0, .int s1, .int s2] h = Rf (d + 1) 166 14 [a0, a1, a2, a3, a4, a5] [.int v] h1 := clS (as := [.int s2, .int s1, .int s0]) c166_11 rfl rfl (by simp [isV]) hq
theorem c166_14 : cd 166 14 = some (14, .ifCond .ne 5, 3, [(19, 0)]) := by decide +kernel
theorem x166_14 {d : Nat} {a0 a1 a2 a3 a4 a5 : Value} {s0 : Int32} {h : AHp} : Rf d 166 14 [a0, a1, a2, a3, a4, a5] [.int s0] h = if s0 = 0 then Rf d 166 17 [a0, a1, a2, a3, a4, a5] [] h else Rf d 166 19 [a0, a1, a2, a3, a4, a5] [] h := Rf_brn ((stp_of c166_14).trans rfl)
theorem c166_19 : cd 166 19 = some (19, .iload_n 3, 1, []) := by decide +kernel
theorem x166_19 {d : Nat} {a0 a1 a2 a4 a5 : Value} {x : Int32} {h : AHp} : Rf d 166 19 [a0, a1, a2, .int x, a4, a5] [] h = Rf d 166 20 [a0, a1, a2, .int x, a4, a5] [.int x] h := Rf_go ((stp_of c166_19).trans rfl)
theorem c166_20 : cd 166 20 = some (20, .iconst 0, 1, []) := by decide +kernel
theorem x166_20 {d : Nat} {a0 a1 a2 a3 a4 a5 : Value} {s0 : Int32} {h : AHp} : Rf d 166 20 [a0, a1, a2, a3, a4, a5] [.int s0] h = Rf d 166 21 [a0, a1, a2, a3, a4, a5] [.int 0, .int s0] h := Rf_go ((stp_of c166_20).trans rfl)
theorem c166_21 : cd 166 21 = some (21, .sipush 999, 3, []) := by decide +kernel
theorem x166_21 {d : Nat} {a0 a1 a2 a3 a4 a5 : Value} {s0 : Int32} {s1 : Int32} {h : AHp} : Rf d 166 21 [a0, a1, a2, a3, a4, a5] [.int s0, .int s1] h = Rf d 166 24 [a0, a1, a2, a3, a4, a5] [.int 999, .int s0, .int s1] h := Rf_go ((stp_of c166_21).trans rfl)
theorem c166_24 : cd 166 24 = some (24, .invokestatic 31, 3, [(0, 131)]) := by decide +kernel
theorem xc166_24 {d : Nat} {a0 a1 a2 a3 a4 a5 : Value} {s0 : Int32} {s1 : Int32} {s2 : Int32} {h : AHp} {h1 : AHp} {v : Int32} (hq : Rf d 131 0 [.int s2, .int s1, .int s0] [] h = some (some (.int v), h1)) : Rf (d + 1) 166 24 [a0, a1, a2, a3, a4, a5] [.int s0, .int s1, .int s2] h = Rf (d + 1) 166 27 [a0, a1, a2, a3, a4, a5] [.int v] h1 := clS (as := [.int s2, .int s1, .int s0]) c166_24 rfl rfl (by simp [isV]) hq
theorem c166_27 : cd 166 27 = some (27, .ifCond .ne 6, 3, [(33, 0)]) := by decide +kernel
theorem x166_27 {d : Nat} {a0 a1 a2 a3 a4 a5 : Value} {s0 : Int32} {h : AHp} : Rf d 166 27 [a0, a1, a2, a3, a4, a5] [.int s0] h = if s0 = 0 then Rf d 166 30 [a0, a1, a2, a3, a4, a5] [] h else Rf d 166 33 [a0, a1, a2, a3, a4, a5] [] h := Rf_brn ((stp_of c166_27).trans rfl)
theorem c166_33 : cd 166 33 = some (33, .iload_n 2, 1, []) := by decide +kernel
theorem x166_33 {d : Nat} {a0 a1 a3 a4 a5 : Value} {x : Int32} {h : AHp} : Rf d 166 33 [a0, a1, .int x, a3, a4, a5] [] h = Rf d 166 34 [a0, a1, .int x, a3, a4, a5] [.int x] h := Rf_go ((stp_of c166_33).trans rfl)
theorem c166_34 : cd 166 34 = some (34, .ifCond .ne 8, 3, [(42, 0)]) := by decide +kernel
theorem x166_34 {d : Nat} {a0 a1 a2 a3 a4 a5 : Value} {s0 : Int32} {h : AHp} : Rf d 166 34 [a0, a1, a2, a3, a4, a5] [.int s0] h = if s0 = 0 then Rf d 166 37 [a0, a1, a2, a3, a4, a5] [] h else Rf d 166 42 [a0, a1, a2, a3, a4, a5] [] h := Rf_brn ((stp_of c166_34).trans rfl)
theorem c166_42 : cd 166 42 = some (42, .bipush 30, 2, []) := by decide +kernel
theorem x166_42 {d : Nat} {a0 a1 a2 a3 a4 a5 : Value} {h : AHp} : Rf d 166 42 [a0, a1, a2, a3, a4, a5] [] h = Rf d 166 44 [a0, a1, a2, a3, a4, a5] [.int 30] h := Rf_go ((stp_of c166_42).trans rfl)
theorem c166_44 : cd 166 44 = some (44, .iload_n 1, 1, []) := by decide +kernel
theorem x166_44 {d : Nat} {a0 a2 a3 a4 a5 : Value} {s0 : Int32} {x : Int32} {h : AHp} : Rf d 166 44 [a0, .int x, a2, a3, a4, a5] [.int s0] h = Rf d 166 45 [a0, .int x, a2, a3, a4, a5] [.int x, .int s0] h := Rf_go ((stp_of c166_44).trans rfl)
theorem c166_45 : cd 166 45 = some (45, .iadd, 1, []) := by decide +kernel
theorem x166_45 {d : Nat} {a0 a1 a2 a3 a4 a5 : Value} {s0 : Int32} {s1 : Int32} {h : AHp} : Rf d 166 45 [a0, a1, a2, a3, a4, a5] [.int s0, .int s1] h = Rf d 166 46 [a0, a1, a2, a3, a4, a5] [.int (s1 + s0)] h := Rf_go ((stp_of c166_45).trans rfl)
theorem c166_46 : cd 166 46 = some (46, .istore 4, 2, []) := by decide +kernel
theorem x166_46 {d : Nat} {a0 a1 a2 a3 a4 a5 : Value} {s0 : Int32} {h : AHp} : Rf d 166 46 [a0, a1, a2, a3, a4, a5] [.int s0] h = Rf d 166 48 [a0, a1, a2, a3, .int s0, a5] [] h := Rf_go ((stp_of c166_46).trans rfl)
theorem c166_48 : cd 166 48 = some (48, .aload_n 0, 1, []) := by decide +kernel
theorem x166_48 {d : Nat} {a1 a2 a3 a4 a5 : Value} {x : Nat} {h : AHp} : Rf d 166 48 [.ref x, a1, a2, a3, a4, a5] [] h = Rf d 166 49 [.ref x, a1, a2, a3, a4, a5] [.ref x] h := Rf_go ((stp_of c166_48).trans rfl)
theorem c166_49 : cd 166 49 = some (49, .getfield 9, 3, [(12, 0)]) := by decide +kernel
theorem x166_49 {d : Nat} {a0 a1 a2 a3 a4 a5 : Value} {s0 : Nat} {h : AHp} : Rf d 166 49 [a0, a1, a2, a3, a4, a5] [.ref s0] h = if cls (h.1 s0) = 12 ∧ oKr (h.1 s0) 0 = true then Rf d 166 52 [a0, a1, a2, a3, a4, a5] [.ref (oR (h.1 s0) 0)] h else Rx d 166 49 [a0, a1, a2, a3, a4, a5] [.ref s0] h := getR c166_49
theorem c166_52 : cd 166 52 = some (52, .iload 4, 2, []) := by decide +kernel
theorem x166_52 {d : Nat} {a0 a1 a2 a3 a5 : Value} {s0 : Nat} {x : Int32} {h : AHp} : Rf d 166 52 [a0, a1, a2, a3, .int x, a5] [.ref s0] h = Rf d 166 54 [a0, a1, a2, a3, .int x, a5] [.int x, .ref s0] h := Rf_go ((stp_of c166_52).trans rfl)
theorem c166_54 : cd 166 54 = some (54, .iaload, 1, []) := by decide +kernel
theorem x166_54 {d : Nat} {a0 a1 a2 a3 a4 a5 : Value} {s0 : Int32} {s1 : Nat} {h : AHp} : Rf d 166 54 [a0, a1, a2, a3, a4, a5] [.int s0, .ref s1] h = if (aT (h.1 s1) = 0 ∨ aT (h.1 s1) = 10) ∧ inB s0 (aN (h.1 s1)) = true then Rf d 166 55 [a0, a1, a2, a3, a4, a5] [.int (aF (h.1 s1) s0.toNatClampNeg)] h else Rx d 166 54 [a0, a1, a2, a3, a4, a5] [.int s0, .ref s1] h := ldI c166_54
theorem c166_55 : cd 166 55 = some (55, .istore 5, 2, []) := by decide +kernel
theorem x166_55 {d : Nat} {a0 a1 a2 a3 a4 a5 : Value} {s0 : Int32} {h : AHp} : Rf d 166 55 [a0, a1, a2, a3, a4, a5] [.int s0] h = Rf d 166 57 [a0, a1, a2, a3, a4, .int s0] [] h := Rf_go ((stp_of c166_55).trans rfl)
theorem c166_57 : cd 166 57 = some (57, .aload_n 0, 1, []) := by decide +kernel
theorem x166_57 {d : Nat} {a1 a2 a3 a4 a5 : Value} {x : Nat} {h : AHp} : Rf d 166 57 [.ref x, a1, a2, a3, a4, a5] [] h = Rf d 166 58 [.ref x, a1, a2, a3, a4, a5] [.ref x] h := Rf_go ((stp_of c166_57).trans rfl)
theorem c166_58 : cd 166 58 = some (58, .getfield 9, 3, [(12, 0)]) := by decide +kernel
theorem x166_58 {d : Nat} {a0 a1 a2 a3 a4 a5 : Value} {s0 : Nat} {h : AHp} : Rf d 166 58 [a0, a1, a2, a3, a4, a5] [.ref s0] h = if cls (h.1 s0) = 12 ∧ oKr (h.1 s0) 0 = true then Rf d 166 61 [a0, a1, a2, a3, a4, a5] [.ref (oR (h.1 s0) 0)] h else Rx d 166 58 [a0, a1, a2, a3, a4, a5] [.ref s0] h := getR c166_58
theorem c166_61 : cd 166 61 = some (61, .iload 4, 2, []) := by decide +kernel
theorem x166_61 {d : Nat} {a0 a1 a2 a3 a5 : Value} {s0 : Nat} {x : Int32} {h : AHp} : Rf d 166 61 [a0, a1, a2, a3, .int x, a5] [.ref s0] h = Rf d 166 63 [a0, a1, a2, a3, .int x, a5] [.int x, .ref s0] h := Rf_go ((stp_of c166_61).trans rfl)
theorem c166_63 : cd 166 63 = some (63, .iload_n 3, 1, []) := by decide +kernel
theorem x166_63 {d : Nat} {a0 a1 a2 a4 a5 : Value} {s0 : Int32} {s1 : Nat} {x : Int32} {h : AHp} : Rf d 166 63 [a0, a1, a2, .int x, a4, a5] [.int s0, .ref s1] h = Rf d 166 64 [a0, a1, a2, .int x, a4, a5] [.int x, .int s0, .ref s1] h := Rf_go ((stp_of c166_63).trans rfl)
theorem c166_64 : cd 166 64 = some (64, .iastore, 1, []) := by decide +kernel
theorem x166_64 {d : Nat} {a0 a1 a2 a3 a4 a5 : Value} {s0 : Int32} {s1 : Int32} {s2 : Nat} {h : AHp} : Rf d 166 64 [a0, a1, a2, a3, a4, a5] [.int s0, .int s1, .ref s2] h = if aT (h.1 s2) = 0 ∧ inB s1 (aN (h.1 s2)) = true then Rf d 166 65 [a0, a1, a2, a3, a4, a5] [] (hset h s2 (.inl (0, aN (h.1 s2), .inl (upd (aF (h.1 s2)) s1.toNatClampNeg s0)))) else Rx d 166 64 [a0, a1, a2, a3, a4, a5] [.int s0, .int s1, .ref s2] h := stI c166_64
theorem c166_65 : cd 166 65 = some (65, .iload 5, 2, []) := by decide +kernel
theorem x166_65 {d : Nat} {a0 a1 a2 a3 a4 : Value} {x : Int32} {h : AHp} : Rf d 166 65 [a0, a1, a2, a3, a4, .int x] [] h = Rf d 166 67 [a0, a1, a2, a3, a4, .int x] [.int x] h := Rf_go ((stp_of c166_65).trans rfl)
theorem c166_67 : cd 166 67 = some (67, .ireturn, 1, []) := by decide +kernel
theorem x166_67 {d : Nat} {a0 a1 a2 a3 a4 a5 : Value} {s0 : Int32} {h : AHp} : Rf d 166 67 [a0, a1, a2, a3, a4, a5] [.int s0] h = some (some (.int s0), h) := Rf_end (by rw [stp_of c166_67]; simp only [stpI]; rw [if_pos (show retI (mH 166).2.2.1 s0 = true from retI_int)])
theorem c166_37 : cd 166 37 = some (37, .bipush 20, 2, []) := by decide +kernel
theorem x166_37 {d : Nat} {a0 a1 a2 a3 a4 a5 : Value} {h : AHp} : Rf d 166 37 [a0, a1, a2, a3, a4, a5] [] h = Rf d 166 39 [a0, a1, a2, a3, a4, a5] [.int 20] h := Rf_go ((stp_of c166_37).trans rfl)
theorem c166_39 : cd 166 39 = some (39, .goto 5, 3, [(44, 0)]) := by decide +kernel
theorem x166_39 {d : Nat} {a0 a1 a2 a3 a4 a5 : Value} {s0 : Int32} {h : AHp} : Rf d 166 39 [a0, a1, a2, a3, a4, a5] [.int s0] h = Rf d 166 44 [a0, a1, a2, a3, a4, a5] [.int s0] h := Rf_go ((stp_of c166_39).trans rfl)
theorem c166_30 : cd 166 30 = some (30, .bipush (-2), 2, []) := by decide +kernel
theorem x166_30 {d : Nat} {a0 a1 a2 a3 a4 a5 : Value} {h : AHp} : Rf d 166 30 [a0, a1, a2, a3, a4, a5] [] h = Rf d 166 32 [a0, a1, a2, a3, a4, a5] [.int (-2)] h := Rf_go ((stp_of c166_30).trans rfl)
theorem c166_32 : cd 166 32 = some (32, .ireturn, 1, []) := by decide +kernel
theorem x166_32 {d : Nat} {a0 a1 a2 a3 a4 a5 : Value} {s0 : Int32} {h : AHp} : Rf d 166 32 [a0, a1, a2, a3, a4, a5] [.int s0] h = some (some (.int s0), h) := Rf_end (by rw [stp_of c166_32]; simp only [stpI]; rw [if_pos (show retI (mH 166).2.2.1 s0 = true from retI_int)])
-- 167: X12_telling
theorem c167_0 : cd 167 0 = some (0, .iload_n 1, 1, []) := by decide +kernel
theorem x167_0 {d : Nat} {a0 a2 : Value} {x : Int32} {h : AHp} : Rf d 167 0 [a0, .int x, a2] [] h = Rf d 167 1 [a0, .int x, a2] [.int x] h := Rf_go ((stp_of c167_0).trans rfl)
theorem c167_1 : cd 167 1 = some (1, .iconst 0, 1, []) := by decide +kernel
theorem x167_1 {d : Nat} {a0 a1 a2 : Value} {s0 : Int32} {h : AHp} : Rf d 167 1 [a0, a1, a2] [.int s0] h = Rf d 167 2 [a0, a1, a2] [.int 0, .int s0] h := Rf_go ((stp_of c167_1).trans rfl)
theorem c167_2 : cd 167 2 = some (2, .iconst 3, 1, []) := by decide +kernel
theorem x167_2 {d : Nat} {a0 a1 a2 : Value} {s0 : Int32} {s1 : Int32} {h : AHp} : Rf d 167 2 [a0, a1, a2] [.int s0, .int s1] h = Rf d 167 3 [a0, a1, a2] [.int 3, .int s0, .int s1] h := Rf_go ((stp_of c167_2).trans rfl)
theorem c167_3 : cd 167 3 = some (3, .invokestatic 31, 3, [(0, 131)]) := by decide +kernel
theorem xc167_3 {d : Nat} {a0 a1 a2 : Value} {s0 : Int32} {s1 : Int32} {s2 : Int32} {h : AHp} {h1 : AHp} {v : Int32} (hq : Rf d 131 0 [.int s2, .int s1, .int s0] [] h = some (some (.int v), h1)) : Rf (d + 1) 167 3 [a0, a1, a2] [.int s0, .int s1, .int s2] h = Rf (d + 1) 167 6 [a0, a1, a2] [.int v] h1 := clS (as := [.int s2, .int s1, .int s0]) c167_3 rfl rfl (by simp [isV]) hq
theorem c167_6 : cd 167 6 = some (6, .ifCond .ne 5, 3, [(11, 0)]) := by decide +kernel
theorem x167_6 {d : Nat} {a0 a1 a2 : Value} {s0 : Int32} {h : AHp} : Rf d 167 6 [a0, a1, a2] [.int s0] h = if s0 = 0 then Rf d 167 9 [a0, a1, a2] [] h else Rf d 167 11 [a0, a1, a2] [] h := Rf_brn ((stp_of c167_6).trans rfl)
theorem c167_11 : cd 167 11 = some (11, .aload_n 0, 1, []) := by decide +kernel
theorem x167_11 {d : Nat} {a1 a2 : Value} {x : Nat} {h : AHp} : Rf d 167 11 [.ref x, a1, a2] [] h = Rf d 167 12 [.ref x, a1, a2] [.ref x] h := Rf_go ((stp_of c167_11).trans rfl)
theorem c167_12 : cd 167 12 = some (12, .getfield 9, 3, [(12, 0)]) := by decide +kernel
theorem x167_12 {d : Nat} {a0 a1 a2 : Value} {s0 : Nat} {h : AHp} : Rf d 167 12 [a0, a1, a2] [.ref s0] h = if cls (h.1 s0) = 12 ∧ oKr (h.1 s0) 0 = true then Rf d 167 15 [a0, a1, a2] [.ref (oR (h.1 s0) 0)] h else Rx d 167 12 [a0, a1, a2] [.ref s0] h := getR c167_12
theorem c167_15 : cd 167 15 = some (15, .iconst 5, 1, []) := by decide +kernel
theorem x167_15 {d : Nat} {a0 a1 a2 : Value} {s0 : Nat} {h : AHp} : Rf d 167 15 [a0, a1, a2] [.ref s0] h = Rf d 167 16 [a0, a1, a2] [.int 5, .ref s0] h := Rf_go ((stp_of c167_15).trans rfl)
theorem c167_16 : cd 167 16 = some (16, .iaload, 1, []) := by decide +kernel
theorem x167_16 {d : Nat} {a0 a1 a2 : Value} {s0 : Int32} {s1 : Nat} {h : AHp} : Rf d 167 16 [a0, a1, a2] [.int s0, .ref s1] h = if (aT (h.1 s1) = 0 ∨ aT (h.1 s1) = 10) ∧ inB s0 (aN (h.1 s1)) = true then Rf d 167 17 [a0, a1, a2] [.int (aF (h.1 s1) s0.toNatClampNeg)] h else Rx d 167 16 [a0, a1, a2] [.int s0, .ref s1] h := ldI c167_16
theorem c167_17 : cd 167 17 = some (17, .istore_n 2, 1, []) := by decide +kernel
theorem x167_17 {d : Nat} {a0 a1 a2 : Value} {s0 : Int32} {h : AHp} : Rf d 167 17 [a0, a1, a2] [.int s0] h = Rf d 167 18 [a0, a1, .int s0] [] h := Rf_go ((stp_of c167_17).trans rfl)
theorem c167_18 : cd 167 18 = some (18, .aload_n 0, 1, []) := by decide +kernel
theorem x167_18 {d : Nat} {a1 a2 : Value} {x : Nat} {h : AHp} : Rf d 167 18 [.ref x, a1, a2] [] h = Rf d 167 19 [.ref x, a1, a2] [.ref x] h := Rf_go ((stp_of c167_18).trans rfl)
theorem c167_19 : cd 167 19 = some (19, .getfield 9, 3, [(12, 0)]) := by decide +kernel
theorem x167_19 {d : Nat} {a0 a1 a2 : Value} {s0 : Nat} {h : AHp} : Rf d 167 19 [a0, a1, a2] [.ref s0] h = if cls (h.1 s0) = 12 ∧ oKr (h.1 s0) 0 = true then Rf d 167 22 [a0, a1, a2] [.ref (oR (h.1 s0) 0)] h else Rx d 167 19 [a0, a1, a2] [.ref s0] h := getR c167_19
theorem c167_22 : cd 167 22 = some (22, .iconst 5, 1, []) := by decide +kernel
theorem x167_22 {d : Nat} {a0 a1 a2 : Value} {s0 : Nat} {h : AHp} : Rf d 167 22 [a0, a1, a2] [.ref s0] h = Rf d 167 23 [a0, a1, a2] [.int 5, .ref s0] h := Rf_go ((stp_of c167_22).trans rfl)
theorem c167_23 : cd 167 23 = some (23, .iload_n 1, 1, []) := by decide +kernel
theorem x167_23 {d : Nat} {a0 a2 : Value} {s0 : Int32} {s1 : Nat} {x : Int32} {h : AHp} : Rf d 167 23 [a0, .int x, a2] [.int s0, .ref s1] h = Rf d 167 24 [a0, .int x, a2] [.int x, .int s0, .ref s1] h := Rf_go ((stp_of c167_23).trans rfl)
theorem c167_24 : cd 167 24 = some (24, .iastore, 1, []) := by decide +kernel
theorem x167_24 {d : Nat} {a0 a1 a2 : Value} {s0 : Int32} {s1 : Int32} {s2 : Nat} {h : AHp} : Rf d 167 24 [a0, a1, a2] [.int s0, .int s1, .ref s2] h = if aT (h.1 s2) = 0 ∧ inB s1 (aN (h.1 s2)) = true then Rf d 167 25 [a0, a1, a2] [] (hset h s2 (.inl (0, aN (h.1 s2), .inl (upd (aF (h.1 s2)) s1.toNatClampNeg s0)))) else Rx d 167 24 [a0, a1, a2] [.int s0, .int s1, .ref s2] h := stI c167_24
theorem c167_25 : cd 167 25 = some (25, .iload_n 2, 1, []) := by decide +kernel
theorem x167_25 {d : Nat} {a0 a1 : Value} {x : Int32} {h : AHp} : Rf d 167 25 [a0, a1, .int x] [] h = Rf d 167 26 [a0, a1, .int x] [.int x] h := Rf_go ((stp_of c167_25).trans rfl)
theorem c167_26 : cd 167 26 = some (26, .ireturn, 1, []) := by decide +kernel
theorem x167_26 {d : Nat} {a0 a1 a2 : Value} {s0 : Int32} {h : AHp} : Rf d 167 26 [a0, a1, a2] [.int s0] h = some (some (.int s0), h) := Rf_end (by rw [stp_of c167_26]; simp only [stpI]; rw [if_pos (show retI (mH 167).2.2.1 s0 = true from retI_int)])
theorem c167_9 : cd 167 9 = some (9, .iconst (-1), 1, []) := by decide +kernel
theorem x167_9 {d : Nat} {a0 a1 a2 : Value} {h : AHp} : Rf d 167 9 [a0, a1, a2] [] h = Rf d 167 10 [a0, a1, a2] [.int (-1)] h := Rf_go ((stp_of c167_9).trans rfl)
theorem c167_10 : cd 167 10 = some (10, .ireturn, 1, []) := by decide +kernel
theorem x167_10 {d : Nat} {a0 a1 a2 : Value} {s0 : Int32} {h : AHp} : Rf d 167 10 [a0, a1, a2] [.int s0] h = some (some (.int s0), h) := Rf_end (by rw [stp_of c167_10]; simp only [stpI]; rw [if_pos (show retI (mH 167).2.2.1 s0 = true from retI_int)])
-- 168: X12_go
theorem c168_0 : cd 168 0 = some (0, .iconst 0, 1, []) := by decide +kernel
theorem x168_0 {d : Nat} {a0 a1 a2 a3 a4 a5 : Value} {h : AHp} : Rf d 168 0 [a0, a1, a2, a3, a4, a5] [] h = Rf d 168 1 [a0, a1, a2, a3, a4, a5] [.int 0] h := Rf_go ((stp_of c168_0).trans rfl)
theorem c168_1 : cd 168 1 = some (1, .istore_n 1, 1, []) := by decide +kernel
theorem x168_1 {d : Nat} {a0 a1 a2 a3 a4 a5 : Value} {s0 : Int32} {h : AHp} : Rf d 168 1 [a0, a1, a2, a3, a4, a5] [.int s0] h = Rf d 168 2 [a0, .int s0, a2, a3, a4, a5] [] h := Rf_go ((stp_of c168_1).trans rfl)
theorem c168_2 : cd 168 2 = some (2, .iconst 0, 1, []) := by decide +kernel
theorem x168_2 {d : Nat} {a0 a1 a2 a3 a4 a5 : Value} {h : AHp} : Rf d 168 2 [a0, a1, a2, a3, a4, a5] [] h = Rf d 168 3 [a0, a1, a2, a3, a4, a5] [.int 0] h := Rf_go ((stp_of c168_2).trans rfl)
theorem c168_3 : cd 168 3 = some (3, .istore_n 2, 1, []) := by decide +kernel
theorem x168_3 {d : Nat} {a0 a1 a2 a3 a4 a5 : Value} {s0 : Int32} {h : AHp} : Rf d 168 3 [a0, a1, a2, a3, a4, a5] [.int s0] h = Rf d 168 4 [a0, a1, .int s0, a3, a4, a5] [] h := Rf_go ((stp_of c168_3).trans rfl)
theorem c168_4 : cd 168 4 = some (4, .iload_n 2, 1, []) := by decide +kernel
theorem x168_4 {d : Nat} {a0 a1 a3 a4 a5 : Value} {x : Int32} {h : AHp} : Rf d 168 4 [a0, a1, .int x, a3, a4, a5] [] h = Rf d 168 5 [a0, a1, .int x, a3, a4, a5] [.int x] h := Rf_go ((stp_of c168_4).trans rfl)
theorem c168_5 : cd 168 5 = some (5, .aload_n 0, 1, []) := by decide +kernel
theorem x168_5 {d : Nat} {a1 a2 a3 a4 a5 : Value} {s0 : Int32} {x : Nat} {h : AHp} : Rf d 168 5 [.ref x, a1, a2, a3, a4, a5] [.int s0] h = Rf d 168 6 [.ref x, a1, a2, a3, a4, a5] [.ref x, .int s0] h := Rf_go ((stp_of c168_5).trans rfl)
theorem c168_6 : cd 168 6 = some (6, .getfield 9, 3, [(12, 0)]) := by decide +kernel
theorem x168_6 {d : Nat} {a0 a1 a2 a3 a4 a5 : Value} {s0 : Nat} {s1 : Int32} {h : AHp} : Rf d 168 6 [a0, a1, a2, a3, a4, a5] [.ref s0, .int s1] h = if cls (h.1 s0) = 12 ∧ oKr (h.1 s0) 0 = true then Rf d 168 9 [a0, a1, a2, a3, a4, a5] [.ref (oR (h.1 s0) 0), .int s1] h else Rx d 168 6 [a0, a1, a2, a3, a4, a5] [.ref s0, .int s1] h := getR c168_6
theorem c168_9 : cd 168 9 = some (9, .iconst 0, 1, []) := by decide +kernel
theorem x168_9 {d : Nat} {a0 a1 a2 a3 a4 a5 : Value} {s0 : Nat} {s1 : Int32} {h : AHp} : Rf d 168 9 [a0, a1, a2, a3, a4, a5] [.ref s0, .int s1] h = Rf d 168 10 [a0, a1, a2, a3, a4, a5] [.int 0, .ref s0, .int s1] h := Rf_go ((stp_of c168_9).trans rfl)
theorem c168_10 : cd 168 10 = some (10, .iaload, 1, []) := by decide +kernel
theorem x168_10 {d : Nat} {a0 a1 a2 a3 a4 a5 : Value} {s0 : Int32} {s1 : Nat} {s2 : Int32} {h : AHp} : Rf d 168 10 [a0, a1, a2, a3, a4, a5] [.int s0, .ref s1, .int s2] h = if (aT (h.1 s1) = 0 ∨ aT (h.1 s1) = 10) ∧ inB s0 (aN (h.1 s1)) = true then Rf d 168 11 [a0, a1, a2, a3, a4, a5] [.int (aF (h.1 s1) s0.toNatClampNeg), .int s2] h else Rx d 168 10 [a0, a1, a2, a3, a4, a5] [.int s0, .ref s1, .int s2] h := ldI c168_10
theorem c168_11 : cd 168 11 = some (11, .if_icmp .ge 116, 3, [(127, 0)]) := by decide +kernel
theorem x168_11 {d : Nat} {a0 a1 a2 a3 a4 a5 : Value} {s0 : Int32} {s1 : Int32} {h : AHp} : Rf d 168 11 [a0, a1, a2, a3, a4, a5] [.int s0, .int s1] h = if s1 < s0 then Rf d 168 14 [a0, a1, a2, a3, a4, a5] [] h else Rf d 168 127 [a0, a1, a2, a3, a4, a5] [] h := Rf_brn ((stp_of c168_11).trans rfl)
theorem c168_127 : cd 168 127 = some (127, .iconst 0, 1, []) := by decide +kernel
theorem x168_127 {d : Nat} {a0 a1 a2 a3 a4 a5 : Value} {h : AHp} : Rf d 168 127 [a0, a1, a2, a3, a4, a5] [] h = Rf d 168 128 [a0, a1, a2, a3, a4, a5] [.int 0] h := Rf_go ((stp_of c168_127).trans rfl)
theorem c168_128 : cd 168 128 = some (128, .istore_n 2, 1, []) := by decide +kernel
theorem x168_128 {d : Nat} {a0 a1 a2 a3 a4 a5 : Value} {s0 : Int32} {h : AHp} : Rf d 168 128 [a0, a1, a2, a3, a4, a5] [.int s0] h = Rf d 168 129 [a0, a1, .int s0, a3, a4, a5] [] h := Rf_go ((stp_of c168_128).trans rfl)
theorem c168_129 : cd 168 129 = some (129, .iload_n 2, 1, []) := by decide +kernel
theorem x168_129 {d : Nat} {a0 a1 a3 a4 a5 : Value} {x : Int32} {h : AHp} : Rf d 168 129 [a0, a1, .int x, a3, a4, a5] [] h = Rf d 168 130 [a0, a1, .int x, a3, a4, a5] [.int x] h := Rf_go ((stp_of c168_129).trans rfl)
theorem c168_130 : cd 168 130 = some (130, .aload_n 0, 1, []) := by decide +kernel
theorem x168_130 {d : Nat} {a1 a2 a3 a4 a5 : Value} {s0 : Int32} {x : Nat} {h : AHp} : Rf d 168 130 [.ref x, a1, a2, a3, a4, a5] [.int s0] h = Rf d 168 131 [.ref x, a1, a2, a3, a4, a5] [.ref x, .int s0] h := Rf_go ((stp_of c168_130).trans rfl)
theorem c168_131 : cd 168 131 = some (131, .getfield 9, 3, [(12, 0)]) := by decide +kernel
theorem x168_131 {d : Nat} {a0 a1 a2 a3 a4 a5 : Value} {s0 : Nat} {s1 : Int32} {h : AHp} : Rf d 168 131 [a0, a1, a2, a3, a4, a5] [.ref s0, .int s1] h = if cls (h.1 s0) = 12 ∧ oKr (h.1 s0) 0 = true then Rf d 168 134 [a0, a1, a2, a3, a4, a5] [.ref (oR (h.1 s0) 0), .int s1] h else Rx d 168 131 [a0, a1, a2, a3, a4, a5] [.ref s0, .int s1] h := getR c168_131
theorem c168_134 : cd 168 134 = some (134, .iconst 0, 1, []) := by decide +kernel
theorem x168_134 {d : Nat} {a0 a1 a2 a3 a4 a5 : Value} {s0 : Nat} {s1 : Int32} {h : AHp} : Rf d 168 134 [a0, a1, a2, a3, a4, a5] [.ref s0, .int s1] h = Rf d 168 135 [a0, a1, a2, a3, a4, a5] [.int 0, .ref s0, .int s1] h := Rf_go ((stp_of c168_134).trans rfl)
theorem c168_135 : cd 168 135 = some (135, .iaload, 1, []) := by decide +kernel
theorem x168_135 {d : Nat} {a0 a1 a2 a3 a4 a5 : Value} {s0 : Int32} {s1 : Nat} {s2 : Int32} {h : AHp} : Rf d 168 135 [a0, a1, a2, a3, a4, a5] [.int s0, .ref s1, .int s2] h = if (aT (h.1 s1) = 0 ∨ aT (h.1 s1) = 10) ∧ inB s0 (aN (h.1 s1)) = true then Rf d 168 136 [a0, a1, a2, a3, a4, a5] [.int (aF (h.1 s1) s0.toNatClampNeg), .int s2] h else Rx d 168 135 [a0, a1, a2, a3, a4, a5] [.int s0, .ref s1, .int s2] h := ldI c168_135
theorem c168_136 : cd 168 136 = some (136, .if_icmp .ge 44, 3, [(180, 0)]) := by decide +kernel
theorem x168_136 {d : Nat} {a0 a1 a2 a3 a4 a5 : Value} {s0 : Int32} {s1 : Int32} {h : AHp} : Rf d 168 136 [a0, a1, a2, a3, a4, a5] [.int s0, .int s1] h = if s1 < s0 then Rf d 168 139 [a0, a1, a2, a3, a4, a5] [] h else Rf d 168 180 [a0, a1, a2, a3, a4, a5] [] h := Rf_brn ((stp_of c168_136).trans rfl)
theorem c168_180 : cd 168 180 = some (180, .aload_n 0, 1, []) := by decide +kernel
theorem x168_180 {d : Nat} {a1 a2 a3 a4 a5 : Value} {x : Nat} {h : AHp} : Rf d 168 180 [.ref x, a1, a2, a3, a4, a5] [] h = Rf d 168 181 [.ref x, a1, a2, a3, a4, a5] [.ref x] h := Rf_go ((stp_of c168_180).trans rfl)
theorem c168_181 : cd 168 181 = some (181, .getfield 9, 3, [(12, 0)]) := by decide +kernel
theorem x168_181 {d : Nat} {a0 a1 a2 a3 a4 a5 : Value} {s0 : Nat} {h : AHp} : Rf d 168 181 [a0, a1, a2, a3, a4, a5] [.ref s0] h = if cls (h.1 s0) = 12 ∧ oKr (h.1 s0) 0 = true then Rf d 168 184 [a0, a1, a2, a3, a4, a5] [.ref (oR (h.1 s0) 0)] h else Rx d 168 181 [a0, a1, a2, a3, a4, a5] [.ref s0] h := getR c168_181
theorem c168_184 : cd 168 184 = some (184, .bipush 6, 2, []) := by decide +kernel
theorem x168_184 {d : Nat} {a0 a1 a2 a3 a4 a5 : Value} {s0 : Nat} {h : AHp} : Rf d 168 184 [a0, a1, a2, a3, a4, a5] [.ref s0] h = Rf d 168 186 [a0, a1, a2, a3, a4, a5] [.int 6, .ref s0] h := Rf_go ((stp_of c168_184).trans rfl)
theorem c168_186 : cd 168 186 = some (186, .dup2, 1, []) := by decide +kernel
theorem x168_186 {d : Nat} {a0 a1 a2 a3 a4 a5 : Value} {s0 : Int32} {s1 : Nat} {h : AHp} : Rf d 168 186 [a0, a1, a2, a3, a4, a5] [.int s0, .ref s1] h = Rf d 168 187 [a0, a1, a2, a3, a4, a5] [.int s0, .ref s1, .int s0, .ref s1] h := Rf_go ((stp_of c168_186).trans rfl)
theorem c168_187 : cd 168 187 = some (187, .iaload, 1, []) := by decide +kernel
theorem x168_187 {d : Nat} {a0 a1 a2 a3 a4 a5 : Value} {s0 : Int32} {s1 : Nat} {s2 : Int32} {s3 : Nat} {h : AHp} : Rf d 168 187 [a0, a1, a2, a3, a4, a5] [.int s0, .ref s1, .int s2, .ref s3] h = if (aT (h.1 s1) = 0 ∨ aT (h.1 s1) = 10) ∧ inB s0 (aN (h.1 s1)) = true then Rf d 168 188 [a0, a1, a2, a3, a4, a5] [.int (aF (h.1 s1) s0.toNatClampNeg), .int s2, .ref s3] h else Rx d 168 187 [a0, a1, a2, a3, a4, a5] [.int s0, .ref s1, .int s2, .ref s3] h := ldI c168_187
theorem c168_188 : cd 168 188 = some (188, .iconst 1, 1, []) := by decide +kernel
theorem x168_188 {d : Nat} {a0 a1 a2 a3 a4 a5 : Value} {s0 : Int32} {s1 : Int32} {s2 : Nat} {h : AHp} : Rf d 168 188 [a0, a1, a2, a3, a4, a5] [.int s0, .int s1, .ref s2] h = Rf d 168 189 [a0, a1, a2, a3, a4, a5] [.int 1, .int s0, .int s1, .ref s2] h := Rf_go ((stp_of c168_188).trans rfl)
theorem c168_189 : cd 168 189 = some (189, .iadd, 1, []) := by decide +kernel
theorem x168_189 {d : Nat} {a0 a1 a2 a3 a4 a5 : Value} {s0 : Int32} {s1 : Int32} {s2 : Int32} {s3 : Nat} {h : AHp} : Rf d 168 189 [a0, a1, a2, a3, a4, a5] [.int s0, .int s1, .int s2, .ref s3] h = Rf d 168 190 [a0, a1, a2, a3, a4, a5] [.int (s1 + s0), .int s2, .ref s3] h := Rf_go ((stp_of c168_189).trans rfl)
theorem c168_190 : cd 168 190 = some (190, .iastore, 1, []) := by decide +kernel
theorem x168_190 {d : Nat} {a0 a1 a2 a3 a4 a5 : Value} {s0 : Int32} {s1 : Int32} {s2 : Nat} {h : AHp} : Rf d 168 190 [a0, a1, a2, a3, a4, a5] [.int s0, .int s1, .ref s2] h = if aT (h.1 s2) = 0 ∧ inB s1 (aN (h.1 s2)) = true then Rf d 168 191 [a0, a1, a2, a3, a4, a5] [] (hset h s2 (.inl (0, aN (h.1 s2), .inl (upd (aF (h.1 s2)) s1.toNatClampNeg s0)))) else Rx d 168 190 [a0, a1, a2, a3, a4, a5] [.int s0, .int s1, .ref s2] h := stI c168_190
theorem c168_191 : cd 168 191 = some (191, .iload_n 1, 1, []) := by decide +kernel
theorem x168_191 {d : Nat} {a0 a2 a3 a4 a5 : Value} {x : Int32} {h : AHp} : Rf d 168 191 [a0, .int x, a2, a3, a4, a5] [] h = Rf d 168 192 [a0, .int x, a2, a3, a4, a5] [.int x] h := Rf_go ((stp_of c168_191).trans rfl)
theorem c168_192 : cd 168 192 = some (192, .ireturn, 1, []) := by decide +kernel
theorem x168_192 {d : Nat} {a0 a1 a2 a3 a4 a5 : Value} {s0 : Int32} {h : AHp} : Rf d 168 192 [a0, a1, a2, a3, a4, a5] [.int s0] h = some (some (.int s0), h) := Rf_end (by rw [stp_of c168_192]; simp only [stpI]; rw [if_pos (show retI (mH 168).2.2.1 s0 = true from retI_int)])
theorem c168_139 : cd 168 139 = some (139, .aload_n 0, 1, []) := by decide +kernel
theorem x168_139 {d : Nat} {a1 a2 a3 a4 a5 : Value} {x : Nat} {h : AHp} : Rf d 168 139 [.ref x, a1, a2, a3, a4, a5] [] h = Rf d 168 140 [.ref x, a1, a2, a3, a4, a5] [.ref x] h := Rf_go ((stp_of c168_139).trans rfl)
theorem c168_140 : cd 168 140 = some (140, .getfield 9, 3, [(12, 0)]) := by decide +kernel
theorem x168_140 {d : Nat} {a0 a1 a2 a3 a4 a5 : Value} {s0 : Nat} {h : AHp} : Rf d 168 140 [a0, a1, a2, a3, a4, a5] [.ref s0] h = if cls (h.1 s0) = 12 ∧ oKr (h.1 s0) 0 = true then Rf d 168 143 [a0, a1, a2, a3, a4, a5] [.ref (oR (h.1 s0) 0)] h else Rx d 168 140 [a0, a1, a2, a3, a4, a5] [.ref s0] h := getR c168_140
theorem c168_143 : cd 168 143 = some (143, .bipush 20, 2, []) := by decide +kernel
theorem x168_143 {d : Nat} {a0 a1 a2 a3 a4 a5 : Value} {s0 : Nat} {h : AHp} : Rf d 168 143 [a0, a1, a2, a3, a4, a5] [.ref s0] h = Rf d 168 145 [a0, a1, a2, a3, a4, a5] [.int 20, .ref s0] h := Rf_go ((stp_of c168_143).trans rfl)
theorem c168_145 : cd 168 145 = some (145, .iload_n 2, 1, []) := by decide +kernel
theorem x168_145 {d : Nat} {a0 a1 a3 a4 a5 : Value} {s0 : Int32} {s1 : Nat} {x : Int32} {h : AHp} : Rf d 168 145 [a0, a1, .int x, a3, a4, a5] [.int s0, .ref s1] h = Rf d 168 146 [a0, a1, .int x, a3, a4, a5] [.int x, .int s0, .ref s1] h := Rf_go ((stp_of c168_145).trans rfl)
theorem c168_146 : cd 168 146 = some (146, .iadd, 1, []) := by decide +kernel
theorem x168_146 {d : Nat} {a0 a1 a2 a3 a4 a5 : Value} {s0 : Int32} {s1 : Int32} {s2 : Nat} {h : AHp} : Rf d 168 146 [a0, a1, a2, a3, a4, a5] [.int s0, .int s1, .ref s2] h = Rf d 168 147 [a0, a1, a2, a3, a4, a5] [.int (s1 + s0), .ref s2] h := Rf_go ((stp_of c168_146).trans rfl)
theorem c168_147 : cd 168 147 = some (147, .aload_n 0, 1, []) := by decide +kernel
theorem x168_147 {d : Nat} {a1 a2 a3 a4 a5 : Value} {s0 : Int32} {s1 : Nat} {x : Nat} {h : AHp} : Rf d 168 147 [.ref x, a1, a2, a3, a4, a5] [.int s0, .ref s1] h = Rf d 168 148 [.ref x, a1, a2, a3, a4, a5] [.ref x, .int s0, .ref s1] h := Rf_go ((stp_of c168_147).trans rfl)
theorem c168_148 : cd 168 148 = some (148, .getfield 22, 3, [(12, 8)]) := by decide +kernel
theorem x168_148 {d : Nat} {a0 a1 a2 a3 a4 a5 : Value} {s0 : Nat} {s1 : Int32} {s2 : Nat} {h : AHp} : Rf d 168 148 [a0, a1, a2, a3, a4, a5] [.ref s0, .int s1, .ref s2] h = if cls (h.1 s0) = 12 ∧ oKr (h.1 s0) 8 = true then Rf d 168 151 [a0, a1, a2, a3, a4, a5] [.ref (oR (h.1 s0) 8), .int s1, .ref s2] h else Rx d 168 148 [a0, a1, a2, a3, a4, a5] [.ref s0, .int s1, .ref s2] h := getR c168_148
theorem c168_151 : cd 168 151 = some (151, .iload_n 2, 1, []) := by decide +kernel
theorem x168_151 {d : Nat} {a0 a1 a3 a4 a5 : Value} {s0 : Nat} {s1 : Int32} {s2 : Nat} {x : Int32} {h : AHp} : Rf d 168 151 [a0, a1, .int x, a3, a4, a5] [.ref s0, .int s1, .ref s2] h = Rf d 168 152 [a0, a1, .int x, a3, a4, a5] [.int x, .ref s0, .int s1, .ref s2] h := Rf_go ((stp_of c168_151).trans rfl)
theorem c168_152 : cd 168 152 = some (152, .iaload, 1, []) := by decide +kernel
theorem x168_152 {d : Nat} {a0 a1 a2 a3 a4 a5 : Value} {s0 : Int32} {s1 : Nat} {s2 : Int32} {s3 : Nat} {h : AHp} : Rf d 168 152 [a0, a1, a2, a3, a4, a5] [.int s0, .ref s1, .int s2, .ref s3] h = if (aT (h.1 s1) = 0 ∨ aT (h.1 s1) = 10) ∧ inB s0 (aN (h.1 s1)) = true then Rf d 168 153 [a0, a1, a2, a3, a4, a5] [.int (aF (h.1 s1) s0.toNatClampNeg), .int s2, .ref s3] h else Rx d 168 152 [a0, a1, a2, a3, a4, a5] [.int s0, .ref s1, .int s2, .ref s3] h := ldI c168_152
theorem c168_153 : cd 168 153 = some (153, .iastore, 1, []) := by decide +kernel
theorem x168_153 {d : Nat} {a0 a1 a2 a3 a4 a5 : Value} {s0 : Int32} {s1 : Int32} {s2 : Nat} {h : AHp} : Rf d 168 153 [a0, a1, a2, a3, a4, a5] [.int s0, .int s1, .ref s2] h = if aT (h.1 s2) = 0 ∧ inB s1 (aN (h.1 s2)) = true then Rf d 168 154 [a0, a1, a2, a3, a4, a5] [] (hset h s2 (.inl (0, aN (h.1 s2), .inl (upd (aF (h.1 s2)) s1.toNatClampNeg s0)))) else Rx d 168 153 [a0, a1, a2, a3, a4, a5] [.int s0, .int s1, .ref s2] h := stI c168_153
theorem c168_154 : cd 168 154 = some (154, .aload_n 0, 1, []) := by decide +kernel
theorem x168_154 {d : Nat} {a1 a2 a3 a4 a5 : Value} {x : Nat} {h : AHp} : Rf d 168 154 [.ref x, a1, a2, a3, a4, a5] [] h = Rf d 168 155 [.ref x, a1, a2, a3, a4, a5] [.ref x] h := Rf_go ((stp_of c168_154).trans rfl)
theorem c168_155 : cd 168 155 = some (155, .getfield 19, 3, [(12, 7)]) := by decide +kernel
theorem x168_155 {d : Nat} {a0 a1 a2 a3 a4 a5 : Value} {s0 : Nat} {h : AHp} : Rf d 168 155 [a0, a1, a2, a3, a4, a5] [.ref s0] h = if cls (h.1 s0) = 12 ∧ oKr (h.1 s0) 7 = true then Rf d 168 158 [a0, a1, a2, a3, a4, a5] [.ref (oR (h.1 s0) 7)] h else Rx d 168 155 [a0, a1, a2, a3, a4, a5] [.ref s0] h := getR c168_155
theorem c168_158 : cd 168 158 = some (158, .iload_n 2, 1, []) := by decide +kernel
theorem x168_158 {d : Nat} {a0 a1 a3 a4 a5 : Value} {s0 : Nat} {x : Int32} {h : AHp} : Rf d 168 158 [a0, a1, .int x, a3, a4, a5] [.ref s0] h = Rf d 168 159 [a0, a1, .int x, a3, a4, a5] [.int x, .ref s0] h := Rf_go ((stp_of c168_158).trans rfl)
theorem c168_159 : cd 168 159 = some (159, .iaload, 1, []) := by decide +kernel
theorem x168_159 {d : Nat} {a0 a1 a2 a3 a4 a5 : Value} {s0 : Int32} {s1 : Nat} {h : AHp} : Rf d 168 159 [a0, a1, a2, a3, a4, a5] [.int s0, .ref s1] h = if (aT (h.1 s1) = 0 ∨ aT (h.1 s1) = 10) ∧ inB s0 (aN (h.1 s1)) = true then Rf d 168 160 [a0, a1, a2, a3, a4, a5] [.int (aF (h.1 s1) s0.toNatClampNeg)] h else Rx d 168 159 [a0, a1, a2, a3, a4, a5] [.int s0, .ref s1] h := ldI c168_159
theorem c168_160 : cd 168 160 = some (160, .iconst 2, 1, []) := by decide +kernel
theorem x168_160 {d : Nat} {a0 a1 a2 a3 a4 a5 : Value} {s0 : Int32} {h : AHp} : Rf d 168 160 [a0, a1, a2, a3, a4, a5] [.int s0] h = Rf d 168 161 [a0, a1, a2, a3, a4, a5] [.int 2, .int s0] h := Rf_go ((stp_of c168_160).trans rfl)
theorem c168_161 : cd 168 161 = some (161, .if_icmp .ne 13, 3, [(174, 0)]) := by decide +kernel
theorem x168_161 {d : Nat} {a0 a1 a2 a3 a4 a5 : Value} {s0 : Int32} {s1 : Int32} {h : AHp} : Rf d 168 161 [a0, a1, a2, a3, a4, a5] [.int s0, .int s1] h = if s1 = s0 then Rf d 168 164 [a0, a1, a2, a3, a4, a5] [] h else Rf d 168 174 [a0, a1, a2, a3, a4, a5] [] h := Rf_brn ((stp_of c168_161).trans rfl)
theorem c168_174 : cd 168 174 = some (174, .iinc 2 1, 3, []) := by decide +kernel
theorem x168_174 {d : Nat} {a0 a1 a3 a4 a5 : Value} {x : Int32} {h : AHp} : Rf d 168 174 [a0, a1, .int x, a3, a4, a5] [] h = Rf d 168 177 [a0, a1, .int (x + 1), a3, a4, a5] [] h := Rf_go ((stp_of c168_174).trans rfl)
theorem c168_177 : cd 168 177 = some (177, .goto (-48), 3, [(129, 0)]) := by decide +kernel
theorem x168_177 {d : Nat} {a0 a1 a2 a3 a4 a5 : Value} {h : AHp} : Rf d 168 177 [a0, a1, a2, a3, a4, a5] [] h = Rf d 168 129 [a0, a1, a2, a3, a4, a5] [] h := Rf_go ((stp_of c168_177).trans rfl)
theorem c168_164 : cd 168 164 = some (164, .aload_n 0, 1, []) := by decide +kernel
theorem x168_164 {d : Nat} {a1 a2 a3 a4 a5 : Value} {x : Nat} {h : AHp} : Rf d 168 164 [.ref x, a1, a2, a3, a4, a5] [] h = Rf d 168 165 [.ref x, a1, a2, a3, a4, a5] [.ref x] h := Rf_go ((stp_of c168_164).trans rfl)
theorem c168_165 : cd 168 165 = some (165, .getfield 9, 3, [(12, 0)]) := by decide +kernel
theorem x168_165 {d : Nat} {a0 a1 a2 a3 a4 a5 : Value} {s0 : Nat} {h : AHp} : Rf d 168 165 [a0, a1, a2, a3, a4, a5] [.ref s0] h = if cls (h.1 s0) = 12 ∧ oKr (h.1 s0) 0 = true then Rf d 168 168 [a0, a1, a2, a3, a4, a5] [.ref (oR (h.1 s0) 0)] h else Rx d 168 165 [a0, a1, a2, a3, a4, a5] [.ref s0] h := getR c168_165
theorem c168_168 : cd 168 168 = some (168, .bipush 50, 2, []) := by decide +kernel
theorem x168_168 {d : Nat} {a0 a1 a2 a3 a4 a5 : Value} {s0 : Nat} {h : AHp} : Rf d 168 168 [a0, a1, a2, a3, a4, a5] [.ref s0] h = Rf d 168 170 [a0, a1, a2, a3, a4, a5] [.int 50, .ref s0] h := Rf_go ((stp_of c168_168).trans rfl)
theorem c168_170 : cd 168 170 = some (170, .iload_n 2, 1, []) := by decide +kernel
theorem x168_170 {d : Nat} {a0 a1 a3 a4 a5 : Value} {s0 : Int32} {s1 : Nat} {x : Int32} {h : AHp} : Rf d 168 170 [a0, a1, .int x, a3, a4, a5] [.int s0, .ref s1] h = Rf d 168 171 [a0, a1, .int x, a3, a4, a5] [.int x, .int s0, .ref s1] h := Rf_go ((stp_of c168_170).trans rfl)
theorem c168_171 : cd 168 171 = some (171, .iadd, 1, []) := by decide +kernel
theorem x168_171 {d : Nat} {a0 a1 a2 a3 a4 a5 : Value} {s0 : Int32} {s1 : Int32} {s2 : Nat} {h : AHp} : Rf d 168 171 [a0, a1, a2, a3, a4, a5] [.int s0, .int s1, .ref s2] h = Rf d 168 172 [a0, a1, a2, a3, a4, a5] [.int (s1 + s0), .ref s2] h := Rf_go ((stp_of c168_171).trans rfl)
theorem c168_172 : cd 168 172 = some (172, .iconst (-1), 1, []) := by decide +kernel
theorem x168_172 {d : Nat} {a0 a1 a2 a3 a4 a5 : Value} {s0 : Int32} {s1 : Nat} {h : AHp} : Rf d 168 172 [a0, a1, a2, a3, a4, a5] [.int s0, .ref s1] h = Rf d 168 173 [a0, a1, a2, a3, a4, a5] [.int (-1), .int s0, .ref s1] h := Rf_go ((stp_of c168_172).trans rfl)
theorem c168_173 : cd 168 173 = some (173, .iastore, 1, []) := by decide +kernel
theorem x168_173 {d : Nat} {a0 a1 a2 a3 a4 a5 : Value} {s0 : Int32} {s1 : Int32} {s2 : Nat} {h : AHp} : Rf d 168 173 [a0, a1, a2, a3, a4, a5] [.int s0, .int s1, .ref s2] h = if aT (h.1 s2) = 0 ∧ inB s1 (aN (h.1 s2)) = true then Rf d 168 174 [a0, a1, a2, a3, a4, a5] [] (hset h s2 (.inl (0, aN (h.1 s2), .inl (upd (aF (h.1 s2)) s1.toNatClampNeg s0)))) else Rx d 168 173 [a0, a1, a2, a3, a4, a5] [.int s0, .int s1, .ref s2] h := stI c168_173
theorem c168_14 : cd 168 14 = some (14, .aload_n 0, 1, []) := by decide +kernel
theorem x168_14 {d : Nat} {a1 a2 a3 a4 a5 : Value} {x : Nat} {h : AHp} : Rf d 168 14 [.ref x, a1, a2, a3, a4, a5] [] h = Rf d 168 15 [.ref x, a1, a2, a3, a4, a5] [.ref x] h := Rf_go ((stp_of c168_14).trans rfl)
theorem c168_15 : cd 168 15 = some (15, .iload_n 2, 1, []) := by decide +kernel
theorem x168_15 {d : Nat} {a0 a1 a3 a4 a5 : Value} {s0 : Nat} {x : Int32} {h : AHp} : Rf d 168 15 [a0, a1, .int x, a3, a4, a5] [.ref s0] h = Rf d 168 16 [a0, a1, .int x, a3, a4, a5] [.int x, .ref s0] h := Rf_go ((stp_of c168_15).trans rfl)
theorem c168_16 : cd 168 16 = some (16, .invokevirtual 158, 3, [(12, 164)]) := by decide +kernel
theorem xc168_16 {d : Nat} {a0 a1 a2 a3 a4 a5 : Value} {s0 : Int32} {s1 : Nat} {h : AHp} {h1 : AHp} {v : Int32} (hr : cls (h.1 s1) = 12) (hq : Rf d 164 0 [.ref s1, .int s0, noV] [] h = some (some (.int v), h1)) : Rf (d + 1) 168 16 [a0, a1, a2, a3, a4, a5] [.int s0, .ref s1] h = Rf (d + 1) 168 19 [a0, a1, a2, a3, a4, a5] [.int v] h1 := clV (c := 164) (as := [.int s0]) c168_16 rfl (by simp [isV]) (by rw [hr]; rfl) hq
theorem c168_19 : cd 168 19 = some (19, .istore_n 3, 1, []) := by decide +kernel
theorem x168_19 {d : Nat} {a0 a1 a2 a3 a4 a5 : Value} {s0 : Int32} {h : AHp} : Rf d 168 19 [a0, a1, a2, a3, a4, a5] [.int s0] h = Rf d 168 20 [a0, a1, a2, .int s0, a4, a5] [] h := Rf_go ((stp_of c168_19).trans rfl)
theorem c168_20 : cd 168 20 = some (20, .aload_n 0, 1, []) := by decide +kernel
theorem x168_20 {d : Nat} {a1 a2 a3 a4 a5 : Value} {x : Nat} {h : AHp} : Rf d 168 20 [.ref x, a1, a2, a3, a4, a5] [] h = Rf d 168 21 [.ref x, a1, a2, a3, a4, a5] [.ref x] h := Rf_go ((stp_of c168_20).trans rfl)
theorem c168_21 : cd 168 21 = some (21, .getfield 9, 3, [(12, 0)]) := by decide +kernel
theorem x168_21 {d : Nat} {a0 a1 a2 a3 a4 a5 : Value} {s0 : Nat} {h : AHp} : Rf d 168 21 [a0, a1, a2, a3, a4, a5] [.ref s0] h = if cls (h.1 s0) = 12 ∧ oKr (h.1 s0) 0 = true then Rf d 168 24 [a0, a1, a2, a3, a4, a5] [.ref (oR (h.1 s0) 0)] h else Rx d 168 21 [a0, a1, a2, a3, a4, a5] [.ref s0] h := getR c168_21
theorem c168_24 : cd 168 24 = some (24, .bipush 20, 2, []) := by decide +kernel
theorem x168_24 {d : Nat} {a0 a1 a2 a3 a4 a5 : Value} {s0 : Nat} {h : AHp} : Rf d 168 24 [a0, a1, a2, a3, a4, a5] [.ref s0] h = Rf d 168 26 [a0, a1, a2, a3, a4, a5] [.int 20, .ref s0] h := Rf_go ((stp_of c168_24).trans rfl)
theorem c168_26 : cd 168 26 = some (26, .iload_n 2, 1, []) := by decide +kernel
theorem x168_26 {d : Nat} {a0 a1 a3 a4 a5 : Value} {s0 : Int32} {s1 : Nat} {x : Int32} {h : AHp} : Rf d 168 26 [a0, a1, .int x, a3, a4, a5] [.int s0, .ref s1] h = Rf d 168 27 [a0, a1, .int x, a3, a4, a5] [.int x, .int s0, .ref s1] h := Rf_go ((stp_of c168_26).trans rfl)
theorem c168_27 : cd 168 27 = some (27, .iadd, 1, []) := by decide +kernel
theorem x168_27 {d : Nat} {a0 a1 a2 a3 a4 a5 : Value} {s0 : Int32} {s1 : Int32} {s2 : Nat} {h : AHp} : Rf d 168 27 [a0, a1, a2, a3, a4, a5] [.int s0, .int s1, .ref s2] h = Rf d 168 28 [a0, a1, a2, a3, a4, a5] [.int (s1 + s0), .ref s2] h := Rf_go ((stp_of c168_27).trans rfl)
theorem c168_28 : cd 168 28 = some (28, .iaload, 1, []) := by decide +kernel
theorem x168_28 {d : Nat} {a0 a1 a2 a3 a4 a5 : Value} {s0 : Int32} {s1 : Nat} {h : AHp} : Rf d 168 28 [a0, a1, a2, a3, a4, a5] [.int s0, .ref s1] h = if (aT (h.1 s1) = 0 ∨ aT (h.1 s1) = 10) ∧ inB s0 (aN (h.1 s1)) = true then Rf d 168 29 [a0, a1, a2, a3, a4, a5] [.int (aF (h.1 s1) s0.toNatClampNeg)] h else Rx d 168 28 [a0, a1, a2, a3, a4, a5] [.int s0, .ref s1] h := ldI c168_28
theorem c168_29 : cd 168 29 = some (29, .istore 4, 2, []) := by decide +kernel
theorem x168_29 {d : Nat} {a0 a1 a2 a3 a4 a5 : Value} {s0 : Int32} {h : AHp} : Rf d 168 29 [a0, a1, a2, a3, a4, a5] [.int s0] h = Rf d 168 31 [a0, a1, a2, a3, .int s0, a5] [] h := Rf_go ((stp_of c168_29).trans rfl)
theorem c168_31 : cd 168 31 = some (31, .aload_n 0, 1, []) := by decide +kernel
theorem x168_31 {d : Nat} {a1 a2 a3 a4 a5 : Value} {x : Nat} {h : AHp} : Rf d 168 31 [.ref x, a1, a2, a3, a4, a5] [] h = Rf d 168 32 [.ref x, a1, a2, a3, a4, a5] [.ref x] h := Rf_go ((stp_of c168_31).trans rfl)
theorem c168_32 : cd 168 32 = some (32, .getfield 22, 3, [(12, 8)]) := by decide +kernel
theorem x168_32 {d : Nat} {a0 a1 a2 a3 a4 a5 : Value} {s0 : Nat} {h : AHp} : Rf d 168 32 [a0, a1, a2, a3, a4, a5] [.ref s0] h = if cls (h.1 s0) = 12 ∧ oKr (h.1 s0) 8 = true then Rf d 168 35 [a0, a1, a2, a3, a4, a5] [.ref (oR (h.1 s0) 8)] h else Rx d 168 32 [a0, a1, a2, a3, a4, a5] [.ref s0] h := getR c168_32
theorem c168_35 : cd 168 35 = some (35, .iload_n 2, 1, []) := by decide +kernel
theorem x168_35 {d : Nat} {a0 a1 a3 a4 a5 : Value} {s0 : Nat} {x : Int32} {h : AHp} : Rf d 168 35 [a0, a1, .int x, a3, a4, a5] [.ref s0] h = Rf d 168 36 [a0, a1, .int x, a3, a4, a5] [.int x, .ref s0] h := Rf_go ((stp_of c168_35).trans rfl)
theorem c168_36 : cd 168 36 = some (36, .iload 4, 2, []) := by decide +kernel
theorem x168_36 {d : Nat} {a0 a1 a2 a3 a5 : Value} {s0 : Int32} {s1 : Nat} {x : Int32} {h : AHp} : Rf d 168 36 [a0, a1, a2, a3, .int x, a5] [.int s0, .ref s1] h = Rf d 168 38 [a0, a1, a2, a3, .int x, a5] [.int x, .int s0, .ref s1] h := Rf_go ((stp_of c168_36).trans rfl)
theorem c168_38 : cd 168 38 = some (38, .iastore, 1, []) := by decide +kernel
theorem x168_38 {d : Nat} {a0 a1 a2 a3 a4 a5 : Value} {s0 : Int32} {s1 : Int32} {s2 : Nat} {h : AHp} : Rf d 168 38 [a0, a1, a2, a3, a4, a5] [.int s0, .int s1, .ref s2] h = if aT (h.1 s2) = 0 ∧ inB s1 (aN (h.1 s2)) = true then Rf d 168 39 [a0, a1, a2, a3, a4, a5] [] (hset h s2 (.inl (0, aN (h.1 s2), .inl (upd (aF (h.1 s2)) s1.toNatClampNeg s0)))) else Rx d 168 38 [a0, a1, a2, a3, a4, a5] [.int s0, .int s1, .ref s2] h := stI c168_38
theorem c168_39 : cd 168 39 = some (39, .aload_n 0, 1, []) := by decide +kernel
theorem x168_39 {d : Nat} {a1 a2 a3 a4 a5 : Value} {x : Nat} {h : AHp} : Rf d 168 39 [.ref x, a1, a2, a3, a4, a5] [] h = Rf d 168 40 [.ref x, a1, a2, a3, a4, a5] [.ref x] h := Rf_go ((stp_of c168_39).trans rfl)
theorem c168_40 : cd 168 40 = some (40, .getfield 19, 3, [(12, 7)]) := by decide +kernel
theorem x168_40 {d : Nat} {a0 a1 a2 a3 a4 a5 : Value} {s0 : Nat} {h : AHp} : Rf d 168 40 [a0, a1, a2, a3, a4, a5] [.ref s0] h = if cls (h.1 s0) = 12 ∧ oKr (h.1 s0) 7 = true then Rf d 168 43 [a0, a1, a2, a3, a4, a5] [.ref (oR (h.1 s0) 7)] h else Rx d 168 40 [a0, a1, a2, a3, a4, a5] [.ref s0] h := getR c168_40
theorem c168_43 : cd 168 43 = some (43, .iload_n 2, 1, []) := by decide +kernel
theorem x168_43 {d : Nat} {a0 a1 a3 a4 a5 : Value} {s0 : Nat} {x : Int32} {h : AHp} : Rf d 168 43 [a0, a1, .int x, a3, a4, a5] [.ref s0] h = Rf d 168 44 [a0, a1, .int x, a3, a4, a5] [.int x, .ref s0] h := Rf_go ((stp_of c168_43).trans rfl)
theorem c168_44 : cd 168 44 = some (44, .iload_n 3, 1, []) := by decide +kernel
theorem x168_44 {d : Nat} {a0 a1 a2 a4 a5 : Value} {s0 : Int32} {s1 : Nat} {x : Int32} {h : AHp} : Rf d 168 44 [a0, a1, a2, .int x, a4, a5] [.int s0, .ref s1] h = Rf d 168 45 [a0, a1, a2, .int x, a4, a5] [.int x, .int s0, .ref s1] h := Rf_go ((stp_of c168_44).trans rfl)
theorem c168_45 : cd 168 45 = some (45, .iastore, 1, []) := by decide +kernel
theorem x168_45 {d : Nat} {a0 a1 a2 a3 a4 a5 : Value} {s0 : Int32} {s1 : Int32} {s2 : Nat} {h : AHp} : Rf d 168 45 [a0, a1, a2, a3, a4, a5] [.int s0, .int s1, .ref s2] h = if aT (h.1 s2) = 0 ∧ inB s1 (aN (h.1 s2)) = true then Rf d 168 46 [a0, a1, a2, a3, a4, a5] [] (hset h s2 (.inl (0, aN (h.1 s2), .inl (upd (aF (h.1 s2)) s1.toNatClampNeg s0)))) else Rx d 168 45 [a0, a1, a2, a3, a4, a5] [.int s0, .int s1, .ref s2] h := stI c168_45
theorem c168_46 : cd 168 46 = some (46, .iload_n 3, 1, []) := by decide +kernel
theorem x168_46 {d : Nat} {a0 a1 a2 a4 a5 : Value} {x : Int32} {h : AHp} : Rf d 168 46 [a0, a1, a2, .int x, a4, a5] [] h = Rf d 168 47 [a0, a1, a2, .int x, a4, a5] [.int x] h := Rf_go ((stp_of c168_46).trans rfl)
theorem c168_47 : cd 168 47 = some (47, .iconst 2, 1, []) := by decide +kernel
theorem x168_47 {d : Nat} {a0 a1 a2 a3 a4 a5 : Value} {s0 : Int32} {h : AHp} : Rf d 168 47 [a0, a1, a2, a3, a4, a5] [.int s0] h = Rf d 168 48 [a0, a1, a2, a3, a4, a5] [.int 2, .int s0] h := Rf_go ((stp_of c168_47).trans rfl)
theorem c168_48 : cd 168 48 = some (48, .if_icmp .ne 17, 3, [(65, 0)]) := by decide +kernel
theorem x168_48 {d : Nat} {a0 a1 a2 a3 a4 a5 : Value} {s0 : Int32} {s1 : Int32} {h : AHp} : Rf d 168 48 [a0, a1, a2, a3, a4, a5] [.int s0, .int s1] h = if s1 = s0 then Rf d 168 51 [a0, a1, a2, a3, a4, a5] [] h else Rf d 168 65 [a0, a1, a2, a3, a4, a5] [] h := Rf_brn ((stp_of c168_48).trans rfl)
theorem c168_65 : cd 168 65 = some (65, .iload_n 3, 1, []) := by decide +kernel
theorem x168_65 {d : Nat} {a0 a1 a2 a4 a5 : Value} {x : Int32} {h : AHp} : Rf d 168 65 [a0, a1, a2, .int x, a4, a5] [] h = Rf d 168 66 [a0, a1, a2, .int x, a4, a5] [.int x] h := Rf_go ((stp_of c168_65).trans rfl)
theorem c168_66 : cd 168 66 = some (66, .iconst 1, 1, []) := by decide +kernel
theorem x168_66 {d : Nat} {a0 a1 a2 a3 a4 a5 : Value} {s0 : Int32} {h : AHp} : Rf d 168 66 [a0, a1, a2, a3, a4, a5] [.int s0] h = Rf d 168 67 [a0, a1, a2, a3, a4, a5] [.int 1, .int s0] h := Rf_go ((stp_of c168_66).trans rfl)
theorem c168_67 : cd 168 67 = some (67, .if_icmp .ne 54, 3, [(121, 0)]) := by decide +kernel
theorem x168_67 {d : Nat} {a0 a1 a2 a3 a4 a5 : Value} {s0 : Int32} {s1 : Int32} {h : AHp} : Rf d 168 67 [a0, a1, a2, a3, a4, a5] [.int s0, .int s1] h = if s1 = s0 then Rf d 168 70 [a0, a1, a2, a3, a4, a5] [] h else Rf d 168 121 [a0, a1, a2, a3, a4, a5] [] h := Rf_brn ((stp_of c168_67).trans rfl)
theorem c168_121 : cd 168 121 = some (121, .iinc 2 1, 3, []) := by decide +kernel
theorem x168_121 {d : Nat} {a0 a1 a3 a4 a5 : Value} {x : Int32} {h : AHp} : Rf d 168 121 [a0, a1, .int x, a3, a4, a5] [] h = Rf d 168 124 [a0, a1, .int (x + 1), a3, a4, a5] [] h := Rf_go ((stp_of c168_121).trans rfl)
theorem c168_124 : cd 168 124 = some (124, .goto (-120), 3, [(4, 0)]) := by decide +kernel
theorem x168_124 {d : Nat} {a0 a1 a2 a3 a4 a5 : Value} {h : AHp} : Rf d 168 124 [a0, a1, a2, a3, a4, a5] [] h = Rf d 168 4 [a0, a1, a2, a3, a4, a5] [] h := Rf_go ((stp_of c168_124).trans rfl)
theorem c168_70 : cd 168 70 = some (70, .iload 4, 2, []) := by decide +kernel
theorem x168_70 {d : Nat} {a0 a1 a2 a3 a5 : Value} {x : Int32} {h : AHp} : Rf d 168 70 [a0, a1, a2, a3, .int x, a5] [] h = Rf d 168 72 [a0, a1, a2, a3, .int x, a5] [.int x] h := Rf_go ((stp_of c168_70).trans rfl)
theorem c168_72 : cd 168 72 = some (72, .aload_n 0, 1, []) := by decide +kernel
theorem x168_72 {d : Nat} {a1 a2 a3 a4 a5 : Value} {s0 : Int32} {x : Nat} {h : AHp} : Rf d 168 72 [.ref x, a1, a2, a3, a4, a5] [.int s0] h = Rf d 168 73 [.ref x, a1, a2, a3, a4, a5] [.ref x, .int s0] h := Rf_go ((stp_of c168_72).trans rfl)
theorem c168_73 : cd 168 73 = some (73, .invokevirtual 127, 3, [(12, 153)]) := by decide +kernel
theorem xc168_73 {d : Nat} {a0 a1 a2 a3 a4 a5 : Value} {s0 : Nat} {s1 : Int32} {h : AHp} {h1 : AHp} {v : Int32} (hr : cls (h.1 s0) = 12) (hq : Rf d 153 0 [.ref s0] [] h = some (some (.int v), h1)) : Rf (d + 1) 168 73 [a0, a1, a2, a3, a4, a5] [.ref s0, .int s1] h = Rf (d + 1) 168 76 [a0, a1, a2, a3, a4, a5] [.int v, .int s1] h1 := clV (c := 153) (as := []) c168_73 rfl (by simp [isV]) (by rw [hr]; rfl) hq
theorem c168_76 : cd 168 76 = some (76, .iadd, 1, []) := by decide +kernel
theorem x168_76 {d : Nat} {a0 a1 a2 a3 a4 a5 : Value} {s0 : Int32} {s1 : Int32} {h : AHp} : Rf d 168 76 [a0, a1, a2, a3, a4, a5] [.int s0, .int s1] h = Rf d 168 77 [a0, a1, a2, a3, a4, a5] [.int (s1 + s0)] h := Rf_go ((stp_of c168_76).trans rfl)
theorem c168_77 : cd 168 77 = some (77, .aload_n 0, 1, []) := by decide +kernel
theorem x168_77 {d : Nat} {a1 a2 a3 a4 a5 : Value} {s0 : Int32} {x : Nat} {h : AHp} : Rf d 168 77 [.ref x, a1, a2, a3, a4, a5] [.int s0] h = Rf d 168 78 [.ref x, a1, a2, a3, a4, a5] [.ref x, .int s0] h := Rf_go ((stp_of c168_77).trans rfl)
theorem c168_78 : cd 168 78 = some (78, .iload_n 2, 1, []) := by decide +kernel
theorem x168_78 {d : Nat} {a0 a1 a3 a4 a5 : Value} {s0 : Nat} {s1 : Int32} {x : Int32} {h : AHp} : Rf d 168 78 [a0, a1, .int x, a3, a4, a5] [.ref s0, .int s1] h = Rf d 168 79 [a0, a1, .int x, a3, a4, a5] [.int x, .ref s0, .int s1] h := Rf_go ((stp_of c168_78).trans rfl)
theorem c168_79 : cd 168 79 = some (79, .invokevirtual 155, 3, [(12, 151)]) := by decide +kernel
theorem xc168_79 {d : Nat} {a0 a1 a2 a3 a4 a5 : Value} {s0 : Int32} {s1 : Nat} {s2 : Int32} {h : AHp} {h1 : AHp} {v : Int32} (hr : cls (h.1 s1) = 12) (hq : Rf d 151 0 [.ref s1, .int s0] [] h = some (some (.int v), h1)) : Rf (d + 1) 168 79 [a0, a1, a2, a3, a4, a5] [.int s0, .ref s1, .int s2] h = Rf (d + 1) 168 82 [a0, a1, a2, a3, a4, a5] [.int v, .int s2] h1 := clV (c := 151) (as := [.int s0]) c168_79 rfl (by simp [isV]) (by rw [hr]; rfl) hq
theorem c168_82 : cd 168 82 = some (82, .iadd, 1, []) := by decide +kernel
theorem x168_82 {d : Nat} {a0 a1 a2 a3 a4 a5 : Value} {s0 : Int32} {s1 : Int32} {h : AHp} : Rf d 168 82 [a0, a1, a2, a3, a4, a5] [.int s0, .int s1] h = Rf d 168 83 [a0, a1, a2, a3, a4, a5] [.int (s1 + s0)] h := Rf_go ((stp_of c168_82).trans rfl)
theorem c168_83 : cd 168 83 = some (83, .istore 5, 2, []) := by decide +kernel
theorem x168_83 {d : Nat} {a0 a1 a2 a3 a4 a5 : Value} {s0 : Int32} {h : AHp} : Rf d 168 83 [a0, a1, a2, a3, a4, a5] [.int s0] h = Rf d 168 85 [a0, a1, a2, a3, a4, .int s0] [] h := Rf_go ((stp_of c168_83).trans rfl)
theorem c168_85 : cd 168 85 = some (85, .iload 4, 2, []) := by decide +kernel
theorem x168_85 {d : Nat} {a0 a1 a2 a3 a5 : Value} {x : Int32} {h : AHp} : Rf d 168 85 [a0, a1, a2, a3, .int x, a5] [] h = Rf d 168 87 [a0, a1, a2, a3, .int x, a5] [.int x] h := Rf_go ((stp_of c168_85).trans rfl)
theorem c168_87 : cd 168 87 = some (87, .aload_n 0, 1, []) := by decide +kernel
theorem x168_87 {d : Nat} {a1 a2 a3 a4 a5 : Value} {s0 : Int32} {x : Nat} {h : AHp} : Rf d 168 87 [.ref x, a1, a2, a3, a4, a5] [.int s0] h = Rf d 168 88 [.ref x, a1, a2, a3, a4, a5] [.ref x, .int s0] h := Rf_go ((stp_of c168_87).trans rfl)
theorem c168_88 : cd 168 88 = some (88, .iload_n 2, 1, []) := by decide +kernel
theorem x168_88 {d : Nat} {a0 a1 a3 a4 a5 : Value} {s0 : Nat} {s1 : Int32} {x : Int32} {h : AHp} : Rf d 168 88 [a0, a1, .int x, a3, a4, a5] [.ref s0, .int s1] h = Rf d 168 89 [a0, a1, .int x, a3, a4, a5] [.int x, .ref s0, .int s1] h := Rf_go ((stp_of c168_88).trans rfl)
theorem c168_89 : cd 168 89 = some (89, .invokevirtual 152, 3, [(12, 150)]) := by decide +kernel
theorem xc168_89 {d : Nat} {a0 a1 a2 a3 a4 a5 : Value} {s0 : Int32} {s1 : Nat} {s2 : Int32} {h : AHp} {h1 : AHp} {v : Int32} (hr : cls (h.1 s1) = 12) (hq : Rf d 150 0 [.ref s1, .int s0] [] h = some (some (.int v), h1)) : Rf (d + 1) 168 89 [a0, a1, a2, a3, a4, a5] [.int s0, .ref s1, .int s2] h = Rf (d + 1) 168 92 [a0, a1, a2, a3, a4, a5] [.int v, .int s2] h1 := clV (c := 150) (as := [.int s0]) c168_89 rfl (by simp [isV]) (by rw [hr]; rfl) hq
theorem c168_92 : cd 168 92 = some (92, .if_icmp .ge 15, 3, [(107, 0)]) := by decide +kernel
theorem x168_92 {d : Nat} {a0 a1 a2 a3 a4 a5 : Value} {s0 : Int32} {s1 : Int32} {h : AHp} : Rf d 168 92 [a0, a1, a2, a3, a4, a5] [.int s0, .int s1] h = if s1 < s0 then Rf d 168 95 [a0, a1, a2, a3, a4, a5] [] h else Rf d 168 107 [a0, a1, a2, a3, a4, a5] [] h := Rf_brn ((stp_of c168_92).trans rfl)
theorem c168_107 : cd 168 107 = some (107, .aload_n 0, 1, []) := by decide +kernel
theorem x168_107 {d : Nat} {a1 a2 a3 a4 a5 : Value} {x : Nat} {h : AHp} : Rf d 168 107 [.ref x, a1, a2, a3, a4, a5] [] h = Rf d 168 108 [.ref x, a1, a2, a3, a4, a5] [.ref x] h := Rf_go ((stp_of c168_107).trans rfl)
theorem c168_108 : cd 168 108 = some (108, .getfield 22, 3, [(12, 8)]) := by decide +kernel
theorem x168_108 {d : Nat} {a0 a1 a2 a3 a4 a5 : Value} {s0 : Nat} {h : AHp} : Rf d 168 108 [a0, a1, a2, a3, a4, a5] [.ref s0] h = if cls (h.1 s0) = 12 ∧ oKr (h.1 s0) 8 = true then Rf d 168 111 [a0, a1, a2, a3, a4, a5] [.ref (oR (h.1 s0) 8)] h else Rx d 168 108 [a0, a1, a2, a3, a4, a5] [.ref s0] h := getR c168_108
theorem c168_111 : cd 168 111 = some (111, .iload_n 2, 1, []) := by decide +kernel
theorem x168_111 {d : Nat} {a0 a1 a3 a4 a5 : Value} {s0 : Nat} {x : Int32} {h : AHp} : Rf d 168 111 [a0, a1, .int x, a3, a4, a5] [.ref s0] h = Rf d 168 112 [a0, a1, .int x, a3, a4, a5] [.int x, .ref s0] h := Rf_go ((stp_of c168_111).trans rfl)
theorem c168_112 : cd 168 112 = some (112, .sipush 999, 3, []) := by decide +kernel
theorem x168_112 {d : Nat} {a0 a1 a2 a3 a4 a5 : Value} {s0 : Int32} {s1 : Nat} {h : AHp} : Rf d 168 112 [a0, a1, a2, a3, a4, a5] [.int s0, .ref s1] h = Rf d 168 115 [a0, a1, a2, a3, a4, a5] [.int 999, .int s0, .ref s1] h := Rf_go ((stp_of c168_112).trans rfl)
theorem c168_115 : cd 168 115 = some (115, .iload 5, 2, []) := by decide +kernel
theorem x168_115 {d : Nat} {a0 a1 a2 a3 a4 : Value} {s0 : Int32} {s1 : Int32} {s2 : Nat} {x : Int32} {h : AHp} : Rf d 168 115 [a0, a1, a2, a3, a4, .int x] [.int s0, .int s1, .ref s2] h = Rf d 168 117 [a0, a1, a2, a3, a4, .int x] [.int x, .int s0, .int s1, .ref s2] h := Rf_go ((stp_of c168_115).trans rfl)
theorem c168_117 : cd 168 117 = some (117, .invokestatic 113, 3, [(0, 202)]) := by decide +kernel
theorem xc168_117 {d : Nat} {a0 a1 a2 a3 a4 a5 : Value} {s0 : Int32} {s1 : Int32} {s2 : Int32} {s3 : Nat} {h : AHp} {h1 : AHp} {v : Int32} (hq : Rf d 202 0 [.int s1, .int s0] [] h = some (some (.int v), h1)) : Rf (d + 1) 168 117 [a0, a1, a2, a3, a4, a5] [.int s0, .int s1, .int s2, .ref s3] h = Rf (d + 1) 168 120 [a0, a1, a2, a3, a4, a5] [.int v, .int s2, .ref s3] h1 := clS (as := [.int s1, .int s0]) c168_117 rfl rfl (by simp [isV]) hq
theorem c168_120 : cd 168 120 = some (120, .iastore, 1, []) := by decide +kernel
theorem x168_120 {d : Nat} {a0 a1 a2 a3 a4 a5 : Value} {s0 : Int32} {s1 : Int32} {s2 : Nat} {h : AHp} : Rf d 168 120 [a0, a1, a2, a3, a4, a5] [.int s0, .int s1, .ref s2] h = if aT (h.1 s2) = 0 ∧ inB s1 (aN (h.1 s2)) = true then Rf d 168 121 [a0, a1, a2, a3, a4, a5] [] (hset h s2 (.inl (0, aN (h.1 s2), .inl (upd (aF (h.1 s2)) s1.toNatClampNeg s0)))) else Rx d 168 120 [a0, a1, a2, a3, a4, a5] [.int s0, .int s1, .ref s2] h := stI c168_120
theorem c168_95 : cd 168 95 = some (95, .iload 5, 2, []) := by decide +kernel
theorem x168_95 {d : Nat} {a0 a1 a2 a3 a4 : Value} {x : Int32} {h : AHp} : Rf d 168 95 [a0, a1, a2, a3, a4, .int x] [] h = Rf d 168 97 [a0, a1, a2, a3, a4, .int x] [.int x] h := Rf_go ((stp_of c168_95).trans rfl)
theorem c168_97 : cd 168 97 = some (97, .aload_n 0, 1, []) := by decide +kernel
theorem x168_97 {d : Nat} {a1 a2 a3 a4 a5 : Value} {s0 : Int32} {x : Nat} {h : AHp} : Rf d 168 97 [.ref x, a1, a2, a3, a4, a5] [.int s0] h = Rf d 168 98 [.ref x, a1, a2, a3, a4, a5] [.ref x, .int s0] h := Rf_go ((stp_of c168_97).trans rfl)
theorem c168_98 : cd 168 98 = some (98, .iload_n 2, 1, []) := by decide +kernel
theorem x168_98 {d : Nat} {a0 a1 a3 a4 a5 : Value} {s0 : Nat} {s1 : Int32} {x : Int32} {h : AHp} : Rf d 168 98 [a0, a1, .int x, a3, a4, a5] [.ref s0, .int s1] h = Rf d 168 99 [a0, a1, .int x, a3, a4, a5] [.int x, .ref s0, .int s1] h := Rf_go ((stp_of c168_98).trans rfl)
theorem c168_99 : cd 168 99 = some (99, .invokevirtual 152, 3, [(12, 150)]) := by decide +kernel
theorem xc168_99 {d : Nat} {a0 a1 a2 a3 a4 a5 : Value} {s0 : Int32} {s1 : Nat} {s2 : Int32} {h : AHp} {h1 : AHp} {v : Int32} (hr : cls (h.1 s1) = 12) (hq : Rf d 150 0 [.ref s1, .int s0] [] h = some (some (.int v), h1)) : Rf (d + 1) 168 99 [a0, a1, a2, a3, a4, a5] [.int s0, .ref s1, .int s2] h = Rf (d + 1) 168 102 [a0, a1, a2, a3, a4, a5] [.int v, .int s2] h1 := clV (c := 150) (as := [.int s0]) c168_99 rfl (by simp [isV]) (by rw [hr]; rfl) hq
theorem c168_102 : cd 168 102 = some (102, .invokestatic 113, 3, [(0, 202)]) := by decide +kernel
theorem xc168_102 {d : Nat} {a0 a1 a2 a3 a4 a5 : Value} {s0 : Int32} {s1 : Int32} {h : AHp} {h1 : AHp} {v : Int32} (hq : Rf d 202 0 [.int s1, .int s0] [] h = some (some (.int v), h1)) : Rf (d + 1) 168 102 [a0, a1, a2, a3, a4, a5] [.int s0, .int s1] h = Rf (d + 1) 168 105 [a0, a1, a2, a3, a4, a5] [.int v] h1 := clS (as := [.int s1, .int s0]) c168_102 rfl rfl (by simp [isV]) hq
theorem c168_105 : cd 168 105 = some (105, .istore 5, 2, []) := by decide +kernel
theorem x168_105 {d : Nat} {a0 a1 a2 a3 a4 a5 : Value} {s0 : Int32} {h : AHp} : Rf d 168 105 [a0, a1, a2, a3, a4, a5] [.int s0] h = Rf d 168 107 [a0, a1, a2, a3, a4, .int s0] [] h := Rf_go ((stp_of c168_105).trans rfl)
theorem c168_51 : cd 168 51 = some (51, .aload_n 0, 1, []) := by decide +kernel
theorem x168_51 {d : Nat} {a1 a2 a3 a4 a5 : Value} {x : Nat} {h : AHp} : Rf d 168 51 [.ref x, a1, a2, a3, a4, a5] [] h = Rf d 168 52 [.ref x, a1, a2, a3, a4, a5] [.ref x] h := Rf_go ((stp_of c168_51).trans rfl)
theorem c168_52 : cd 168 52 = some (52, .getfield 22, 3, [(12, 8)]) := by decide +kernel
theorem x168_52 {d : Nat} {a0 a1 a2 a3 a4 a5 : Value} {s0 : Nat} {h : AHp} : Rf d 168 52 [a0, a1, a2, a3, a4, a5] [.ref s0] h = if cls (h.1 s0) = 12 ∧ oKr (h.1 s0) 8 = true then Rf d 168 55 [a0, a1, a2, a3, a4, a5] [.ref (oR (h.1 s0) 8)] h else Rx d 168 52 [a0, a1, a2, a3, a4, a5] [.ref s0] h := getR c168_52
theorem c168_55 : cd 168 55 = some (55, .iload_n 2, 1, []) := by decide +kernel
theorem x168_55 {d : Nat} {a0 a1 a3 a4 a5 : Value} {s0 : Nat} {x : Int32} {h : AHp} : Rf d 168 55 [a0, a1, .int x, a3, a4, a5] [.ref s0] h = Rf d 168 56 [a0, a1, .int x, a3, a4, a5] [.int x, .ref s0] h := Rf_go ((stp_of c168_55).trans rfl)
theorem c168_56 : cd 168 56 = some (56, .aload_n 0, 1, []) := by decide +kernel
theorem x168_56 {d : Nat} {a1 a2 a3 a4 a5 : Value} {s0 : Int32} {s1 : Nat} {x : Nat} {h : AHp} : Rf d 168 56 [.ref x, a1, a2, a3, a4, a5] [.int s0, .ref s1] h = Rf d 168 57 [.ref x, a1, a2, a3, a4, a5] [.ref x, .int s0, .ref s1] h := Rf_go ((stp_of c168_56).trans rfl)
theorem c168_57 : cd 168 57 = some (57, .iload_n 2, 1, []) := by decide +kernel
theorem x168_57 {d : Nat} {a0 a1 a3 a4 a5 : Value} {s0 : Nat} {s1 : Int32} {s2 : Nat} {x : Int32} {h : AHp} : Rf d 168 57 [a0, a1, .int x, a3, a4, a5] [.ref s0, .int s1, .ref s2] h = Rf d 168 58 [a0, a1, .int x, a3, a4, a5] [.int x, .ref s0, .int s1, .ref s2] h := Rf_go ((stp_of c168_57).trans rfl)
theorem c168_58 : cd 168 58 = some (58, .invokevirtual 152, 3, [(12, 150)]) := by decide +kernel
theorem xc168_58 {d : Nat} {a0 a1 a2 a3 a4 a5 : Value} {s0 : Int32} {s1 : Nat} {s2 : Int32} {s3 : Nat} {h : AHp} {h1 : AHp} {v : Int32} (hr : cls (h.1 s1) = 12) (hq : Rf d 150 0 [.ref s1, .int s0] [] h = some (some (.int v), h1)) : Rf (d + 1) 168 58 [a0, a1, a2, a3, a4, a5] [.int s0, .ref s1, .int s2, .ref s3] h = Rf (d + 1) 168 61 [a0, a1, a2, a3, a4, a5] [.int v, .int s2, .ref s3] h1 := clV (c := 150) (as := [.int s0]) c168_58 rfl (by simp [isV]) (by rw [hr]; rfl) hq
theorem c168_61 : cd 168 61 = some (61, .iastore, 1, []) := by decide +kernel
theorem x168_61 {d : Nat} {a0 a1 a2 a3 a4 a5 : Value} {s0 : Int32} {s1 : Int32} {s2 : Nat} {h : AHp} : Rf d 168 61 [a0, a1, a2, a3, a4, a5] [.int s0, .int s1, .ref s2] h = if aT (h.1 s2) = 0 ∧ inB s1 (aN (h.1 s2)) = true then Rf d 168 62 [a0, a1, a2, a3, a4, a5] [] (hset h s2 (.inl (0, aN (h.1 s2), .inl (upd (aF (h.1 s2)) s1.toNatClampNeg s0)))) else Rx d 168 61 [a0, a1, a2, a3, a4, a5] [.int s0, .int s1, .ref s2] h := stI c168_61
theorem c168_62 : cd 168 62 = some (62, .iinc 1 1, 3, []) := by decide +kernel
theorem x168_62 {d : Nat} {a0 a2 a3 a4 a5 : Value} {x : Int32} {h : AHp} : Rf d 168 62 [a0, .int x, a2, a3, a4, a5] [] h = Rf d 168 65 [a0, .int (x + 1), a2, a3, a4, a5] [] h := Rf_go ((stp_of c168_62).trans rfl)
-- 169: X12_year
theorem c169_0 : cd 169 0 = some (0, .aload_n 0, 1, []) := by decide +kernel
theorem x169_0 {d : Nat} {x : Nat} {h : AHp} : Rf d 169 0 [.ref x] [] h = Rf d 169 1 [.ref x] [.ref x] h := Rf_go ((stp_of c169_0).trans rfl)
theorem c169_1 : cd 169 1 = some (1, .getfield 9, 3, [(12, 0)]) := by decide +kernel
theorem x169_1 {d : Nat} {a0 : Value} {s0 : Nat} {h : AHp} : Rf d 169 1 [a0] [.ref s0] h = if cls (h.1 s0) = 12 ∧ oKr (h.1 s0) 0 = true then Rf d 169 4 [a0] [.ref (oR (h.1 s0) 0)] h else Rx d 169 1 [a0] [.ref s0] h := getR c169_1
theorem c169_4 : cd 169 4 = some (4, .bipush 6, 2, []) := by decide +kernel
theorem x169_4 {d : Nat} {a0 : Value} {s0 : Nat} {h : AHp} : Rf d 169 4 [a0] [.ref s0] h = Rf d 169 6 [a0] [.int 6, .ref s0] h := Rf_go ((stp_of c169_4).trans rfl)
theorem c169_6 : cd 169 6 = some (6, .iaload, 1, []) := by decide +kernel
theorem x169_6 {d : Nat} {a0 : Value} {s0 : Int32} {s1 : Nat} {h : AHp} : Rf d 169 6 [a0] [.int s0, .ref s1] h = if (aT (h.1 s1) = 0 ∨ aT (h.1 s1) = 10) ∧ inB s0 (aN (h.1 s1)) = true then Rf d 169 7 [a0] [.int (aF (h.1 s1) s0.toNatClampNeg)] h else Rx d 169 6 [a0] [.int s0, .ref s1] h := ldI c169_6
theorem c169_7 : cd 169 7 = some (7, .bipush 99, 2, []) := by decide +kernel
theorem x169_7 {d : Nat} {a0 : Value} {s0 : Int32} {h : AHp} : Rf d 169 7 [a0] [.int s0] h = Rf d 169 9 [a0] [.int 99, .int s0] h := Rf_go ((stp_of c169_7).trans rfl)
theorem c169_9 : cd 169 9 = some (9, .if_icmp .ne 8, 3, [(17, 0)]) := by decide +kernel
theorem x169_9 {d : Nat} {a0 : Value} {s0 : Int32} {s1 : Int32} {h : AHp} : Rf d 169 9 [a0] [.int s0, .int s1] h = if s1 = s0 then Rf d 169 12 [a0] [] h else Rf d 169 17 [a0] [] h := Rf_brn ((stp_of c169_9).trans rfl)
theorem c169_17 : cd 169 17 = some (17, .aload_n 0, 1, []) := by decide +kernel
theorem x169_17 {d : Nat} {x : Nat} {h : AHp} : Rf d 169 17 [.ref x] [] h = Rf d 169 18 [.ref x] [.ref x] h := Rf_go ((stp_of c169_17).trans rfl)
theorem c169_18 : cd 169 18 = some (18, .invokevirtual 161, 3, [(12, 168)]) := by decide +kernel
theorem xc169_18 {d : Nat} {a0 : Value} {s0 : Nat} {h : AHp} {h1 : AHp} {v : Int32} (hr : cls (h.1 s0) = 12) (hq : Rf d 168 0 [.ref s0, noV, noV, noV, noV, noV] [] h = some (some (.int v), h1)) : Rf (d + 1) 169 18 [a0] [.ref s0] h = Rf (d + 1) 169 21 [a0] [.int v] h1 := clV (c := 168) (as := []) c169_18 rfl (by simp [isV]) (by rw [hr]; rfl) hq
theorem c169_21 : cd 169 21 = some (21, .ireturn, 1, []) := by decide +kernel
theorem x169_21 {d : Nat} {a0 : Value} {s0 : Int32} {h : AHp} : Rf d 169 21 [a0] [.int s0] h = some (some (.int s0), h) := Rf_end (by rw [stp_of c169_21]; simp only [stpI]; rw [if_pos (show retI (mH 169).2.2.1 s0 = true from retI_int)])
theorem c169_12 : cd 169 12 = some (12, .bipush (-3), 2, []) := by decide +kernel
theorem x169_12 {d : Nat} {a0 : Value} {h : AHp} : Rf d 169 12 [a0] [] h = Rf d 169 14 [a0] [.int (-3)] h := Rf_go ((stp_of c169_12).trans rfl)
theorem c169_14 : cd 169 14 = some (14, .goto 7, 3, [(21, 0)]) := by decide +kernel
theorem x169_14 {d : Nat} {a0 : Value} {s0 : Int32} {h : AHp} : Rf d 169 14 [a0] [.int s0] h = Rf d 169 21 [a0] [.int s0] h := Rf_go ((stp_of c169_14).trans rfl)
-- 170: X12_keep
theorem c170_0 : cd 170 0 = some (0, .iconst 0, 1, []) := by decide +kernel
theorem x170_0 {d : Nat} {a0 a1 : Value} {h : AHp} : Rf d 170 0 [a0, a1] [] h = Rf d 170 1 [a0, a1] [.int 0] h := Rf_go ((stp_of c170_0).trans rfl)
theorem c170_1 : cd 170 1 = some (1, .istore_n 1, 1, []) := by decide +kernel
theorem x170_1 {d : Nat} {a0 a1 : Value} {s0 : Int32} {h : AHp} : Rf d 170 1 [a0, a1] [.int s0] h = Rf d 170 2 [a0, .int s0] [] h := Rf_go ((stp_of c170_1).trans rfl)
theorem c170_2 : cd 170 2 = some (2, .iload_n 1, 1, []) := by decide +kernel
theorem x170_2 {d : Nat} {a0 : Value} {x : Int32} {h : AHp} : Rf d 170 2 [a0, .int x] [] h = Rf d 170 3 [a0, .int x] [.int x] h := Rf_go ((stp_of c170_2).trans rfl)
theorem c170_3 : cd 170 3 = some (3, .bipush 10, 2, []) := by decide +kernel
theorem x170_3 {d : Nat} {a0 a1 : Value} {s0 : Int32} {h : AHp} : Rf d 170 3 [a0, a1] [.int s0] h = Rf d 170 5 [a0, a1] [.int 10, .int s0] h := Rf_go ((stp_of c170_3).trans rfl)
theorem c170_5 : cd 170 5 = some (5, .if_icmp .ge 42, 3, [(47, 0)]) := by decide +kernel
theorem x170_5 {d : Nat} {a0 a1 : Value} {s0 : Int32} {s1 : Int32} {h : AHp} : Rf d 170 5 [a0, a1] [.int s0, .int s1] h = if s1 < s0 then Rf d 170 8 [a0, a1] [] h else Rf d 170 47 [a0, a1] [] h := Rf_brn ((stp_of c170_5).trans rfl)
theorem c170_47 : cd 170 47 = some (47, .aload_n 0, 1, []) := by decide +kernel
theorem x170_47 {d : Nat} {a1 : Value} {x : Nat} {h : AHp} : Rf d 170 47 [.ref x, a1] [] h = Rf d 170 48 [.ref x, a1] [.ref x] h := Rf_go ((stp_of c170_47).trans rfl)
theorem c170_48 : cd 170 48 = some (48, .getfield 25, 3, [(12, 9)]) := by decide +kernel
theorem x170_48 {d : Nat} {a0 a1 : Value} {s0 : Nat} {h : AHp} : Rf d 170 48 [a0, a1] [.ref s0] h = if cls (h.1 s0) = 12 ∧ oKr (h.1 s0) 9 = true then Rf d 170 51 [a0, a1] [.ref (oR (h.1 s0) 9)] h else Rx d 170 48 [a0, a1] [.ref s0] h := getR c170_48
theorem c170_51 : cd 170 51 = some (51, .bipush 20, 2, []) := by decide +kernel
theorem x170_51 {d : Nat} {a0 a1 : Value} {s0 : Nat} {h : AHp} : Rf d 170 51 [a0, a1] [.ref s0] h = Rf d 170 53 [a0, a1] [.int 20, .ref s0] h := Rf_go ((stp_of c170_51).trans rfl)
theorem c170_53 : cd 170 53 = some (53, .aload_n 0, 1, []) := by decide +kernel
theorem x170_53 {d : Nat} {a1 : Value} {s0 : Int32} {s1 : Nat} {x : Nat} {h : AHp} : Rf d 170 53 [.ref x, a1] [.int s0, .ref s1] h = Rf d 170 54 [.ref x, a1] [.ref x, .int s0, .ref s1] h := Rf_go ((stp_of c170_53).trans rfl)
theorem c170_54 : cd 170 54 = some (54, .getfield 9, 3, [(12, 0)]) := by decide +kernel
theorem x170_54 {d : Nat} {a0 a1 : Value} {s0 : Nat} {s1 : Int32} {s2 : Nat} {h : AHp} : Rf d 170 54 [a0, a1] [.ref s0, .int s1, .ref s2] h = if cls (h.1 s0) = 12 ∧ oKr (h.1 s0) 0 = true then Rf d 170 57 [a0, a1] [.ref (oR (h.1 s0) 0), .int s1, .ref s2] h else Rx d 170 54 [a0, a1] [.ref s0, .int s1, .ref s2] h := getR c170_54
theorem c170_57 : cd 170 57 = some (57, .iconst 5, 1, []) := by decide +kernel
theorem x170_57 {d : Nat} {a0 a1 : Value} {s0 : Nat} {s1 : Int32} {s2 : Nat} {h : AHp} : Rf d 170 57 [a0, a1] [.ref s0, .int s1, .ref s2] h = Rf d 170 58 [a0, a1] [.int 5, .ref s0, .int s1, .ref s2] h := Rf_go ((stp_of c170_57).trans rfl)
theorem c170_58 : cd 170 58 = some (58, .iaload, 1, []) := by decide +kernel
theorem x170_58 {d : Nat} {a0 a1 : Value} {s0 : Int32} {s1 : Nat} {s2 : Int32} {s3 : Nat} {h : AHp} : Rf d 170 58 [a0, a1] [.int s0, .ref s1, .int s2, .ref s3] h = if (aT (h.1 s1) = 0 ∨ aT (h.1 s1) = 10) ∧ inB s0 (aN (h.1 s1)) = true then Rf d 170 59 [a0, a1] [.int (aF (h.1 s1) s0.toNatClampNeg), .int s2, .ref s3] h else Rx d 170 58 [a0, a1] [.int s0, .ref s1, .int s2, .ref s3] h := ldI c170_58
theorem c170_59 : cd 170 59 = some (59, .iastore, 1, []) := by decide +kernel
theorem x170_59 {d : Nat} {a0 a1 : Value} {s0 : Int32} {s1 : Int32} {s2 : Nat} {h : AHp} : Rf d 170 59 [a0, a1] [.int s0, .int s1, .ref s2] h = if aT (h.1 s2) = 0 ∧ inB s1 (aN (h.1 s2)) = true then Rf d 170 60 [a0, a1] [] (hset h s2 (.inl (0, aN (h.1 s2), .inl (upd (aF (h.1 s2)) s1.toNatClampNeg s0)))) else Rx d 170 59 [a0, a1] [.int s0, .int s1, .ref s2] h := stI c170_59
theorem c170_60 : cd 170 60 = some (60, .aload_n 0, 1, []) := by decide +kernel
theorem x170_60 {d : Nat} {a1 : Value} {x : Nat} {h : AHp} : Rf d 170 60 [.ref x, a1] [] h = Rf d 170 61 [.ref x, a1] [.ref x] h := Rf_go ((stp_of c170_60).trans rfl)
theorem c170_61 : cd 170 61 = some (61, .getfield 25, 3, [(12, 9)]) := by decide +kernel
theorem x170_61 {d : Nat} {a0 a1 : Value} {s0 : Nat} {h : AHp} : Rf d 170 61 [a0, a1] [.ref s0] h = if cls (h.1 s0) = 12 ∧ oKr (h.1 s0) 9 = true then Rf d 170 64 [a0, a1] [.ref (oR (h.1 s0) 9)] h else Rx d 170 61 [a0, a1] [.ref s0] h := getR c170_61
theorem c170_64 : cd 170 64 = some (64, .bipush 21, 2, []) := by decide +kernel
theorem x170_64 {d : Nat} {a0 a1 : Value} {s0 : Nat} {h : AHp} : Rf d 170 64 [a0, a1] [.ref s0] h = Rf d 170 66 [a0, a1] [.int 21, .ref s0] h := Rf_go ((stp_of c170_64).trans rfl)
theorem c170_66 : cd 170 66 = some (66, .aload_n 0, 1, []) := by decide +kernel
theorem x170_66 {d : Nat} {a1 : Value} {s0 : Int32} {s1 : Nat} {x : Nat} {h : AHp} : Rf d 170 66 [.ref x, a1] [.int s0, .ref s1] h = Rf d 170 67 [.ref x, a1] [.ref x, .int s0, .ref s1] h := Rf_go ((stp_of c170_66).trans rfl)
theorem c170_67 : cd 170 67 = some (67, .getfield 9, 3, [(12, 0)]) := by decide +kernel
theorem x170_67 {d : Nat} {a0 a1 : Value} {s0 : Nat} {s1 : Int32} {s2 : Nat} {h : AHp} : Rf d 170 67 [a0, a1] [.ref s0, .int s1, .ref s2] h = if cls (h.1 s0) = 12 ∧ oKr (h.1 s0) 0 = true then Rf d 170 70 [a0, a1] [.ref (oR (h.1 s0) 0), .int s1, .ref s2] h else Rx d 170 67 [a0, a1] [.ref s0, .int s1, .ref s2] h := getR c170_67
theorem c170_70 : cd 170 70 = some (70, .bipush 6, 2, []) := by decide +kernel
theorem x170_70 {d : Nat} {a0 a1 : Value} {s0 : Nat} {s1 : Int32} {s2 : Nat} {h : AHp} : Rf d 170 70 [a0, a1] [.ref s0, .int s1, .ref s2] h = Rf d 170 72 [a0, a1] [.int 6, .ref s0, .int s1, .ref s2] h := Rf_go ((stp_of c170_70).trans rfl)
theorem c170_72 : cd 170 72 = some (72, .iaload, 1, []) := by decide +kernel
theorem x170_72 {d : Nat} {a0 a1 : Value} {s0 : Int32} {s1 : Nat} {s2 : Int32} {s3 : Nat} {h : AHp} : Rf d 170 72 [a0, a1] [.int s0, .ref s1, .int s2, .ref s3] h = if (aT (h.1 s1) = 0 ∨ aT (h.1 s1) = 10) ∧ inB s0 (aN (h.1 s1)) = true then Rf d 170 73 [a0, a1] [.int (aF (h.1 s1) s0.toNatClampNeg), .int s2, .ref s3] h else Rx d 170 72 [a0, a1] [.int s0, .ref s1, .int s2, .ref s3] h := ldI c170_72
theorem c170_73 : cd 170 73 = some (73, .iastore, 1, []) := by decide +kernel
theorem x170_73 {d : Nat} {a0 a1 : Value} {s0 : Int32} {s1 : Int32} {s2 : Nat} {h : AHp} : Rf d 170 73 [a0, a1] [.int s0, .int s1, .ref s2] h = if aT (h.1 s2) = 0 ∧ inB s1 (aN (h.1 s2)) = true then Rf d 170 74 [a0, a1] [] (hset h s2 (.inl (0, aN (h.1 s2), .inl (upd (aF (h.1 s2)) s1.toNatClampNeg s0)))) else Rx d 170 73 [a0, a1] [.int s0, .int s1, .ref s2] h := stI c170_73
theorem c170_74 : cd 170 74 = some (74, .return_, 1, []) := by decide +kernel
theorem x170_74 {d : Nat} {a0 a1 : Value} {h : AHp} : Rf d 170 74 [a0, a1] [] h = some (none, h) := Rf_end (endV c170_74 (by decide +kernel))
theorem c170_8 : cd 170 8 = some (8, .aload_n 0, 1, []) := by decide +kernel
theorem x170_8 {d : Nat} {a1 : Value} {x : Nat} {h : AHp} : Rf d 170 8 [.ref x, a1] [] h = Rf d 170 9 [.ref x, a1] [.ref x] h := Rf_go ((stp_of c170_8).trans rfl)
theorem c170_9 : cd 170 9 = some (9, .getfield 25, 3, [(12, 9)]) := by decide +kernel
theorem x170_9 {d : Nat} {a0 a1 : Value} {s0 : Nat} {h : AHp} : Rf d 170 9 [a0, a1] [.ref s0] h = if cls (h.1 s0) = 12 ∧ oKr (h.1 s0) 9 = true then Rf d 170 12 [a0, a1] [.ref (oR (h.1 s0) 9)] h else Rx d 170 9 [a0, a1] [.ref s0] h := getR c170_9
theorem c170_12 : cd 170 12 = some (12, .iload_n 1, 1, []) := by decide +kernel
theorem x170_12 {d : Nat} {a0 : Value} {s0 : Nat} {x : Int32} {h : AHp} : Rf d 170 12 [a0, .int x] [.ref s0] h = Rf d 170 13 [a0, .int x] [.int x, .ref s0] h := Rf_go ((stp_of c170_12).trans rfl)
theorem c170_13 : cd 170 13 = some (13, .aload_n 0, 1, []) := by decide +kernel
theorem x170_13 {d : Nat} {a1 : Value} {s0 : Int32} {s1 : Nat} {x : Nat} {h : AHp} : Rf d 170 13 [.ref x, a1] [.int s0, .ref s1] h = Rf d 170 14 [.ref x, a1] [.ref x, .int s0, .ref s1] h := Rf_go ((stp_of c170_13).trans rfl)
theorem c170_14 : cd 170 14 = some (14, .getfield 9, 3, [(12, 0)]) := by decide +kernel
theorem x170_14 {d : Nat} {a0 a1 : Value} {s0 : Nat} {s1 : Int32} {s2 : Nat} {h : AHp} : Rf d 170 14 [a0, a1] [.ref s0, .int s1, .ref s2] h = if cls (h.1 s0) = 12 ∧ oKr (h.1 s0) 0 = true then Rf d 170 17 [a0, a1] [.ref (oR (h.1 s0) 0), .int s1, .ref s2] h else Rx d 170 14 [a0, a1] [.ref s0, .int s1, .ref s2] h := getR c170_14
theorem c170_17 : cd 170 17 = some (17, .bipush 20, 2, []) := by decide +kernel
theorem x170_17 {d : Nat} {a0 a1 : Value} {s0 : Nat} {s1 : Int32} {s2 : Nat} {h : AHp} : Rf d 170 17 [a0, a1] [.ref s0, .int s1, .ref s2] h = Rf d 170 19 [a0, a1] [.int 20, .ref s0, .int s1, .ref s2] h := Rf_go ((stp_of c170_17).trans rfl)
theorem c170_19 : cd 170 19 = some (19, .iload_n 1, 1, []) := by decide +kernel
theorem x170_19 {d : Nat} {a0 : Value} {s0 : Int32} {s1 : Nat} {s2 : Int32} {s3 : Nat} {x : Int32} {h : AHp} : Rf d 170 19 [a0, .int x] [.int s0, .ref s1, .int s2, .ref s3] h = Rf d 170 20 [a0, .int x] [.int x, .int s0, .ref s1, .int s2, .ref s3] h := Rf_go ((stp_of c170_19).trans rfl)
theorem c170_20 : cd 170 20 = some (20, .iadd, 1, []) := by decide +kernel
theorem x170_20 {d : Nat} {a0 a1 : Value} {s0 : Int32} {s1 : Int32} {s2 : Nat} {s3 : Int32} {s4 : Nat} {h : AHp} : Rf d 170 20 [a0, a1] [.int s0, .int s1, .ref s2, .int s3, .ref s4] h = Rf d 170 21 [a0, a1] [.int (s1 + s0), .ref s2, .int s3, .ref s4] h := Rf_go ((stp_of c170_20).trans rfl)
theorem c170_21 : cd 170 21 = some (21, .iaload, 1, []) := by decide +kernel
theorem x170_21 {d : Nat} {a0 a1 : Value} {s0 : Int32} {s1 : Nat} {s2 : Int32} {s3 : Nat} {h : AHp} : Rf d 170 21 [a0, a1] [.int s0, .ref s1, .int s2, .ref s3] h = if (aT (h.1 s1) = 0 ∨ aT (h.1 s1) = 10) ∧ inB s0 (aN (h.1 s1)) = true then Rf d 170 22 [a0, a1] [.int (aF (h.1 s1) s0.toNatClampNeg), .int s2, .ref s3] h else Rx d 170 21 [a0, a1] [.int s0, .ref s1, .int s2, .ref s3] h := ldI c170_21
theorem c170_22 : cd 170 22 = some (22, .iastore, 1, []) := by decide +kernel
theorem x170_22 {d : Nat} {a0 a1 : Value} {s0 : Int32} {s1 : Int32} {s2 : Nat} {h : AHp} : Rf d 170 22 [a0, a1] [.int s0, .int s1, .ref s2] h = if aT (h.1 s2) = 0 ∧ inB s1 (aN (h.1 s2)) = true then Rf d 170 23 [a0, a1] [] (hset h s2 (.inl (0, aN (h.1 s2), .inl (upd (aF (h.1 s2)) s1.toNatClampNeg s0)))) else Rx d 170 22 [a0, a1] [.int s0, .int s1, .ref s2] h := stI c170_22
theorem c170_23 : cd 170 23 = some (23, .aload_n 0, 1, []) := by decide +kernel
theorem x170_23 {d : Nat} {a1 : Value} {x : Nat} {h : AHp} : Rf d 170 23 [.ref x, a1] [] h = Rf d 170 24 [.ref x, a1] [.ref x] h := Rf_go ((stp_of c170_23).trans rfl)
theorem c170_24 : cd 170 24 = some (24, .getfield 25, 3, [(12, 9)]) := by decide +kernel
theorem x170_24 {d : Nat} {a0 a1 : Value} {s0 : Nat} {h : AHp} : Rf d 170 24 [a0, a1] [.ref s0] h = if cls (h.1 s0) = 12 ∧ oKr (h.1 s0) 9 = true then Rf d 170 27 [a0, a1] [.ref (oR (h.1 s0) 9)] h else Rx d 170 24 [a0, a1] [.ref s0] h := getR c170_24
theorem c170_27 : cd 170 27 = some (27, .bipush 10, 2, []) := by decide +kernel
theorem x170_27 {d : Nat} {a0 a1 : Value} {s0 : Nat} {h : AHp} : Rf d 170 27 [a0, a1] [.ref s0] h = Rf d 170 29 [a0, a1] [.int 10, .ref s0] h := Rf_go ((stp_of c170_27).trans rfl)
theorem c170_29 : cd 170 29 = some (29, .iload_n 1, 1, []) := by decide +kernel
theorem x170_29 {d : Nat} {a0 : Value} {s0 : Int32} {s1 : Nat} {x : Int32} {h : AHp} : Rf d 170 29 [a0, .int x] [.int s0, .ref s1] h = Rf d 170 30 [a0, .int x] [.int x, .int s0, .ref s1] h := Rf_go ((stp_of c170_29).trans rfl)
theorem c170_30 : cd 170 30 = some (30, .iadd, 1, []) := by decide +kernel
theorem x170_30 {d : Nat} {a0 a1 : Value} {s0 : Int32} {s1 : Int32} {s2 : Nat} {h : AHp} : Rf d 170 30 [a0, a1] [.int s0, .int s1, .ref s2] h = Rf d 170 31 [a0, a1] [.int (s1 + s0), .ref s2] h := Rf_go ((stp_of c170_30).trans rfl)
theorem c170_31 : cd 170 31 = some (31, .aload_n 0, 1, []) := by decide +kernel
theorem x170_31 {d : Nat} {a1 : Value} {s0 : Int32} {s1 : Nat} {x : Nat} {h : AHp} : Rf d 170 31 [.ref x, a1] [.int s0, .ref s1] h = Rf d 170 32 [.ref x, a1] [.ref x, .int s0, .ref s1] h := Rf_go ((stp_of c170_31).trans rfl)
theorem c170_32 : cd 170 32 = some (32, .getfield 9, 3, [(12, 0)]) := by decide +kernel
theorem x170_32 {d : Nat} {a0 a1 : Value} {s0 : Nat} {s1 : Int32} {s2 : Nat} {h : AHp} : Rf d 170 32 [a0, a1] [.ref s0, .int s1, .ref s2] h = if cls (h.1 s0) = 12 ∧ oKr (h.1 s0) 0 = true then Rf d 170 35 [a0, a1] [.ref (oR (h.1 s0) 0), .int s1, .ref s2] h else Rx d 170 32 [a0, a1] [.ref s0, .int s1, .ref s2] h := getR c170_32
theorem c170_35 : cd 170 35 = some (35, .bipush 50, 2, []) := by decide +kernel
theorem x170_35 {d : Nat} {a0 a1 : Value} {s0 : Nat} {s1 : Int32} {s2 : Nat} {h : AHp} : Rf d 170 35 [a0, a1] [.ref s0, .int s1, .ref s2] h = Rf d 170 37 [a0, a1] [.int 50, .ref s0, .int s1, .ref s2] h := Rf_go ((stp_of c170_35).trans rfl)
theorem c170_37 : cd 170 37 = some (37, .iload_n 1, 1, []) := by decide +kernel
theorem x170_37 {d : Nat} {a0 : Value} {s0 : Int32} {s1 : Nat} {s2 : Int32} {s3 : Nat} {x : Int32} {h : AHp} : Rf d 170 37 [a0, .int x] [.int s0, .ref s1, .int s2, .ref s3] h = Rf d 170 38 [a0, .int x] [.int x, .int s0, .ref s1, .int s2, .ref s3] h := Rf_go ((stp_of c170_37).trans rfl)
theorem c170_38 : cd 170 38 = some (38, .iadd, 1, []) := by decide +kernel
theorem x170_38 {d : Nat} {a0 a1 : Value} {s0 : Int32} {s1 : Int32} {s2 : Nat} {s3 : Int32} {s4 : Nat} {h : AHp} : Rf d 170 38 [a0, a1] [.int s0, .int s1, .ref s2, .int s3, .ref s4] h = Rf d 170 39 [a0, a1] [.int (s1 + s0), .ref s2, .int s3, .ref s4] h := Rf_go ((stp_of c170_38).trans rfl)
theorem c170_39 : cd 170 39 = some (39, .iaload, 1, []) := by decide +kernel
theorem x170_39 {d : Nat} {a0 a1 : Value} {s0 : Int32} {s1 : Nat} {s2 : Int32} {s3 : Nat} {h : AHp} : Rf d 170 39 [a0, a1] [.int s0, .ref s1, .int s2, .ref s3] h = if (aT (h.1 s1) = 0 ∨ aT (h.1 s1) = 10) ∧ inB s0 (aN (h.1 s1)) = true then Rf d 170 40 [a0, a1] [.int (aF (h.1 s1) s0.toNatClampNeg), .int s2, .ref s3] h else Rx d 170 39 [a0, a1] [.int s0, .ref s1, .int s2, .ref s3] h := ldI c170_39
theorem c170_40 : cd 170 40 = some (40, .iastore, 1, []) := by decide +kernel
theorem x170_40 {d : Nat} {a0 a1 : Value} {s0 : Int32} {s1 : Int32} {s2 : Nat} {h : AHp} : Rf d 170 40 [a0, a1] [.int s0, .int s1, .ref s2] h = if aT (h.1 s2) = 0 ∧ inB s1 (aN (h.1 s2)) = true then Rf d 170 41 [a0, a1] [] (hset h s2 (.inl (0, aN (h.1 s2), .inl (upd (aF (h.1 s2)) s1.toNatClampNeg s0)))) else Rx d 170 40 [a0, a1] [.int s0, .int s1, .ref s2] h := stI c170_40
theorem c170_41 : cd 170 41 = some (41, .iinc 1 1, 3, []) := by decide +kernel
theorem x170_41 {d : Nat} {a0 : Value} {x : Int32} {h : AHp} : Rf d 170 41 [a0, .int x] [] h = Rf d 170 44 [a0, .int (x + 1)] [] h := Rf_go ((stp_of c170_41).trans rfl)
theorem c170_44 : cd 170 44 = some (44, .goto (-42), 3, [(2, 0)]) := by decide +kernel
theorem x170_44 {d : Nat} {a0 a1 : Value} {h : AHp} : Rf d 170 44 [a0, a1] [] h = Rf d 170 2 [a0, a1] [] h := Rf_go ((stp_of c170_44).trans rfl)
-- 171: X12_again
theorem c171_0 : cd 171 0 = some (0, .iconst 0, 1, []) := by decide +kernel
theorem x171_0 {d : Nat} {a0 a1 : Value} {h : AHp} : Rf d 171 0 [a0, a1] [] h = Rf d 171 1 [a0, a1] [.int 0] h := Rf_go ((stp_of c171_0).trans rfl)
theorem c171_1 : cd 171 1 = some (1, .istore_n 1, 1, []) := by decide +kernel
theorem x171_1 {d : Nat} {a0 a1 : Value} {s0 : Int32} {h : AHp} : Rf d 171 1 [a0, a1] [.int s0] h = Rf d 171 2 [a0, .int s0] [] h := Rf_go ((stp_of c171_1).trans rfl)
theorem c171_2 : cd 171 2 = some (2, .iload_n 1, 1, []) := by decide +kernel
theorem x171_2 {d : Nat} {a0 : Value} {x : Int32} {h : AHp} : Rf d 171 2 [a0, .int x] [] h = Rf d 171 3 [a0, .int x] [.int x] h := Rf_go ((stp_of c171_2).trans rfl)
theorem c171_3 : cd 171 3 = some (3, .bipush 10, 2, []) := by decide +kernel
theorem x171_3 {d : Nat} {a0 a1 : Value} {s0 : Int32} {h : AHp} : Rf d 171 3 [a0, a1] [.int s0] h = Rf d 171 5 [a0, a1] [.int 10, .int s0] h := Rf_go ((stp_of c171_3).trans rfl)
theorem c171_5 : cd 171 5 = some (5, .if_icmp .ge 42, 3, [(47, 0)]) := by decide +kernel
theorem x171_5 {d : Nat} {a0 a1 : Value} {s0 : Int32} {s1 : Int32} {h : AHp} : Rf d 171 5 [a0, a1] [.int s0, .int s1] h = if s1 < s0 then Rf d 171 8 [a0, a1] [] h else Rf d 171 47 [a0, a1] [] h := Rf_brn ((stp_of c171_5).trans rfl)
theorem c171_47 : cd 171 47 = some (47, .aload_n 0, 1, []) := by decide +kernel
theorem x171_47 {d : Nat} {a1 : Value} {x : Nat} {h : AHp} : Rf d 171 47 [.ref x, a1] [] h = Rf d 171 48 [.ref x, a1] [.ref x] h := Rf_go ((stp_of c171_47).trans rfl)
theorem c171_48 : cd 171 48 = some (48, .getfield 9, 3, [(12, 0)]) := by decide +kernel
theorem x171_48 {d : Nat} {a0 a1 : Value} {s0 : Nat} {h : AHp} : Rf d 171 48 [a0, a1] [.ref s0] h = if cls (h.1 s0) = 12 ∧ oKr (h.1 s0) 0 = true then Rf d 171 51 [a0, a1] [.ref (oR (h.1 s0) 0)] h else Rx d 171 48 [a0, a1] [.ref s0] h := getR c171_48
theorem c171_51 : cd 171 51 = some (51, .iconst 5, 1, []) := by decide +kernel
theorem x171_51 {d : Nat} {a0 a1 : Value} {s0 : Nat} {h : AHp} : Rf d 171 51 [a0, a1] [.ref s0] h = Rf d 171 52 [a0, a1] [.int 5, .ref s0] h := Rf_go ((stp_of c171_51).trans rfl)
theorem c171_52 : cd 171 52 = some (52, .aload_n 0, 1, []) := by decide +kernel
theorem x171_52 {d : Nat} {a1 : Value} {s0 : Int32} {s1 : Nat} {x : Nat} {h : AHp} : Rf d 171 52 [.ref x, a1] [.int s0, .ref s1] h = Rf d 171 53 [.ref x, a1] [.ref x, .int s0, .ref s1] h := Rf_go ((stp_of c171_52).trans rfl)
theorem c171_53 : cd 171 53 = some (53, .getfield 25, 3, [(12, 9)]) := by decide +kernel
theorem x171_53 {d : Nat} {a0 a1 : Value} {s0 : Nat} {s1 : Int32} {s2 : Nat} {h : AHp} : Rf d 171 53 [a0, a1] [.ref s0, .int s1, .ref s2] h = if cls (h.1 s0) = 12 ∧ oKr (h.1 s0) 9 = true then Rf d 171 56 [a0, a1] [.ref (oR (h.1 s0) 9), .int s1, .ref s2] h else Rx d 171 53 [a0, a1] [.ref s0, .int s1, .ref s2] h := getR c171_53
theorem c171_56 : cd 171 56 = some (56, .bipush 20, 2, []) := by decide +kernel
theorem x171_56 {d : Nat} {a0 a1 : Value} {s0 : Nat} {s1 : Int32} {s2 : Nat} {h : AHp} : Rf d 171 56 [a0, a1] [.ref s0, .int s1, .ref s2] h = Rf d 171 58 [a0, a1] [.int 20, .ref s0, .int s1, .ref s2] h := Rf_go ((stp_of c171_56).trans rfl)
theorem c171_58 : cd 171 58 = some (58, .iaload, 1, []) := by decide +kernel
theorem x171_58 {d : Nat} {a0 a1 : Value} {s0 : Int32} {s1 : Nat} {s2 : Int32} {s3 : Nat} {h : AHp} : Rf d 171 58 [a0, a1] [.int s0, .ref s1, .int s2, .ref s3] h = if (aT (h.1 s1) = 0 ∨ aT (h.1 s1) = 10) ∧ inB s0 (aN (h.1 s1)) = true then Rf d 171 59 [a0, a1] [.int (aF (h.1 s1) s0.toNatClampNeg), .int s2, .ref s3] h else Rx d 171 58 [a0, a1] [.int s0, .ref s1, .int s2, .ref s3] h := ldI c171_58
theorem c171_59 : cd 171 59 = some (59, .iastore, 1, []) := by decide +kernel
theorem x171_59 {d : Nat} {a0 a1 : Value} {s0 : Int32} {s1 : Int32} {s2 : Nat} {h : AHp} : Rf d 171 59 [a0, a1] [.int s0, .int s1, .ref s2] h = if aT (h.1 s2) = 0 ∧ inB s1 (aN (h.1 s2)) = true then Rf d 171 60 [a0, a1] [] (hset h s2 (.inl (0, aN (h.1 s2), .inl (upd (aF (h.1 s2)) s1.toNatClampNeg s0)))) else Rx d 171 59 [a0, a1] [.int s0, .int s1, .ref s2] h := stI c171_59
theorem c171_60 : cd 171 60 = some (60, .aload_n 0, 1, []) := by decide +kernel
theorem x171_60 {d : Nat} {a1 : Value} {x : Nat} {h : AHp} : Rf d 171 60 [.ref x, a1] [] h = Rf d 171 61 [.ref x, a1] [.ref x] h := Rf_go ((stp_of c171_60).trans rfl)
theorem c171_61 : cd 171 61 = some (61, .getfield 9, 3, [(12, 0)]) := by decide +kernel
theorem x171_61 {d : Nat} {a0 a1 : Value} {s0 : Nat} {h : AHp} : Rf d 171 61 [a0, a1] [.ref s0] h = if cls (h.1 s0) = 12 ∧ oKr (h.1 s0) 0 = true then Rf d 171 64 [a0, a1] [.ref (oR (h.1 s0) 0)] h else Rx d 171 61 [a0, a1] [.ref s0] h := getR c171_61
theorem c171_64 : cd 171 64 = some (64, .bipush 6, 2, []) := by decide +kernel
theorem x171_64 {d : Nat} {a0 a1 : Value} {s0 : Nat} {h : AHp} : Rf d 171 64 [a0, a1] [.ref s0] h = Rf d 171 66 [a0, a1] [.int 6, .ref s0] h := Rf_go ((stp_of c171_64).trans rfl)
theorem c171_66 : cd 171 66 = some (66, .aload_n 0, 1, []) := by decide +kernel
theorem x171_66 {d : Nat} {a1 : Value} {s0 : Int32} {s1 : Nat} {x : Nat} {h : AHp} : Rf d 171 66 [.ref x, a1] [.int s0, .ref s1] h = Rf d 171 67 [.ref x, a1] [.ref x, .int s0, .ref s1] h := Rf_go ((stp_of c171_66).trans rfl)
theorem c171_67 : cd 171 67 = some (67, .getfield 25, 3, [(12, 9)]) := by decide +kernel
theorem x171_67 {d : Nat} {a0 a1 : Value} {s0 : Nat} {s1 : Int32} {s2 : Nat} {h : AHp} : Rf d 171 67 [a0, a1] [.ref s0, .int s1, .ref s2] h = if cls (h.1 s0) = 12 ∧ oKr (h.1 s0) 9 = true then Rf d 171 70 [a0, a1] [.ref (oR (h.1 s0) 9), .int s1, .ref s2] h else Rx d 171 67 [a0, a1] [.ref s0, .int s1, .ref s2] h := getR c171_67
theorem c171_70 : cd 171 70 = some (70, .bipush 21, 2, []) := by decide +kernel
theorem x171_70 {d : Nat} {a0 a1 : Value} {s0 : Nat} {s1 : Int32} {s2 : Nat} {h : AHp} : Rf d 171 70 [a0, a1] [.ref s0, .int s1, .ref s2] h = Rf d 171 72 [a0, a1] [.int 21, .ref s0, .int s1, .ref s2] h := Rf_go ((stp_of c171_70).trans rfl)
theorem c171_72 : cd 171 72 = some (72, .iaload, 1, []) := by decide +kernel
theorem x171_72 {d : Nat} {a0 a1 : Value} {s0 : Int32} {s1 : Nat} {s2 : Int32} {s3 : Nat} {h : AHp} : Rf d 171 72 [a0, a1] [.int s0, .ref s1, .int s2, .ref s3] h = if (aT (h.1 s1) = 0 ∨ aT (h.1 s1) = 10) ∧ inB s0 (aN (h.1 s1)) = true then Rf d 171 73 [a0, a1] [.int (aF (h.1 s1) s0.toNatClampNeg), .int s2, .ref s3] h else Rx d 171 72 [a0, a1] [.int s0, .ref s1, .int s2, .ref s3] h := ldI c171_72
theorem c171_73 : cd 171 73 = some (73, .iastore, 1, []) := by decide +kernel
theorem x171_73 {d : Nat} {a0 a1 : Value} {s0 : Int32} {s1 : Int32} {s2 : Nat} {h : AHp} : Rf d 171 73 [a0, a1] [.int s0, .int s1, .ref s2] h = if aT (h.1 s2) = 0 ∧ inB s1 (aN (h.1 s2)) = true then Rf d 171 74 [a0, a1] [] (hset h s2 (.inl (0, aN (h.1 s2), .inl (upd (aF (h.1 s2)) s1.toNatClampNeg s0)))) else Rx d 171 73 [a0, a1] [.int s0, .int s1, .ref s2] h := stI c171_73
theorem c171_74 : cd 171 74 = some (74, .return_, 1, []) := by decide +kernel
theorem x171_74 {d : Nat} {a0 a1 : Value} {h : AHp} : Rf d 171 74 [a0, a1] [] h = some (none, h) := Rf_end (endV c171_74 (by decide +kernel))
theorem c171_8 : cd 171 8 = some (8, .aload_n 0, 1, []) := by decide +kernel
theorem x171_8 {d : Nat} {a1 : Value} {x : Nat} {h : AHp} : Rf d 171 8 [.ref x, a1] [] h = Rf d 171 9 [.ref x, a1] [.ref x] h := Rf_go ((stp_of c171_8).trans rfl)
theorem c171_9 : cd 171 9 = some (9, .getfield 9, 3, [(12, 0)]) := by decide +kernel
theorem x171_9 {d : Nat} {a0 a1 : Value} {s0 : Nat} {h : AHp} : Rf d 171 9 [a0, a1] [.ref s0] h = if cls (h.1 s0) = 12 ∧ oKr (h.1 s0) 0 = true then Rf d 171 12 [a0, a1] [.ref (oR (h.1 s0) 0)] h else Rx d 171 9 [a0, a1] [.ref s0] h := getR c171_9
theorem c171_12 : cd 171 12 = some (12, .bipush 20, 2, []) := by decide +kernel
theorem x171_12 {d : Nat} {a0 a1 : Value} {s0 : Nat} {h : AHp} : Rf d 171 12 [a0, a1] [.ref s0] h = Rf d 171 14 [a0, a1] [.int 20, .ref s0] h := Rf_go ((stp_of c171_12).trans rfl)
theorem c171_14 : cd 171 14 = some (14, .iload_n 1, 1, []) := by decide +kernel
theorem x171_14 {d : Nat} {a0 : Value} {s0 : Int32} {s1 : Nat} {x : Int32} {h : AHp} : Rf d 171 14 [a0, .int x] [.int s0, .ref s1] h = Rf d 171 15 [a0, .int x] [.int x, .int s0, .ref s1] h := Rf_go ((stp_of c171_14).trans rfl)
theorem c171_15 : cd 171 15 = some (15, .iadd, 1, []) := by decide +kernel
theorem x171_15 {d : Nat} {a0 a1 : Value} {s0 : Int32} {s1 : Int32} {s2 : Nat} {h : AHp} : Rf d 171 15 [a0, a1] [.int s0, .int s1, .ref s2] h = Rf d 171 16 [a0, a1] [.int (s1 + s0), .ref s2] h := Rf_go ((stp_of c171_15).trans rfl)
theorem c171_16 : cd 171 16 = some (16, .aload_n 0, 1, []) := by decide +kernel
theorem x171_16 {d : Nat} {a1 : Value} {s0 : Int32} {s1 : Nat} {x : Nat} {h : AHp} : Rf d 171 16 [.ref x, a1] [.int s0, .ref s1] h = Rf d 171 17 [.ref x, a1] [.ref x, .int s0, .ref s1] h := Rf_go ((stp_of c171_16).trans rfl)
theorem c171_17 : cd 171 17 = some (17, .getfield 25, 3, [(12, 9)]) := by decide +kernel
theorem x171_17 {d : Nat} {a0 a1 : Value} {s0 : Nat} {s1 : Int32} {s2 : Nat} {h : AHp} : Rf d 171 17 [a0, a1] [.ref s0, .int s1, .ref s2] h = if cls (h.1 s0) = 12 ∧ oKr (h.1 s0) 9 = true then Rf d 171 20 [a0, a1] [.ref (oR (h.1 s0) 9), .int s1, .ref s2] h else Rx d 171 17 [a0, a1] [.ref s0, .int s1, .ref s2] h := getR c171_17
theorem c171_20 : cd 171 20 = some (20, .iload_n 1, 1, []) := by decide +kernel
theorem x171_20 {d : Nat} {a0 : Value} {s0 : Nat} {s1 : Int32} {s2 : Nat} {x : Int32} {h : AHp} : Rf d 171 20 [a0, .int x] [.ref s0, .int s1, .ref s2] h = Rf d 171 21 [a0, .int x] [.int x, .ref s0, .int s1, .ref s2] h := Rf_go ((stp_of c171_20).trans rfl)
theorem c171_21 : cd 171 21 = some (21, .iaload, 1, []) := by decide +kernel
theorem x171_21 {d : Nat} {a0 a1 : Value} {s0 : Int32} {s1 : Nat} {s2 : Int32} {s3 : Nat} {h : AHp} : Rf d 171 21 [a0, a1] [.int s0, .ref s1, .int s2, .ref s3] h = if (aT (h.1 s1) = 0 ∨ aT (h.1 s1) = 10) ∧ inB s0 (aN (h.1 s1)) = true then Rf d 171 22 [a0, a1] [.int (aF (h.1 s1) s0.toNatClampNeg), .int s2, .ref s3] h else Rx d 171 21 [a0, a1] [.int s0, .ref s1, .int s2, .ref s3] h := ldI c171_21
theorem c171_22 : cd 171 22 = some (22, .iastore, 1, []) := by decide +kernel
theorem x171_22 {d : Nat} {a0 a1 : Value} {s0 : Int32} {s1 : Int32} {s2 : Nat} {h : AHp} : Rf d 171 22 [a0, a1] [.int s0, .int s1, .ref s2] h = if aT (h.1 s2) = 0 ∧ inB s1 (aN (h.1 s2)) = true then Rf d 171 23 [a0, a1] [] (hset h s2 (.inl (0, aN (h.1 s2), .inl (upd (aF (h.1 s2)) s1.toNatClampNeg s0)))) else Rx d 171 22 [a0, a1] [.int s0, .int s1, .ref s2] h := stI c171_22
theorem c171_23 : cd 171 23 = some (23, .aload_n 0, 1, []) := by decide +kernel
theorem x171_23 {d : Nat} {a1 : Value} {x : Nat} {h : AHp} : Rf d 171 23 [.ref x, a1] [] h = Rf d 171 24 [.ref x, a1] [.ref x] h := Rf_go ((stp_of c171_23).trans rfl)
theorem c171_24 : cd 171 24 = some (24, .getfield 9, 3, [(12, 0)]) := by decide +kernel
theorem x171_24 {d : Nat} {a0 a1 : Value} {s0 : Nat} {h : AHp} : Rf d 171 24 [a0, a1] [.ref s0] h = if cls (h.1 s0) = 12 ∧ oKr (h.1 s0) 0 = true then Rf d 171 27 [a0, a1] [.ref (oR (h.1 s0) 0)] h else Rx d 171 24 [a0, a1] [.ref s0] h := getR c171_24
theorem c171_27 : cd 171 27 = some (27, .bipush 50, 2, []) := by decide +kernel
theorem x171_27 {d : Nat} {a0 a1 : Value} {s0 : Nat} {h : AHp} : Rf d 171 27 [a0, a1] [.ref s0] h = Rf d 171 29 [a0, a1] [.int 50, .ref s0] h := Rf_go ((stp_of c171_27).trans rfl)
theorem c171_29 : cd 171 29 = some (29, .iload_n 1, 1, []) := by decide +kernel
theorem x171_29 {d : Nat} {a0 : Value} {s0 : Int32} {s1 : Nat} {x : Int32} {h : AHp} : Rf d 171 29 [a0, .int x] [.int s0, .ref s1] h = Rf d 171 30 [a0, .int x] [.int x, .int s0, .ref s1] h := Rf_go ((stp_of c171_29).trans rfl)
theorem c171_30 : cd 171 30 = some (30, .iadd, 1, []) := by decide +kernel
theorem x171_30 {d : Nat} {a0 a1 : Value} {s0 : Int32} {s1 : Int32} {s2 : Nat} {h : AHp} : Rf d 171 30 [a0, a1] [.int s0, .int s1, .ref s2] h = Rf d 171 31 [a0, a1] [.int (s1 + s0), .ref s2] h := Rf_go ((stp_of c171_30).trans rfl)
theorem c171_31 : cd 171 31 = some (31, .aload_n 0, 1, []) := by decide +kernel
theorem x171_31 {d : Nat} {a1 : Value} {s0 : Int32} {s1 : Nat} {x : Nat} {h : AHp} : Rf d 171 31 [.ref x, a1] [.int s0, .ref s1] h = Rf d 171 32 [.ref x, a1] [.ref x, .int s0, .ref s1] h := Rf_go ((stp_of c171_31).trans rfl)
theorem c171_32 : cd 171 32 = some (32, .getfield 25, 3, [(12, 9)]) := by decide +kernel
theorem x171_32 {d : Nat} {a0 a1 : Value} {s0 : Nat} {s1 : Int32} {s2 : Nat} {h : AHp} : Rf d 171 32 [a0, a1] [.ref s0, .int s1, .ref s2] h = if cls (h.1 s0) = 12 ∧ oKr (h.1 s0) 9 = true then Rf d 171 35 [a0, a1] [.ref (oR (h.1 s0) 9), .int s1, .ref s2] h else Rx d 171 32 [a0, a1] [.ref s0, .int s1, .ref s2] h := getR c171_32
theorem c171_35 : cd 171 35 = some (35, .bipush 10, 2, []) := by decide +kernel
theorem x171_35 {d : Nat} {a0 a1 : Value} {s0 : Nat} {s1 : Int32} {s2 : Nat} {h : AHp} : Rf d 171 35 [a0, a1] [.ref s0, .int s1, .ref s2] h = Rf d 171 37 [a0, a1] [.int 10, .ref s0, .int s1, .ref s2] h := Rf_go ((stp_of c171_35).trans rfl)
theorem c171_37 : cd 171 37 = some (37, .iload_n 1, 1, []) := by decide +kernel
theorem x171_37 {d : Nat} {a0 : Value} {s0 : Int32} {s1 : Nat} {s2 : Int32} {s3 : Nat} {x : Int32} {h : AHp} : Rf d 171 37 [a0, .int x] [.int s0, .ref s1, .int s2, .ref s3] h = Rf d 171 38 [a0, .int x] [.int x, .int s0, .ref s1, .int s2, .ref s3] h := Rf_go ((stp_of c171_37).trans rfl)
theorem c171_38 : cd 171 38 = some (38, .iadd, 1, []) := by decide +kernel
theorem x171_38 {d : Nat} {a0 a1 : Value} {s0 : Int32} {s1 : Int32} {s2 : Nat} {s3 : Int32} {s4 : Nat} {h : AHp} : Rf d 171 38 [a0, a1] [.int s0, .int s1, .ref s2, .int s3, .ref s4] h = Rf d 171 39 [a0, a1] [.int (s1 + s0), .ref s2, .int s3, .ref s4] h := Rf_go ((stp_of c171_38).trans rfl)
theorem c171_39 : cd 171 39 = some (39, .iaload, 1, []) := by decide +kernel
theorem x171_39 {d : Nat} {a0 a1 : Value} {s0 : Int32} {s1 : Nat} {s2 : Int32} {s3 : Nat} {h : AHp} : Rf d 171 39 [a0, a1] [.int s0, .ref s1, .int s2, .ref s3] h = if (aT (h.1 s1) = 0 ∨ aT (h.1 s1) = 10) ∧ inB s0 (aN (h.1 s1)) = true then Rf d 171 40 [a0, a1] [.int (aF (h.1 s1) s0.toNatClampNeg), .int s2, .ref s3] h else Rx d 171 39 [a0, a1] [.int s0, .ref s1, .int s2, .ref s3] h := ldI c171_39
theorem c171_40 : cd 171 40 = some (40, .iastore, 1, []) := by decide +kernel
theorem x171_40 {d : Nat} {a0 a1 : Value} {s0 : Int32} {s1 : Int32} {s2 : Nat} {h : AHp} : Rf d 171 40 [a0, a1] [.int s0, .int s1, .ref s2] h = if aT (h.1 s2) = 0 ∧ inB s1 (aN (h.1 s2)) = true then Rf d 171 41 [a0, a1] [] (hset h s2 (.inl (0, aN (h.1 s2), .inl (upd (aF (h.1 s2)) s1.toNatClampNeg s0)))) else Rx d 171 40 [a0, a1] [.int s0, .int s1, .ref s2] h := stI c171_40
theorem c171_41 : cd 171 41 = some (41, .iinc 1 1, 3, []) := by decide +kernel
theorem x171_41 {d : Nat} {a0 : Value} {x : Int32} {h : AHp} : Rf d 171 41 [a0, .int x] [] h = Rf d 171 44 [a0, .int (x + 1)] [] h := Rf_go ((stp_of c171_41).trans rfl)
theorem c171_44 : cd 171 44 = some (44, .goto (-42), 3, [(2, 0)]) := by decide +kernel
theorem x171_44 {d : Nat} {a0 a1 : Value} {h : AHp} : Rf d 171 44 [a0, a1] [] h = Rf d 171 2 [a0, a1] [] h := Rf_go ((stp_of c171_44).trans rfl)
-- 172: X12_years
theorem c172_0 : cd 172 0 = some (0, .iload_n 2, 1, []) := by decide +kernel
theorem x172_0 {d : Nat} {a0 a1 a3 a4 a5 : Value} {x : Int32} {h : AHp} : Rf d 172 0 [a0, a1, .int x, a3, a4, a5] [] h = Rf d 172 1 [a0, a1, .int x, a3, a4, a5] [.int x] h := Rf_go ((stp_of c172_0).trans rfl)
theorem c172_1 : cd 172 1 = some (1, .iconst 0, 1, []) := by decide +kernel
theorem x172_1 {d : Nat} {a0 a1 a2 a3 a4 a5 : Value} {s0 : Int32} {h : AHp} : Rf d 172 1 [a0, a1, a2, a3, a4, a5] [.int s0] h = Rf d 172 2 [a0, a1, a2, a3, a4, a5] [.int 0, .int s0] h := Rf_go ((stp_of c172_1).trans rfl)
theorem c172_2 : cd 172 2 = some (2, .iconst 3, 1, []) := by decide +kernel
theorem x172_2 {d : Nat} {a0 a1 a2 a3 a4 a5 : Value} {s0 : Int32} {s1 : Int32} {h : AHp} : Rf d 172 2 [a0, a1, a2, a3, a4, a5] [.int s0, .int s1] h = Rf d 172 3 [a0, a1, a2, a3, a4, a5] [.int 3, .int s0, .int s1] h := Rf_go ((stp_of c172_2).trans rfl)
theorem c172_3 : cd 172 3 = some (3, .invokestatic 31, 3, [(0, 131)]) := by decide +kernel
theorem xc172_3 {d : Nat} {a0 a1 a2 a3 a4 a5 : Value} {s0 : Int32} {s1 : Int32} {s2 : Int32} {h : AHp} {h1 : AHp} {v : Int32} (hq : Rf d 131 0 [.int s2, .int s1, .int s0] [] h = some (some (.int v), h1)) : Rf (d + 1) 172 3 [a0, a1, a2, a3, a4, a5] [.int s0, .int s1, .int s2] h = Rf (d + 1) 172 6 [a0, a1, a2, a3, a4, a5] [.int v] h1 := clS (as := [.int s2, .int s1, .int s0]) c172_3 rfl rfl (by simp [isV]) hq
theorem c172_6 : cd 172 6 = some (6, .ifCond .eq 12, 3, [(18, 0)]) := by decide +kernel
theorem x172_6 {d : Nat} {a0 a1 a2 a3 a4 a5 : Value} {s0 : Int32} {h : AHp} : Rf d 172 6 [a0, a1, a2, a3, a4, a5] [.int s0] h = if s0 = 0 then Rf d 172 18 [a0, a1, a2, a3, a4, a5] [] h else Rf d 172 9 [a0, a1, a2, a3, a4, a5] [] h := Rf_brd ((stp_of c172_6).trans rfl)
theorem c172_18 : cd 172 18 = some (18, .sipush (-10001), 3, []) := by decide +kernel
theorem x172_18 {d : Nat} {a0 a1 a2 a3 a4 a5 : Value} {h : AHp} : Rf d 172 18 [a0, a1, a2, a3, a4, a5] [] h = Rf d 172 21 [a0, a1, a2, a3, a4, a5] [.int (-10001)] h := Rf_go ((stp_of c172_18).trans rfl)
theorem c172_21 : cd 172 21 = some (21, .ireturn, 1, []) := by decide +kernel
theorem x172_21 {d : Nat} {a0 a1 a2 a3 a4 a5 : Value} {s0 : Int32} {h : AHp} : Rf d 172 21 [a0, a1, a2, a3, a4, a5] [.int s0] h = some (some (.int s0), h) := Rf_end (by rw [stp_of c172_21]; simp only [stpI]; rw [if_pos (show retI (mH 172).2.2.1 s0 = true from retI_int)])
theorem c172_9 : cd 172 9 = some (9, .iload_n 3, 1, []) := by decide +kernel
theorem x172_9 {d : Nat} {a0 a1 a2 a4 a5 : Value} {x : Int32} {h : AHp} : Rf d 172 9 [a0, a1, a2, .int x, a4, a5] [] h = Rf d 172 10 [a0, a1, a2, .int x, a4, a5] [.int x] h := Rf_go ((stp_of c172_9).trans rfl)
theorem c172_10 : cd 172 10 = some (10, .iconst 0, 1, []) := by decide +kernel
theorem x172_10 {d : Nat} {a0 a1 a2 a3 a4 a5 : Value} {s0 : Int32} {h : AHp} : Rf d 172 10 [a0, a1, a2, a3, a4, a5] [.int s0] h = Rf d 172 11 [a0, a1, a2, a3, a4, a5] [.int 0, .int s0] h := Rf_go ((stp_of c172_10).trans rfl)
theorem c172_11 : cd 172 11 = some (11, .iconst 2, 1, []) := by decide +kernel
theorem x172_11 {d : Nat} {a0 a1 a2 a3 a4 a5 : Value} {s0 : Int32} {s1 : Int32} {h : AHp} : Rf d 172 11 [a0, a1, a2, a3, a4, a5] [.int s0, .int s1] h = Rf d 172 12 [a0, a1, a2, a3, a4, a5] [.int 2, .int s0, .int s1] h := Rf_go ((stp_of c172_11).trans rfl)
theorem c172_12 : cd 172 12 = some (12, .invokestatic 31, 3, [(0, 131)]) := by decide +kernel
theorem xc172_12 {d : Nat} {a0 a1 a2 a3 a4 a5 : Value} {s0 : Int32} {s1 : Int32} {s2 : Int32} {h : AHp} {h1 : AHp} {v : Int32} (hq : Rf d 131 0 [.int s2, .int s1, .int s0] [] h = some (some (.int v), h1)) : Rf (d + 1) 172 12 [a0, a1, a2, a3, a4, a5] [.int s0, .int s1, .int s2] h = Rf (d + 1) 172 15 [a0, a1, a2, a3, a4, a5] [.int v] h1 := clS (as := [.int s2, .int s1, .int s0]) c172_12 rfl rfl (by simp [isV]) hq
theorem c172_15 : cd 172 15 = some (15, .ifCond .ne 7, 3, [(22, 0)]) := by decide +kernel
theorem x172_15 {d : Nat} {a0 a1 a2 a3 a4 a5 : Value} {s0 : Int32} {h : AHp} : Rf d 172 15 [a0, a1, a2, a3, a4, a5] [.int s0] h = if s0 = 0 then Rf d 172 18 [a0, a1, a2, a3, a4, a5] [] h else Rf d 172 22 [a0, a1, a2, a3, a4, a5] [] h := Rf_brn ((stp_of c172_15).trans rfl)
theorem c172_22 : cd 172 22 = some (22, .iload_n 1, 1, []) := by decide +kernel
theorem x172_22 {d : Nat} {a0 a2 a3 a4 a5 : Value} {x : Int32} {h : AHp} : Rf d 172 22 [a0, .int x, a2, a3, a4, a5] [] h = Rf d 172 23 [a0, .int x, a2, a3, a4, a5] [.int x] h := Rf_go ((stp_of c172_22).trans rfl)
theorem c172_23 : cd 172 23 = some (23, .iconst 0, 1, []) := by decide +kernel
theorem x172_23 {d : Nat} {a0 a1 a2 a3 a4 a5 : Value} {s0 : Int32} {h : AHp} : Rf d 172 23 [a0, a1, a2, a3, a4, a5] [.int s0] h = Rf d 172 24 [a0, a1, a2, a3, a4, a5] [.int 0, .int s0] h := Rf_go ((stp_of c172_23).trans rfl)
theorem c172_24 : cd 172 24 = some (24, .bipush 20, 2, []) := by decide +kernel
theorem x172_24 {d : Nat} {a0 a1 a2 a3 a4 a5 : Value} {s0 : Int32} {s1 : Int32} {h : AHp} : Rf d 172 24 [a0, a1, a2, a3, a4, a5] [.int s0, .int s1] h = Rf d 172 26 [a0, a1, a2, a3, a4, a5] [.int 20, .int s0, .int s1] h := Rf_go ((stp_of c172_24).trans rfl)
theorem c172_26 : cd 172 26 = some (26, .invokestatic 31, 3, [(0, 131)]) := by decide +kernel
theorem xc172_26 {d : Nat} {a0 a1 a2 a3 a4 a5 : Value} {s0 : Int32} {s1 : Int32} {s2 : Int32} {h : AHp} {h1 : AHp} {v : Int32} (hq : Rf d 131 0 [.int s2, .int s1, .int s0] [] h = some (some (.int v), h1)) : Rf (d + 1) 172 26 [a0, a1, a2, a3, a4, a5] [.int s0, .int s1, .int s2] h = Rf (d + 1) 172 29 [a0, a1, a2, a3, a4, a5] [.int v] h1 := clS (as := [.int s2, .int s1, .int s0]) c172_26 rfl rfl (by simp [isV]) hq
theorem c172_29 : cd 172 29 = some (29, .ifCond .ne 7, 3, [(36, 0)]) := by decide +kernel
theorem x172_29 {d : Nat} {a0 a1 a2 a3 a4 a5 : Value} {s0 : Int32} {h : AHp} : Rf d 172 29 [a0, a1, a2, a3, a4, a5] [.int s0] h = if s0 = 0 then Rf d 172 32 [a0, a1, a2, a3, a4, a5] [] h else Rf d 172 36 [a0, a1, a2, a3, a4, a5] [] h := Rf_brn ((stp_of c172_29).trans rfl)
theorem c172_36 : cd 172 36 = some (36, .aload_n 0, 1, []) := by decide +kernel
theorem x172_36 {d : Nat} {a1 a2 a3 a4 a5 : Value} {x : Nat} {h : AHp} : Rf d 172 36 [.ref x, a1, a2, a3, a4, a5] [] h = Rf d 172 37 [.ref x, a1, a2, a3, a4, a5] [.ref x] h := Rf_go ((stp_of c172_36).trans rfl)
theorem c172_37 : cd 172 37 = some (37, .invokevirtual 164, 3, [(12, 170)]) := by decide +kernel
theorem xc172_37 {d : Nat} {a0 a1 a2 a3 a4 a5 : Value} {s0 : Nat} {h : AHp} {h1 : AHp} (hr : cls (h.1 s0) = 12) (hq : Rf d 170 0 [.ref s0, noV] [] h = some (none, h1)) : Rf (d + 1) 172 37 [a0, a1, a2, a3, a4, a5] [.ref s0] h = Rf (d + 1) 172 40 [a0, a1, a2, a3, a4, a5] [] h1 := clV (c := 170) (as := []) c172_37 rfl (by simp [isV]) (by rw [hr]; rfl) hq
theorem c172_40 : cd 172 40 = some (40, .aload_n 0, 1, []) := by decide +kernel
theorem x172_40 {d : Nat} {a1 a2 a3 a4 a5 : Value} {x : Nat} {h : AHp} : Rf d 172 40 [.ref x, a1, a2, a3, a4, a5] [] h = Rf d 172 41 [.ref x, a1, a2, a3, a4, a5] [.ref x] h := Rf_go ((stp_of c172_40).trans rfl)
theorem c172_41 : cd 172 41 = some (41, .getfield 9, 3, [(12, 0)]) := by decide +kernel
theorem x172_41 {d : Nat} {a0 a1 a2 a3 a4 a5 : Value} {s0 : Nat} {h : AHp} : Rf d 172 41 [a0, a1, a2, a3, a4, a5] [.ref s0] h = if cls (h.1 s0) = 12 ∧ oKr (h.1 s0) 0 = true then Rf d 172 44 [a0, a1, a2, a3, a4, a5] [.ref (oR (h.1 s0) 0)] h else Rx d 172 41 [a0, a1, a2, a3, a4, a5] [.ref s0] h := getR c172_41
theorem c172_44 : cd 172 44 = some (44, .iconst 5, 1, []) := by decide +kernel
theorem x172_44 {d : Nat} {a0 a1 a2 a3 a4 a5 : Value} {s0 : Nat} {h : AHp} : Rf d 172 44 [a0, a1, a2, a3, a4, a5] [.ref s0] h = Rf d 172 45 [a0, a1, a2, a3, a4, a5] [.int 5, .ref s0] h := Rf_go ((stp_of c172_44).trans rfl)
theorem c172_45 : cd 172 45 = some (45, .iload_n 2, 1, []) := by decide +kernel
theorem x172_45 {d : Nat} {a0 a1 a3 a4 a5 : Value} {s0 : Int32} {s1 : Nat} {x : Int32} {h : AHp} : Rf d 172 45 [a0, a1, .int x, a3, a4, a5] [.int s0, .ref s1] h = Rf d 172 46 [a0, a1, .int x, a3, a4, a5] [.int x, .int s0, .ref s1] h := Rf_go ((stp_of c172_45).trans rfl)
theorem c172_46 : cd 172 46 = some (46, .iastore, 1, []) := by decide +kernel
theorem x172_46 {d : Nat} {a0 a1 a2 a3 a4 a5 : Value} {s0 : Int32} {s1 : Int32} {s2 : Nat} {h : AHp} : Rf d 172 46 [a0, a1, a2, a3, a4, a5] [.int s0, .int s1, .ref s2] h = if aT (h.1 s2) = 0 ∧ inB s1 (aN (h.1 s2)) = true then Rf d 172 47 [a0, a1, a2, a3, a4, a5] [] (hset h s2 (.inl (0, aN (h.1 s2), .inl (upd (aF (h.1 s2)) s1.toNatClampNeg s0)))) else Rx d 172 46 [a0, a1, a2, a3, a4, a5] [.int s0, .int s1, .ref s2] h := stI c172_46
theorem c172_47 : cd 172 47 = some (47, .iconst 0, 1, []) := by decide +kernel
theorem x172_47 {d : Nat} {a0 a1 a2 a3 a4 a5 : Value} {h : AHp} : Rf d 172 47 [a0, a1, a2, a3, a4, a5] [] h = Rf d 172 48 [a0, a1, a2, a3, a4, a5] [.int 0] h := Rf_go ((stp_of c172_47).trans rfl)
theorem c172_48 : cd 172 48 = some (48, .istore 4, 2, []) := by decide +kernel
theorem x172_48 {d : Nat} {a0 a1 a2 a3 a4 a5 : Value} {s0 : Int32} {h : AHp} : Rf d 172 48 [a0, a1, a2, a3, a4, a5] [.int s0] h = Rf d 172 50 [a0, a1, a2, a3, .int s0, a5] [] h := Rf_go ((stp_of c172_48).trans rfl)
theorem c172_50 : cd 172 50 = some (50, .iconst 0, 1, []) := by decide +kernel
theorem x172_50 {d : Nat} {a0 a1 a2 a3 a4 a5 : Value} {h : AHp} : Rf d 172 50 [a0, a1, a2, a3, a4, a5] [] h = Rf d 172 51 [a0, a1, a2, a3, a4, a5] [.int 0] h := Rf_go ((stp_of c172_50).trans rfl)
theorem c172_51 : cd 172 51 = some (51, .istore 5, 2, []) := by decide +kernel
theorem x172_51 {d : Nat} {a0 a1 a2 a3 a4 a5 : Value} {s0 : Int32} {h : AHp} : Rf d 172 51 [a0, a1, a2, a3, a4, a5] [.int s0] h = Rf d 172 53 [a0, a1, a2, a3, a4, .int s0] [] h := Rf_go ((stp_of c172_51).trans rfl)
theorem c172_53 : cd 172 53 = some (53, .iload 5, 2, []) := by decide +kernel
theorem x172_53 {d : Nat} {a0 a1 a2 a3 a4 : Value} {x : Int32} {h : AHp} : Rf d 172 53 [a0, a1, a2, a3, a4, .int x] [] h = Rf d 172 55 [a0, a1, a2, a3, a4, .int x] [.int x] h := Rf_go ((stp_of c172_53).trans rfl)
theorem c172_55 : cd 172 55 = some (55, .iload_n 1, 1, []) := by decide +kernel
theorem x172_55 {d : Nat} {a0 a2 a3 a4 a5 : Value} {s0 : Int32} {x : Int32} {h : AHp} : Rf d 172 55 [a0, .int x, a2, a3, a4, a5] [.int s0] h = Rf d 172 56 [a0, .int x, a2, a3, a4, a5] [.int x, .int s0] h := Rf_go ((stp_of c172_55).trans rfl)
theorem c172_56 : cd 172 56 = some (56, .if_icmp .ge 18, 3, [(74, 0)]) := by decide +kernel
theorem x172_56 {d : Nat} {a0 a1 a2 a3 a4 a5 : Value} {s0 : Int32} {s1 : Int32} {h : AHp} : Rf d 172 56 [a0, a1, a2, a3, a4, a5] [.int s0, .int s1] h = if s1 < s0 then Rf d 172 59 [a0, a1, a2, a3, a4, a5] [] h else Rf d 172 74 [a0, a1, a2, a3, a4, a5] [] h := Rf_brn ((stp_of c172_56).trans rfl)
theorem c172_74 : cd 172 74 = some (74, .iload_n 3, 1, []) := by decide +kernel
theorem x172_74 {d : Nat} {a0 a1 a2 a4 a5 : Value} {x : Int32} {h : AHp} : Rf d 172 74 [a0, a1, a2, .int x, a4, a5] [] h = Rf d 172 75 [a0, a1, a2, .int x, a4, a5] [.int x] h := Rf_go ((stp_of c172_74).trans rfl)
theorem c172_75 : cd 172 75 = some (75, .ifCond .ne 10, 3, [(85, 0)]) := by decide +kernel
theorem x172_75 {d : Nat} {a0 a1 a2 a3 a4 a5 : Value} {s0 : Int32} {h : AHp} : Rf d 172 75 [a0, a1, a2, a3, a4, a5] [.int s0] h = if s0 = 0 then Rf d 172 78 [a0, a1, a2, a3, a4, a5] [] h else Rf d 172 85 [a0, a1, a2, a3, a4, a5] [] h := Rf_brn ((stp_of c172_75).trans rfl)
theorem c172_85 : cd 172 85 = some (85, .iload_n 3, 1, []) := by decide +kernel
theorem x172_85 {d : Nat} {a0 a1 a2 a4 a5 : Value} {x : Int32} {h : AHp} : Rf d 172 85 [a0, a1, a2, .int x, a4, a5] [] h = Rf d 172 86 [a0, a1, a2, .int x, a4, a5] [.int x] h := Rf_go ((stp_of c172_85).trans rfl)
theorem c172_86 : cd 172 86 = some (86, .iconst 1, 1, []) := by decide +kernel
theorem x172_86 {d : Nat} {a0 a1 a2 a3 a4 a5 : Value} {s0 : Int32} {h : AHp} : Rf d 172 86 [a0, a1, a2, a3, a4, a5] [.int s0] h = Rf d 172 87 [a0, a1, a2, a3, a4, a5] [.int 1, .int s0] h := Rf_go ((stp_of c172_86).trans rfl)
theorem c172_87 : cd 172 87 = some (87, .if_icmp .ne 8, 3, [(95, 0)]) := by decide +kernel
theorem x172_87 {d : Nat} {a0 a1 a2 a3 a4 a5 : Value} {s0 : Int32} {s1 : Int32} {h : AHp} : Rf d 172 87 [a0, a1, a2, a3, a4, a5] [.int s0, .int s1] h = if s1 = s0 then Rf d 172 90 [a0, a1, a2, a3, a4, a5] [] h else Rf d 172 95 [a0, a1, a2, a3, a4, a5] [] h := Rf_brn ((stp_of c172_87).trans rfl)
theorem c172_95 : cd 172 95 = some (95, .aload_n 0, 1, []) := by decide +kernel
theorem x172_95 {d : Nat} {a1 a2 a3 a4 a5 : Value} {x : Nat} {h : AHp} : Rf d 172 95 [.ref x, a1, a2, a3, a4, a5] [] h = Rf d 172 96 [.ref x, a1, a2, a3, a4, a5] [.ref x] h := Rf_go ((stp_of c172_95).trans rfl)
theorem c172_96 : cd 172 96 = some (96, .invokevirtual 130, 3, [(12, 154)]) := by decide +kernel
theorem xc172_96 {d : Nat} {a0 a1 a2 a3 a4 a5 : Value} {s0 : Nat} {h : AHp} {h1 : AHp} {v : Int32} (hr : cls (h.1 s0) = 12) (hq : Rf d 154 0 [.ref s0, noV, noV, noV, noV] [] h = some (some (.int v), h1)) : Rf (d + 1) 172 96 [a0, a1, a2, a3, a4, a5] [.ref s0] h = Rf (d + 1) 172 99 [a0, a1, a2, a3, a4, a5] [.int v] h1 := clV (c := 154) (as := []) c172_96 rfl (by simp [isV]) (by rw [hr]; rfl) hq
theorem c172_99 : cd 172 99 = some (99, .istore 5, 2, []) := by decide +kernel
theorem x172_99 {d : Nat} {a0 a1 a2 a3 a4 a5 : Value} {s0 : Int32} {h : AHp} : Rf d 172 99 [a0, a1, a2, a3, a4, a5] [.int s0] h = Rf d 172 101 [a0, a1, a2, a3, a4, .int s0] [] h := Rf_go ((stp_of c172_99).trans rfl)
theorem c172_101 : cd 172 101 = some (101, .aload_n 0, 1, []) := by decide +kernel
theorem x172_101 {d : Nat} {a1 a2 a3 a4 a5 : Value} {x : Nat} {h : AHp} : Rf d 172 101 [.ref x, a1, a2, a3, a4, a5] [] h = Rf d 172 102 [.ref x, a1, a2, a3, a4, a5] [.ref x] h := Rf_go ((stp_of c172_101).trans rfl)
theorem c172_102 : cd 172 102 = some (102, .invokevirtual 167, 3, [(12, 171)]) := by decide +kernel
theorem xc172_102 {d : Nat} {a0 a1 a2 a3 a4 a5 : Value} {s0 : Nat} {h : AHp} {h1 : AHp} (hr : cls (h.1 s0) = 12) (hq : Rf d 171 0 [.ref s0, noV] [] h = some (none, h1)) : Rf (d + 1) 172 102 [a0, a1, a2, a3, a4, a5] [.ref s0] h = Rf (d + 1) 172 105 [a0, a1, a2, a3, a4, a5] [] h1 := clV (c := 171) (as := []) c172_102 rfl (by simp [isV]) (by rw [hr]; rfl) hq
theorem c172_105 : cd 172 105 = some (105, .iload 5, 2, []) := by decide +kernel
theorem x172_105 {d : Nat} {a0 a1 a2 a3 a4 : Value} {x : Int32} {h : AHp} : Rf d 172 105 [a0, a1, a2, a3, a4, .int x] [] h = Rf d 172 107 [a0, a1, a2, a3, a4, .int x] [.int x] h := Rf_go ((stp_of c172_105).trans rfl)
theorem c172_107 : cd 172 107 = some (107, .ireturn, 1, []) := by decide +kernel
theorem x172_107 {d : Nat} {a0 a1 a2 a3 a4 a5 : Value} {s0 : Int32} {h : AHp} : Rf d 172 107 [a0, a1, a2, a3, a4, a5] [.int s0] h = some (some (.int s0), h) := Rf_end (by rw [stp_of c172_107]; simp only [stpI]; rw [if_pos (show retI (mH 172).2.2.1 s0 = true from retI_int)])
theorem c172_90 : cd 172 90 = some (90, .iload 4, 2, []) := by decide +kernel
theorem x172_90 {d : Nat} {a0 a1 a2 a3 a5 : Value} {x : Int32} {h : AHp} : Rf d 172 90 [a0, a1, a2, a3, .int x, a5] [] h = Rf d 172 92 [a0, a1, a2, a3, .int x, a5] [.int x] h := Rf_go ((stp_of c172_90).trans rfl)
theorem c172_92 : cd 172 92 = some (92, .goto 7, 3, [(99, 0)]) := by decide +kernel
theorem x172_92 {d : Nat} {a0 a1 a2 a3 a4 a5 : Value} {s0 : Int32} {h : AHp} : Rf d 172 92 [a0, a1, a2, a3, a4, a5] [.int s0] h = Rf d 172 99 [a0, a1, a2, a3, a4, a5] [.int s0] h := Rf_go ((stp_of c172_92).trans rfl)
theorem c172_78 : cd 172 78 = some (78, .aload_n 0, 1, []) := by decide +kernel
theorem x172_78 {d : Nat} {a1 a2 a3 a4 a5 : Value} {x : Nat} {h : AHp} : Rf d 172 78 [.ref x, a1, a2, a3, a4, a5] [] h = Rf d 172 79 [.ref x, a1, a2, a3, a4, a5] [.ref x] h := Rf_go ((stp_of c172_78).trans rfl)
theorem c172_79 : cd 172 79 = some (79, .invokevirtual 133, 3, [(12, 155)]) := by decide +kernel
theorem xc172_79 {d : Nat} {a0 a1 a2 a3 a4 a5 : Value} {s0 : Nat} {h : AHp} {h1 : AHp} {v : Int32} (hr : cls (h.1 s0) = 12) (hq : Rf d 155 0 [.ref s0, noV, noV] [] h = some (some (.int v), h1)) : Rf (d + 1) 172 79 [a0, a1, a2, a3, a4, a5] [.ref s0] h = Rf (d + 1) 172 82 [a0, a1, a2, a3, a4, a5] [.int v] h1 := clV (c := 155) (as := []) c172_79 rfl (by simp [isV]) (by rw [hr]; rfl) hq
theorem c172_82 : cd 172 82 = some (82, .goto 17, 3, [(99, 0)]) := by decide +kernel
theorem x172_82 {d : Nat} {a0 a1 a2 a3 a4 a5 : Value} {s0 : Int32} {h : AHp} : Rf d 172 82 [a0, a1, a2, a3, a4, a5] [.int s0] h = Rf d 172 99 [a0, a1, a2, a3, a4, a5] [.int s0] h := Rf_go ((stp_of c172_82).trans rfl)
theorem c172_59 : cd 172 59 = some (59, .iload 4, 2, []) := by decide +kernel
theorem x172_59 {d : Nat} {a0 a1 a2 a3 a5 : Value} {x : Int32} {h : AHp} : Rf d 172 59 [a0, a1, a2, a3, .int x, a5] [] h = Rf d 172 61 [a0, a1, a2, a3, .int x, a5] [.int x] h := Rf_go ((stp_of c172_59).trans rfl)
theorem c172_61 : cd 172 61 = some (61, .aload_n 0, 1, []) := by decide +kernel
theorem x172_61 {d : Nat} {a1 a2 a3 a4 a5 : Value} {s0 : Int32} {x : Nat} {h : AHp} : Rf d 172 61 [.ref x, a1, a2, a3, a4, a5] [.int s0] h = Rf d 172 62 [.ref x, a1, a2, a3, a4, a5] [.ref x, .int s0] h := Rf_go ((stp_of c172_61).trans rfl)
theorem c172_62 : cd 172 62 = some (62, .invokevirtual 161, 3, [(12, 168)]) := by decide +kernel
theorem xc172_62 {d : Nat} {a0 a1 a2 a3 a4 a5 : Value} {s0 : Nat} {s1 : Int32} {h : AHp} {h1 : AHp} {v : Int32} (hr : cls (h.1 s0) = 12) (hq : Rf d 168 0 [.ref s0, noV, noV, noV, noV, noV] [] h = some (some (.int v), h1)) : Rf (d + 1) 172 62 [a0, a1, a2, a3, a4, a5] [.ref s0, .int s1] h = Rf (d + 1) 172 65 [a0, a1, a2, a3, a4, a5] [.int v, .int s1] h1 := clV (c := 168) (as := []) c172_62 rfl (by simp [isV]) (by rw [hr]; rfl) hq
theorem c172_65 : cd 172 65 = some (65, .iadd, 1, []) := by decide +kernel
theorem x172_65 {d : Nat} {a0 a1 a2 a3 a4 a5 : Value} {s0 : Int32} {s1 : Int32} {h : AHp} : Rf d 172 65 [a0, a1, a2, a3, a4, a5] [.int s0, .int s1] h = Rf d 172 66 [a0, a1, a2, a3, a4, a5] [.int (s1 + s0)] h := Rf_go ((stp_of c172_65).trans rfl)
theorem c172_66 : cd 172 66 = some (66, .istore 4, 2, []) := by decide +kernel
theorem x172_66 {d : Nat} {a0 a1 a2 a3 a4 a5 : Value} {s0 : Int32} {h : AHp} : Rf d 172 66 [a0, a1, a2, a3, a4, a5] [.int s0] h = Rf d 172 68 [a0, a1, a2, a3, .int s0, a5] [] h := Rf_go ((stp_of c172_66).trans rfl)
theorem c172_68 : cd 172 68 = some (68, .iinc 5 1, 3, []) := by decide +kernel
theorem x172_68 {d : Nat} {a0 a1 a2 a3 a4 : Value} {x : Int32} {h : AHp} : Rf d 172 68 [a0, a1, a2, a3, a4, .int x] [] h = Rf d 172 71 [a0, a1, a2, a3, a4, .int (x + 1)] [] h := Rf_go ((stp_of c172_68).trans rfl)
theorem c172_71 : cd 172 71 = some (71, .goto (-18), 3, [(53, 0)]) := by decide +kernel
theorem x172_71 {d : Nat} {a0 a1 a2 a3 a4 a5 : Value} {h : AHp} : Rf d 172 71 [a0, a1, a2, a3, a4, a5] [] h = Rf d 172 53 [a0, a1, a2, a3, a4, a5] [] h := Rf_go ((stp_of c172_71).trans rfl)
theorem c172_32 : cd 172 32 = some (32, .sipush (-10002), 3, []) := by decide +kernel
theorem x172_32 {d : Nat} {a0 a1 a2 a3 a4 a5 : Value} {h : AHp} : Rf d 172 32 [a0, a1, a2, a3, a4, a5] [] h = Rf d 172 35 [a0, a1, a2, a3, a4, a5] [.int (-10002)] h := Rf_go ((stp_of c172_32).trans rfl)
theorem c172_35 : cd 172 35 = some (35, .ireturn, 1, []) := by decide +kernel
theorem x172_35 {d : Nat} {a0 a1 a2 a3 a4 a5 : Value} {s0 : Int32} {h : AHp} : Rf d 172 35 [a0, a1, a2, a3, a4, a5] [.int s0] h = some (some (.int s0), h) := Rf_end (by rw [stp_of c172_35]; simp only [stpI]; rw [if_pos (show retI (mH 172).2.2.1 s0 = true from retI_int)])
-- 173: X12_best
theorem c173_0 : cd 173 0 = some (0, .iload_n 1, 1, []) := by decide +kernel
theorem x173_0 {d : Nat} {a0 a2 a3 : Value} {x : Int32} {h : AHp} : Rf d 173 0 [a0, .int x, a2, a3] [] h = Rf d 173 1 [a0, .int x, a2, a3] [.int x] h := Rf_go ((stp_of c173_0).trans rfl)
theorem c173_1 : cd 173 1 = some (1, .iconst 0, 1, []) := by decide +kernel
theorem x173_1 {d : Nat} {a0 a1 a2 a3 : Value} {s0 : Int32} {h : AHp} : Rf d 173 1 [a0, a1, a2, a3] [.int s0] h = Rf d 173 2 [a0, a1, a2, a3] [.int 0, .int s0] h := Rf_go ((stp_of c173_1).trans rfl)
theorem c173_2 : cd 173 2 = some (2, .bipush 20, 2, []) := by decide +kernel
theorem x173_2 {d : Nat} {a0 a1 a2 a3 : Value} {s0 : Int32} {s1 : Int32} {h : AHp} : Rf d 173 2 [a0, a1, a2, a3] [.int s0, .int s1] h = Rf d 173 4 [a0, a1, a2, a3] [.int 20, .int s0, .int s1] h := Rf_go ((stp_of c173_2).trans rfl)
theorem c173_4 : cd 173 4 = some (4, .invokestatic 31, 3, [(0, 131)]) := by decide +kernel
theorem xc173_4 {d : Nat} {a0 a1 a2 a3 : Value} {s0 : Int32} {s1 : Int32} {s2 : Int32} {h : AHp} {h1 : AHp} {v : Int32} (hq : Rf d 131 0 [.int s2, .int s1, .int s0] [] h = some (some (.int v), h1)) : Rf (d + 1) 173 4 [a0, a1, a2, a3] [.int s0, .int s1, .int s2] h = Rf (d + 1) 173 7 [a0, a1, a2, a3] [.int v] h1 := clS (as := [.int s2, .int s1, .int s0]) c173_4 rfl rfl (by simp [isV]) hq
theorem c173_7 : cd 173 7 = some (7, .ifCond .ne 6, 3, [(13, 0)]) := by decide +kernel
theorem x173_7 {d : Nat} {a0 a1 a2 a3 : Value} {s0 : Int32} {h : AHp} : Rf d 173 7 [a0, a1, a2, a3] [.int s0] h = if s0 = 0 then Rf d 173 10 [a0, a1, a2, a3] [] h else Rf d 173 13 [a0, a1, a2, a3] [] h := Rf_brn ((stp_of c173_7).trans rfl)
theorem c173_13 : cd 173 13 = some (13, .iconst 0, 1, []) := by decide +kernel
theorem x173_13 {d : Nat} {a0 a1 a2 a3 : Value} {h : AHp} : Rf d 173 13 [a0, a1, a2, a3] [] h = Rf d 173 14 [a0, a1, a2, a3] [.int 0] h := Rf_go ((stp_of c173_13).trans rfl)
theorem c173_14 : cd 173 14 = some (14, .istore_n 2, 1, []) := by decide +kernel
theorem x173_14 {d : Nat} {a0 a1 a2 a3 : Value} {s0 : Int32} {h : AHp} : Rf d 173 14 [a0, a1, a2, a3] [.int s0] h = Rf d 173 15 [a0, a1, .int s0, a3] [] h := Rf_go ((stp_of c173_14).trans rfl)
theorem c173_15 : cd 173 15 = some (15, .iconst 1, 1, []) := by decide +kernel
theorem x173_15 {d : Nat} {a0 a1 a2 a3 : Value} {h : AHp} : Rf d 173 15 [a0, a1, a2, a3] [] h = Rf d 173 16 [a0, a1, a2, a3] [.int 1] h := Rf_go ((stp_of c173_15).trans rfl)
theorem c173_16 : cd 173 16 = some (16, .istore_n 3, 1, []) := by decide +kernel
theorem x173_16 {d : Nat} {a0 a1 a2 a3 : Value} {s0 : Int32} {h : AHp} : Rf d 173 16 [a0, a1, a2, a3] [.int s0] h = Rf d 173 17 [a0, a1, a2, .int s0] [] h := Rf_go ((stp_of c173_16).trans rfl)
theorem c173_17 : cd 173 17 = some (17, .iload_n 3, 1, []) := by decide +kernel
theorem x173_17 {d : Nat} {a0 a1 a2 : Value} {x : Int32} {h : AHp} : Rf d 173 17 [a0, a1, a2, .int x] [] h = Rf d 173 18 [a0, a1, a2, .int x] [.int x] h := Rf_go ((stp_of c173_17).trans rfl)
theorem c173_18 : cd 173 18 = some (18, .iconst 4, 1, []) := by decide +kernel
theorem x173_18 {d : Nat} {a0 a1 a2 a3 : Value} {s0 : Int32} {h : AHp} : Rf d 173 18 [a0, a1, a2, a3] [.int s0] h = Rf d 173 19 [a0, a1, a2, a3] [.int 4, .int s0] h := Rf_go ((stp_of c173_18).trans rfl)
theorem c173_19 : cd 173 19 = some (19, .if_icmp .ge 34, 3, [(53, 0)]) := by decide +kernel
theorem x173_19 {d : Nat} {a0 a1 a2 a3 : Value} {s0 : Int32} {s1 : Int32} {h : AHp} : Rf d 173 19 [a0, a1, a2, a3] [.int s0, .int s1] h = if s1 < s0 then Rf d 173 22 [a0, a1, a2, a3] [] h else Rf d 173 53 [a0, a1, a2, a3] [] h := Rf_brn ((stp_of c173_19).trans rfl)
theorem c173_53 : cd 173 53 = some (53, .iload_n 2, 1, []) := by decide +kernel
theorem x173_53 {d : Nat} {a0 a1 a3 : Value} {x : Int32} {h : AHp} : Rf d 173 53 [a0, a1, .int x, a3] [] h = Rf d 173 54 [a0, a1, .int x, a3] [.int x] h := Rf_go ((stp_of c173_53).trans rfl)
theorem c173_54 : cd 173 54 = some (54, .ireturn, 1, []) := by decide +kernel
theorem x173_54 {d : Nat} {a0 a1 a2 a3 : Value} {s0 : Int32} {h : AHp} : Rf d 173 54 [a0, a1, a2, a3] [.int s0] h = some (some (.int s0), h) := Rf_end (by rw [stp_of c173_54]; simp only [stpI]; rw [if_pos (show retI (mH 173).2.2.1 s0 = true from retI_int)])
theorem c173_22 : cd 173 22 = some (22, .aload_n 0, 1, []) := by decide +kernel
theorem x173_22 {d : Nat} {a1 a2 a3 : Value} {x : Nat} {h : AHp} : Rf d 173 22 [.ref x, a1, a2, a3] [] h = Rf d 173 23 [.ref x, a1, a2, a3] [.ref x] h := Rf_go ((stp_of c173_22).trans rfl)
theorem c173_23 : cd 173 23 = some (23, .iload_n 1, 1, []) := by decide +kernel
theorem x173_23 {d : Nat} {a0 a2 a3 : Value} {s0 : Nat} {x : Int32} {h : AHp} : Rf d 173 23 [a0, .int x, a2, a3] [.ref s0] h = Rf d 173 24 [a0, .int x, a2, a3] [.int x, .ref s0] h := Rf_go ((stp_of c173_23).trans rfl)
theorem c173_24 : cd 173 24 = some (24, .iload_n 3, 1, []) := by decide +kernel
theorem x173_24 {d : Nat} {a0 a1 a2 : Value} {s0 : Int32} {s1 : Nat} {x : Int32} {h : AHp} : Rf d 173 24 [a0, a1, a2, .int x] [.int s0, .ref s1] h = Rf d 173 25 [a0, a1, a2, .int x] [.int x, .int s0, .ref s1] h := Rf_go ((stp_of c173_24).trans rfl)
theorem c173_25 : cd 173 25 = some (25, .iconst 2, 1, []) := by decide +kernel
theorem x173_25 {d : Nat} {a0 a1 a2 a3 : Value} {s0 : Int32} {s1 : Int32} {s2 : Nat} {h : AHp} : Rf d 173 25 [a0, a1, a2, a3] [.int s0, .int s1, .ref s2] h = Rf d 173 26 [a0, a1, a2, a3] [.int 2, .int s0, .int s1, .ref s2] h := Rf_go ((stp_of c173_25).trans rfl)
theorem c173_26 : cd 173 26 = some (26, .invokevirtual 170, 3, [(12, 172)]) := by decide +kernel
theorem xc173_26 {d : Nat} {a0 a1 a2 a3 : Value} {s0 : Int32} {s1 : Int32} {s2 : Int32} {s3 : Nat} {h : AHp} {h1 : AHp} {v : Int32} (hr : cls (h.1 s3) = 12) (hq : Rf d 172 0 [.ref s3, .int s2, .int s1, .int s0, noV, noV] [] h = some (some (.int v), h1)) : Rf (d + 1) 173 26 [a0, a1, a2, a3] [.int s0, .int s1, .int s2, .ref s3] h = Rf (d + 1) 173 29 [a0, a1, a2, a3] [.int v] h1 := clV (c := 172) (as := [.int s2, .int s1, .int s0]) c173_26 rfl (by simp [isV]) (by rw [hr]; rfl) hq
theorem c173_29 : cd 173 29 = some (29, .invokestatic 174, 3, [(0, 200)]) := by decide +kernel
theorem xc173_29 {d : Nat} {a0 a1 a2 a3 : Value} {s0 : Int32} {h : AHp} {h1 : AHp} {v : Int32} (hq : Rf d 200 0 [.int s0] [] h = some (some (.int v), h1)) : Rf (d + 1) 173 29 [a0, a1, a2, a3] [.int s0] h = Rf (d + 1) 173 32 [a0, a1, a2, a3] [.int v] h1 := clS (as := [.int s0]) c173_29 rfl rfl (by simp [isV]) hq
theorem c173_32 : cd 173 32 = some (32, .aload_n 0, 1, []) := by decide +kernel
theorem x173_32 {d : Nat} {a1 a2 a3 : Value} {s0 : Int32} {x : Nat} {h : AHp} : Rf d 173 32 [.ref x, a1, a2, a3] [.int s0] h = Rf d 173 33 [.ref x, a1, a2, a3] [.ref x, .int s0] h := Rf_go ((stp_of c173_32).trans rfl)
theorem c173_33 : cd 173 33 = some (33, .iload_n 1, 1, []) := by decide +kernel
theorem x173_33 {d : Nat} {a0 a2 a3 : Value} {s0 : Nat} {s1 : Int32} {x : Int32} {h : AHp} : Rf d 173 33 [a0, .int x, a2, a3] [.ref s0, .int s1] h = Rf d 173 34 [a0, .int x, a2, a3] [.int x, .ref s0, .int s1] h := Rf_go ((stp_of c173_33).trans rfl)
theorem c173_34 : cd 173 34 = some (34, .iload_n 2, 1, []) := by decide +kernel
theorem x173_34 {d : Nat} {a0 a1 a3 : Value} {s0 : Int32} {s1 : Nat} {s2 : Int32} {x : Int32} {h : AHp} : Rf d 173 34 [a0, a1, .int x, a3] [.int s0, .ref s1, .int s2] h = Rf d 173 35 [a0, a1, .int x, a3] [.int x, .int s0, .ref s1, .int s2] h := Rf_go ((stp_of c173_34).trans rfl)
theorem c173_35 : cd 173 35 = some (35, .iconst 2, 1, []) := by decide +kernel
theorem x173_35 {d : Nat} {a0 a1 a2 a3 : Value} {s0 : Int32} {s1 : Int32} {s2 : Nat} {s3 : Int32} {h : AHp} : Rf d 173 35 [a0, a1, a2, a3] [.int s0, .int s1, .ref s2, .int s3] h = Rf d 173 36 [a0, a1, a2, a3] [.int 2, .int s0, .int s1, .ref s2, .int s3] h := Rf_go ((stp_of c173_35).trans rfl)
theorem c173_36 : cd 173 36 = some (36, .invokevirtual 170, 3, [(12, 172)]) := by decide +kernel
theorem xc173_36 {d : Nat} {a0 a1 a2 a3 : Value} {s0 : Int32} {s1 : Int32} {s2 : Int32} {s3 : Nat} {s4 : Int32} {h : AHp} {h1 : AHp} {v : Int32} (hr : cls (h.1 s3) = 12) (hq : Rf d 172 0 [.ref s3, .int s2, .int s1, .int s0, noV, noV] [] h = some (some (.int v), h1)) : Rf (d + 1) 173 36 [a0, a1, a2, a3] [.int s0, .int s1, .int s2, .ref s3, .int s4] h = Rf (d + 1) 173 39 [a0, a1, a2, a3] [.int v, .int s4] h1 := clV (c := 172) (as := [.int s2, .int s1, .int s0]) c173_36 rfl (by simp [isV]) (by rw [hr]; rfl) hq
theorem c173_39 : cd 173 39 = some (39, .invokestatic 174, 3, [(0, 200)]) := by decide +kernel
theorem xc173_39 {d : Nat} {a0 a1 a2 a3 : Value} {s0 : Int32} {s1 : Int32} {h : AHp} {h1 : AHp} {v : Int32} (hq : Rf d 200 0 [.int s0] [] h = some (some (.int v), h1)) : Rf (d + 1) 173 39 [a0, a1, a2, a3] [.int s0, .int s1] h = Rf (d + 1) 173 42 [a0, a1, a2, a3] [.int v, .int s1] h1 := clS (as := [.int s0]) c173_39 rfl rfl (by simp [isV]) hq
theorem c173_42 : cd 173 42 = some (42, .if_icmp .ge 5, 3, [(47, 0)]) := by decide +kernel
theorem x173_42 {d : Nat} {a0 a1 a2 a3 : Value} {s0 : Int32} {s1 : Int32} {h : AHp} : Rf d 173 42 [a0, a1, a2, a3] [.int s0, .int s1] h = if s1 < s0 then Rf d 173 45 [a0, a1, a2, a3] [] h else Rf d 173 47 [a0, a1, a2, a3] [] h := Rf_brn ((stp_of c173_42).trans rfl)
theorem c173_47 : cd 173 47 = some (47, .iinc 3 1, 3, []) := by decide +kernel
theorem x173_47 {d : Nat} {a0 a1 a2 : Value} {x : Int32} {h : AHp} : Rf d 173 47 [a0, a1, a2, .int x] [] h = Rf d 173 50 [a0, a1, a2, .int (x + 1)] [] h := Rf_go ((stp_of c173_47).trans rfl)
theorem c173_50 : cd 173 50 = some (50, .goto (-33), 3, [(17, 0)]) := by decide +kernel
theorem x173_50 {d : Nat} {a0 a1 a2 a3 : Value} {h : AHp} : Rf d 173 50 [a0, a1, a2, a3] [] h = Rf d 173 17 [a0, a1, a2, a3] [] h := Rf_go ((stp_of c173_50).trans rfl)
theorem c173_45 : cd 173 45 = some (45, .iload_n 3, 1, []) := by decide +kernel
theorem x173_45 {d : Nat} {a0 a1 a2 : Value} {x : Int32} {h : AHp} : Rf d 173 45 [a0, a1, a2, .int x] [] h = Rf d 173 46 [a0, a1, a2, .int x] [.int x] h := Rf_go ((stp_of c173_45).trans rfl)
theorem c173_46 : cd 173 46 = some (46, .istore_n 2, 1, []) := by decide +kernel
theorem x173_46 {d : Nat} {a0 a1 a2 a3 : Value} {s0 : Int32} {h : AHp} : Rf d 173 46 [a0, a1, a2, a3] [.int s0] h = Rf d 173 47 [a0, a1, .int s0, a3] [] h := Rf_go ((stp_of c173_46).trans rfl)
theorem c173_10 : cd 173 10 = some (10, .bipush (-2), 2, []) := by decide +kernel
theorem x173_10 {d : Nat} {a0 a1 a2 a3 : Value} {h : AHp} : Rf d 173 10 [a0, a1, a2, a3] [] h = Rf d 173 12 [a0, a1, a2, a3] [.int (-2)] h := Rf_go ((stp_of c173_10).trans rfl)
theorem c173_12 : cd 173 12 = some (12, .ireturn, 1, []) := by decide +kernel
theorem x173_12 {d : Nat} {a0 a1 a2 a3 : Value} {s0 : Int32} {h : AHp} : Rf d 173 12 [a0, a1, a2, a3] [.int s0] h = some (some (.int s0), h) := Rf_end (by rw [stp_of c173_12]; simp only [stpI]; rw [if_pos (show retI (mH 173).2.2.1 s0 = true from retI_int)])
-- 174: X12_even
theorem c174_0 : cd 174 0 = some (0, .iload_n 1, 1, []) := by decide +kernel
theorem x174_0 {d : Nat} {a0 a2 a3 a4 a5 a6 : Value} {x : Int32} {h : AHp} : Rf d 174 0 [a0, .int x, a2, a3, a4, a5, a6] [] h = Rf d 174 1 [a0, .int x, a2, a3, a4, a5, a6] [.int x] h := Rf_go ((stp_of c174_0).trans rfl)
theorem c174_1 : cd 174 1 = some (1, .iconst 0, 1, []) := by decide +kernel
theorem x174_1 {d : Nat} {a0 a1 a2 a3 a4 a5 a6 : Value} {s0 : Int32} {h : AHp} : Rf d 174 1 [a0, a1, a2, a3, a4, a5, a6] [.int s0] h = Rf d 174 2 [a0, a1, a2, a3, a4, a5, a6] [.int 0, .int s0] h := Rf_go ((stp_of c174_1).trans rfl)
theorem c174_2 : cd 174 2 = some (2, .bipush 99, 2, []) := by decide +kernel
theorem x174_2 {d : Nat} {a0 a1 a2 a3 a4 a5 a6 : Value} {s0 : Int32} {s1 : Int32} {h : AHp} : Rf d 174 2 [a0, a1, a2, a3, a4, a5, a6] [.int s0, .int s1] h = Rf d 174 4 [a0, a1, a2, a3, a4, a5, a6] [.int 99, .int s0, .int s1] h := Rf_go ((stp_of c174_2).trans rfl)
theorem c174_4 : cd 174 4 = some (4, .invokestatic 31, 3, [(0, 131)]) := by decide +kernel
theorem xc174_4 {d : Nat} {a0 a1 a2 a3 a4 a5 a6 : Value} {s0 : Int32} {s1 : Int32} {s2 : Int32} {h : AHp} {h1 : AHp} {v : Int32} (hq : Rf d 131 0 [.int s2, .int s1, .int s0] [] h = some (some (.int v), h1)) : Rf (d + 1) 174 4 [a0, a1, a2, a3, a4, a5, a6] [.int s0, .int s1, .int s2] h = Rf (d + 1) 174 7 [a0, a1, a2, a3, a4, a5, a6] [.int v] h1 := clS (as := [.int s2, .int s1, .int s0]) c174_4 rfl rfl (by simp [isV]) hq
theorem c174_7 : cd 174 7 = some (7, .ifCond .ne 6, 3, [(13, 0)]) := by decide +kernel
theorem x174_7 {d : Nat} {a0 a1 a2 a3 a4 a5 a6 : Value} {s0 : Int32} {h : AHp} : Rf d 174 7 [a0, a1, a2, a3, a4, a5, a6] [.int s0] h = if s0 = 0 then Rf d 174 10 [a0, a1, a2, a3, a4, a5, a6] [] h else Rf d 174 13 [a0, a1, a2, a3, a4, a5, a6] [] h := Rf_brn ((stp_of c174_7).trans rfl)
theorem c174_13 : cd 174 13 = some (13, .aload_n 0, 1, []) := by decide +kernel
theorem x174_13 {d : Nat} {a1 a2 a3 a4 a5 a6 : Value} {x : Nat} {h : AHp} : Rf d 174 13 [.ref x, a1, a2, a3, a4, a5, a6] [] h = Rf d 174 14 [.ref x, a1, a2, a3, a4, a5, a6] [.ref x] h := Rf_go ((stp_of c174_13).trans rfl)
theorem c174_14 : cd 174 14 = some (14, .invokevirtual 130, 3, [(12, 154)]) := by decide +kernel
theorem xc174_14 {d : Nat} {a0 a1 a2 a3 a4 a5 a6 : Value} {s0 : Nat} {h : AHp} {h1 : AHp} {v : Int32} (hr : cls (h.1 s0) = 12) (hq : Rf d 154 0 [.ref s0, noV, noV, noV, noV] [] h = some (some (.int v), h1)) : Rf (d + 1) 174 14 [a0, a1, a2, a3, a4, a5, a6] [.ref s0] h = Rf (d + 1) 174 17 [a0, a1, a2, a3, a4, a5, a6] [.int v] h1 := clV (c := 154) (as := []) c174_14 rfl (by simp [isV]) (by rw [hr]; rfl) hq
theorem c174_17 : cd 174 17 = some (17, .istore_n 2, 1, []) := by decide +kernel
theorem x174_17 {d : Nat} {a0 a1 a2 a3 a4 a5 a6 : Value} {s0 : Int32} {h : AHp} : Rf d 174 17 [a0, a1, a2, a3, a4, a5, a6] [.int s0] h = Rf d 174 18 [a0, a1, .int s0, a3, a4, a5, a6] [] h := Rf_go ((stp_of c174_17).trans rfl)
theorem c174_18 : cd 174 18 = some (18, .iload_n 2, 1, []) := by decide +kernel
theorem x174_18 {d : Nat} {a0 a1 a3 a4 a5 a6 : Value} {x : Int32} {h : AHp} : Rf d 174 18 [a0, a1, .int x, a3, a4, a5, a6] [] h = Rf d 174 19 [a0, a1, .int x, a3, a4, a5, a6] [.int x] h := Rf_go ((stp_of c174_18).trans rfl)
theorem c174_19 : cd 174 19 = some (19, .invokestatic 174, 3, [(0, 200)]) := by decide +kernel
theorem xc174_19 {d : Nat} {a0 a1 a2 a3 a4 a5 a6 : Value} {s0 : Int32} {h : AHp} {h1 : AHp} {v : Int32} (hq : Rf d 200 0 [.int s0] [] h = some (some (.int v), h1)) : Rf (d + 1) 174 19 [a0, a1, a2, a3, a4, a5, a6] [.int s0] h = Rf (d + 1) 174 22 [a0, a1, a2, a3, a4, a5, a6] [.int v] h1 := clS (as := [.int s0]) c174_19 rfl rfl (by simp [isV]) hq
theorem c174_22 : cd 174 22 = some (22, .iload_n 1, 1, []) := by decide +kernel
theorem x174_22 {d : Nat} {a0 a2 a3 a4 a5 a6 : Value} {s0 : Int32} {x : Int32} {h : AHp} : Rf d 174 22 [a0, .int x, a2, a3, a4, a5, a6] [.int s0] h = Rf d 174 23 [a0, .int x, a2, a3, a4, a5, a6] [.int x, .int s0] h := Rf_go ((stp_of c174_22).trans rfl)
theorem c174_23 : cd 174 23 = some (23, .if_icmp .gt 5, 3, [(28, 0)]) := by decide +kernel
theorem x174_23 {d : Nat} {a0 a1 a2 a3 a4 a5 a6 : Value} {s0 : Int32} {s1 : Int32} {h : AHp} : Rf d 174 23 [a0, a1, a2, a3, a4, a5, a6] [.int s0, .int s1] h = if s0 < s1 then Rf d 174 28 [a0, a1, a2, a3, a4, a5, a6] [] h else Rf d 174 26 [a0, a1, a2, a3, a4, a5, a6] [] h := Rf_brd ((stp_of c174_23).trans rfl)
theorem c174_28 : cd 174 28 = some (28, .iload_n 2, 1, []) := by decide +kernel
theorem x174_28 {d : Nat} {a0 a1 a3 a4 a5 a6 : Value} {x : Int32} {h : AHp} : Rf d 174 28 [a0, a1, .int x, a3, a4, a5, a6] [] h = Rf d 174 29 [a0, a1, .int x, a3, a4, a5, a6] [.int x] h := Rf_go ((stp_of c174_28).trans rfl)
theorem c174_29 : cd 174 29 = some (29, .ifCond .ge 7, 3, [(36, 0)]) := by decide +kernel
theorem x174_29 {d : Nat} {a0 a1 a2 a3 a4 a5 a6 : Value} {s0 : Int32} {h : AHp} : Rf d 174 29 [a0, a1, a2, a3, a4, a5, a6] [.int s0] h = if s0 < 0 then Rf d 174 32 [a0, a1, a2, a3, a4, a5, a6] [] h else Rf d 174 36 [a0, a1, a2, a3, a4, a5, a6] [] h := Rf_brn ((stp_of c174_29).trans rfl)
theorem c174_36 : cd 174 36 = some (36, .iconst 1, 1, []) := by decide +kernel
theorem x174_36 {d : Nat} {a0 a1 a2 a3 a4 a5 a6 : Value} {h : AHp} : Rf d 174 36 [a0, a1, a2, a3, a4, a5, a6] [] h = Rf d 174 37 [a0, a1, a2, a3, a4, a5, a6] [.int 1] h := Rf_go ((stp_of c174_36).trans rfl)
theorem c174_37 : cd 174 37 = some (37, .istore_n 3, 1, []) := by decide +kernel
theorem x174_37 {d : Nat} {a0 a1 a2 a3 a4 a5 a6 : Value} {s0 : Int32} {h : AHp} : Rf d 174 37 [a0, a1, a2, a3, a4, a5, a6] [.int s0] h = Rf d 174 38 [a0, a1, a2, .int s0, a4, a5, a6] [] h := Rf_go ((stp_of c174_37).trans rfl)
theorem c174_38 : cd 174 38 = some (38, .iconst 0, 1, []) := by decide +kernel
theorem x174_38 {d : Nat} {a0 a1 a2 a3 a4 a5 a6 : Value} {h : AHp} : Rf d 174 38 [a0, a1, a2, a3, a4, a5, a6] [] h = Rf d 174 39 [a0, a1, a2, a3, a4, a5, a6] [.int 0] h := Rf_go ((stp_of c174_38).trans rfl)
theorem c174_39 : cd 174 39 = some (39, .istore 4, 2, []) := by decide +kernel
theorem x174_39 {d : Nat} {a0 a1 a2 a3 a4 a5 a6 : Value} {s0 : Int32} {h : AHp} : Rf d 174 39 [a0, a1, a2, a3, a4, a5, a6] [.int s0] h = Rf d 174 41 [a0, a1, a2, a3, .int s0, a5, a6] [] h := Rf_go ((stp_of c174_39).trans rfl)
theorem c174_41 : cd 174 41 = some (41, .iconst 0, 1, []) := by decide +kernel
theorem x174_41 {d : Nat} {a0 a1 a2 a3 a4 a5 a6 : Value} {h : AHp} : Rf d 174 41 [a0, a1, a2, a3, a4, a5, a6] [] h = Rf d 174 42 [a0, a1, a2, a3, a4, a5, a6] [.int 0] h := Rf_go ((stp_of c174_41).trans rfl)
theorem c174_42 : cd 174 42 = some (42, .istore 5, 2, []) := by decide +kernel
theorem x174_42 {d : Nat} {a0 a1 a2 a3 a4 a5 a6 : Value} {s0 : Int32} {h : AHp} : Rf d 174 42 [a0, a1, a2, a3, a4, a5, a6] [.int s0] h = Rf d 174 44 [a0, a1, a2, a3, a4, .int s0, a6] [] h := Rf_go ((stp_of c174_42).trans rfl)
theorem c174_44 : cd 174 44 = some (44, .iconst 0, 1, []) := by decide +kernel
theorem x174_44 {d : Nat} {a0 a1 a2 a3 a4 a5 a6 : Value} {h : AHp} : Rf d 174 44 [a0, a1, a2, a3, a4, a5, a6] [] h = Rf d 174 45 [a0, a1, a2, a3, a4, a5, a6] [.int 0] h := Rf_go ((stp_of c174_44).trans rfl)
theorem c174_45 : cd 174 45 = some (45, .istore 6, 2, []) := by decide +kernel
theorem x174_45 {d : Nat} {a0 a1 a2 a3 a4 a5 a6 : Value} {s0 : Int32} {h : AHp} : Rf d 174 45 [a0, a1, a2, a3, a4, a5, a6] [.int s0] h = Rf d 174 47 [a0, a1, a2, a3, a4, a5, .int s0] [] h := Rf_go ((stp_of c174_45).trans rfl)
theorem c174_47 : cd 174 47 = some (47, .iload 6, 2, []) := by decide +kernel
theorem x174_47 {d : Nat} {a0 a1 a2 a3 a4 a5 : Value} {x : Int32} {h : AHp} : Rf d 174 47 [a0, a1, a2, a3, a4, a5, .int x] [] h = Rf d 174 49 [a0, a1, a2, a3, a4, a5, .int x] [.int x] h := Rf_go ((stp_of c174_47).trans rfl)
theorem c174_49 : cd 174 49 = some (49, .aload_n 0, 1, []) := by decide +kernel
theorem x174_49 {d : Nat} {a1 a2 a3 a4 a5 a6 : Value} {s0 : Int32} {x : Nat} {h : AHp} : Rf d 174 49 [.ref x, a1, a2, a3, a4, a5, a6] [.int s0] h = Rf d 174 50 [.ref x, a1, a2, a3, a4, a5, a6] [.ref x, .int s0] h := Rf_go ((stp_of c174_49).trans rfl)
theorem c174_50 : cd 174 50 = some (50, .getfield 9, 3, [(12, 0)]) := by decide +kernel
theorem x174_50 {d : Nat} {a0 a1 a2 a3 a4 a5 a6 : Value} {s0 : Nat} {s1 : Int32} {h : AHp} : Rf d 174 50 [a0, a1, a2, a3, a4, a5, a6] [.ref s0, .int s1] h = if cls (h.1 s0) = 12 ∧ oKr (h.1 s0) 0 = true then Rf d 174 53 [a0, a1, a2, a3, a4, a5, a6] [.ref (oR (h.1 s0) 0), .int s1] h else Rx d 174 50 [a0, a1, a2, a3, a4, a5, a6] [.ref s0, .int s1] h := getR c174_50
theorem c174_53 : cd 174 53 = some (53, .iconst 0, 1, []) := by decide +kernel
theorem x174_53 {d : Nat} {a0 a1 a2 a3 a4 a5 a6 : Value} {s0 : Nat} {s1 : Int32} {h : AHp} : Rf d 174 53 [a0, a1, a2, a3, a4, a5, a6] [.ref s0, .int s1] h = Rf d 174 54 [a0, a1, a2, a3, a4, a5, a6] [.int 0, .ref s0, .int s1] h := Rf_go ((stp_of c174_53).trans rfl)
theorem c174_54 : cd 174 54 = some (54, .iaload, 1, []) := by decide +kernel
theorem x174_54 {d : Nat} {a0 a1 a2 a3 a4 a5 a6 : Value} {s0 : Int32} {s1 : Nat} {s2 : Int32} {h : AHp} : Rf d 174 54 [a0, a1, a2, a3, a4, a5, a6] [.int s0, .ref s1, .int s2] h = if (aT (h.1 s1) = 0 ∨ aT (h.1 s1) = 10) ∧ inB s0 (aN (h.1 s1)) = true then Rf d 174 55 [a0, a1, a2, a3, a4, a5, a6] [.int (aF (h.1 s1) s0.toNatClampNeg), .int s2] h else Rx d 174 54 [a0, a1, a2, a3, a4, a5, a6] [.int s0, .ref s1, .int s2] h := ldI c174_54
theorem c174_55 : cd 174 55 = some (55, .if_icmp .ge 44, 3, [(99, 0)]) := by decide +kernel
theorem x174_55 {d : Nat} {a0 a1 a2 a3 a4 a5 a6 : Value} {s0 : Int32} {s1 : Int32} {h : AHp} : Rf d 174 55 [a0, a1, a2, a3, a4, a5, a6] [.int s0, .int s1] h = if s1 < s0 then Rf d 174 58 [a0, a1, a2, a3, a4, a5, a6] [] h else Rf d 174 99 [a0, a1, a2, a3, a4, a5, a6] [] h := Rf_brn ((stp_of c174_55).trans rfl)
theorem c174_99 : cd 174 99 = some (99, .iload 4, 2, []) := by decide +kernel
theorem x174_99 {d : Nat} {a0 a1 a2 a3 a5 a6 : Value} {x : Int32} {h : AHp} : Rf d 174 99 [a0, a1, a2, a3, .int x, a5, a6] [] h = Rf d 174 101 [a0, a1, a2, a3, .int x, a5, a6] [.int x] h := Rf_go ((stp_of c174_99).trans rfl)
theorem c174_101 : cd 174 101 = some (101, .iload 5, 2, []) := by decide +kernel
theorem x174_101 {d : Nat} {a0 a1 a2 a3 a4 a6 : Value} {s0 : Int32} {x : Int32} {h : AHp} : Rf d 174 101 [a0, a1, a2, a3, a4, .int x, a6] [.int s0] h = Rf d 174 103 [a0, a1, a2, a3, a4, .int x, a6] [.int x, .int s0] h := Rf_go ((stp_of c174_101).trans rfl)
theorem c174_103 : cd 174 103 = some (103, .idiv, 1, []) := by decide +kernel
theorem x174_103 {d : Nat} {a0 a1 a2 a3 a4 a5 a6 : Value} {s0 : Int32} {s1 : Int32} {h : AHp} : Rf d 174 103 [a0, a1, a2, a3, a4, a5, a6] [.int s0, .int s1] h = if ¬ s0 = 0 then Rf d 174 104 [a0, a1, a2, a3, a4, a5, a6] [.int (s1 / s0)] h else Rx d 174 103 [a0, a1, a2, a3, a4, a5, a6] [.int s0, .int s1] h := divE c174_103 (fun _ _ _ => rfl)
theorem c174_104 : cd 174 104 = some (104, .iload_n 2, 1, []) := by decide +kernel
theorem x174_104 {d : Nat} {a0 a1 a3 a4 a5 a6 : Value} {s0 : Int32} {x : Int32} {h : AHp} : Rf d 174 104 [a0, a1, .int x, a3, a4, a5, a6] [.int s0] h = Rf d 174 105 [a0, a1, .int x, a3, a4, a5, a6] [.int x, .int s0] h := Rf_go ((stp_of c174_104).trans rfl)
theorem c174_105 : cd 174 105 = some (105, .invokestatic 174, 3, [(0, 200)]) := by decide +kernel
theorem xc174_105 {d : Nat} {a0 a1 a2 a3 a4 a5 a6 : Value} {s0 : Int32} {s1 : Int32} {h : AHp} {h1 : AHp} {v : Int32} (hq : Rf d 200 0 [.int s0] [] h = some (some (.int v), h1)) : Rf (d + 1) 174 105 [a0, a1, a2, a3, a4, a5, a6] [.int s0, .int s1] h = Rf (d + 1) 174 108 [a0, a1, a2, a3, a4, a5, a6] [.int v, .int s1] h1 := clS (as := [.int s0]) c174_105 rfl rfl (by simp [isV]) hq
theorem c174_108 : cd 174 108 = some (108, .iadd, 1, []) := by decide +kernel
theorem x174_108 {d : Nat} {a0 a1 a2 a3 a4 a5 a6 : Value} {s0 : Int32} {s1 : Int32} {h : AHp} : Rf d 174 108 [a0, a1, a2, a3, a4, a5, a6] [.int s0, .int s1] h = Rf d 174 109 [a0, a1, a2, a3, a4, a5, a6] [.int (s1 + s0)] h := Rf_go ((stp_of c174_108).trans rfl)
theorem c174_109 : cd 174 109 = some (109, .iload_n 1, 1, []) := by decide +kernel
theorem x174_109 {d : Nat} {a0 a2 a3 a4 a5 a6 : Value} {s0 : Int32} {x : Int32} {h : AHp} : Rf d 174 109 [a0, .int x, a2, a3, a4, a5, a6] [.int s0] h = Rf d 174 110 [a0, .int x, a2, a3, a4, a5, a6] [.int x, .int s0] h := Rf_go ((stp_of c174_109).trans rfl)
theorem c174_110 : cd 174 110 = some (110, .isub, 1, []) := by decide +kernel
theorem x174_110 {d : Nat} {a0 a1 a2 a3 a4 a5 a6 : Value} {s0 : Int32} {s1 : Int32} {h : AHp} : Rf d 174 110 [a0, a1, a2, a3, a4, a5, a6] [.int s0, .int s1] h = Rf d 174 111 [a0, a1, a2, a3, a4, a5, a6] [.int (s1 - s0)] h := Rf_go ((stp_of c174_110).trans rfl)
theorem c174_111 : cd 174 111 = some (111, .istore 6, 2, []) := by decide +kernel
theorem x174_111 {d : Nat} {a0 a1 a2 a3 a4 a5 a6 : Value} {s0 : Int32} {h : AHp} : Rf d 174 111 [a0, a1, a2, a3, a4, a5, a6] [.int s0] h = Rf d 174 113 [a0, a1, a2, a3, a4, a5, .int s0] [] h := Rf_go ((stp_of c174_111).trans rfl)
theorem c174_113 : cd 174 113 = some (113, .iload 6, 2, []) := by decide +kernel
theorem x174_113 {d : Nat} {a0 a1 a2 a3 a4 a5 : Value} {x : Int32} {h : AHp} : Rf d 174 113 [a0, a1, a2, a3, a4, a5, .int x] [] h = Rf d 174 115 [a0, a1, a2, a3, a4, a5, .int x] [.int x] h := Rf_go ((stp_of c174_113).trans rfl)
theorem c174_115 : cd 174 115 = some (115, .iload 5, 2, []) := by decide +kernel
theorem x174_115 {d : Nat} {a0 a1 a2 a3 a4 a6 : Value} {s0 : Int32} {x : Int32} {h : AHp} : Rf d 174 115 [a0, a1, a2, a3, a4, .int x, a6] [.int s0] h = Rf d 174 117 [a0, a1, a2, a3, a4, .int x, a6] [.int x, .int s0] h := Rf_go ((stp_of c174_115).trans rfl)
theorem c174_117 : cd 174 117 = some (117, .imul, 1, []) := by decide +kernel
theorem x174_117 {d : Nat} {a0 a1 a2 a3 a4 a5 a6 : Value} {s0 : Int32} {s1 : Int32} {h : AHp} : Rf d 174 117 [a0, a1, a2, a3, a4, a5, a6] [.int s0, .int s1] h = Rf d 174 118 [a0, a1, a2, a3, a4, a5, a6] [.int (s1 * s0)] h := Rf_go ((stp_of c174_117).trans rfl)
theorem c174_118 : cd 174 118 = some (118, .iload 4, 2, []) := by decide +kernel
theorem x174_118 {d : Nat} {a0 a1 a2 a3 a5 a6 : Value} {s0 : Int32} {x : Int32} {h : AHp} : Rf d 174 118 [a0, a1, a2, a3, .int x, a5, a6] [.int s0] h = Rf d 174 120 [a0, a1, a2, a3, .int x, a5, a6] [.int x, .int s0] h := Rf_go ((stp_of c174_118).trans rfl)
theorem c174_120 : cd 174 120 = some (120, .isub, 1, []) := by decide +kernel
theorem x174_120 {d : Nat} {a0 a1 a2 a3 a4 a5 a6 : Value} {s0 : Int32} {s1 : Int32} {h : AHp} : Rf d 174 120 [a0, a1, a2, a3, a4, a5, a6] [.int s0, .int s1] h = Rf d 174 121 [a0, a1, a2, a3, a4, a5, a6] [.int (s1 - s0)] h := Rf_go ((stp_of c174_120).trans rfl)
theorem c174_121 : cd 174 121 = some (121, .ireturn, 1, []) := by decide +kernel
theorem x174_121 {d : Nat} {a0 a1 a2 a3 a4 a5 a6 : Value} {s0 : Int32} {h : AHp} : Rf d 174 121 [a0, a1, a2, a3, a4, a5, a6] [.int s0] h = some (some (.int s0), h) := Rf_end (by rw [stp_of c174_121]; simp only [stpI]; rw [if_pos (show retI (mH 174).2.2.1 s0 = true from retI_int)])
theorem c174_58 : cd 174 58 = some (58, .aload_n 0, 1, []) := by decide +kernel
theorem x174_58 {d : Nat} {a1 a2 a3 a4 a5 a6 : Value} {x : Nat} {h : AHp} : Rf d 174 58 [.ref x, a1, a2, a3, a4, a5, a6] [] h = Rf d 174 59 [.ref x, a1, a2, a3, a4, a5, a6] [.ref x] h := Rf_go ((stp_of c174_58).trans rfl)
theorem c174_59 : cd 174 59 = some (59, .getfield 9, 3, [(12, 0)]) := by decide +kernel
theorem x174_59 {d : Nat} {a0 a1 a2 a3 a4 a5 a6 : Value} {s0 : Nat} {h : AHp} : Rf d 174 59 [a0, a1, a2, a3, a4, a5, a6] [.ref s0] h = if cls (h.1 s0) = 12 ∧ oKr (h.1 s0) 0 = true then Rf d 174 62 [a0, a1, a2, a3, a4, a5, a6] [.ref (oR (h.1 s0) 0)] h else Rx d 174 59 [a0, a1, a2, a3, a4, a5, a6] [.ref s0] h := getR c174_59
theorem c174_62 : cd 174 62 = some (62, .bipush 40, 2, []) := by decide +kernel
theorem x174_62 {d : Nat} {a0 a1 a2 a3 a4 a5 a6 : Value} {s0 : Nat} {h : AHp} : Rf d 174 62 [a0, a1, a2, a3, a4, a5, a6] [.ref s0] h = Rf d 174 64 [a0, a1, a2, a3, a4, a5, a6] [.int 40, .ref s0] h := Rf_go ((stp_of c174_62).trans rfl)
theorem c174_64 : cd 174 64 = some (64, .iload 6, 2, []) := by decide +kernel
theorem x174_64 {d : Nat} {a0 a1 a2 a3 a4 a5 : Value} {s0 : Int32} {s1 : Nat} {x : Int32} {h : AHp} : Rf d 174 64 [a0, a1, a2, a3, a4, a5, .int x] [.int s0, .ref s1] h = Rf d 174 66 [a0, a1, a2, a3, a4, a5, .int x] [.int x, .int s0, .ref s1] h := Rf_go ((stp_of c174_64).trans rfl)
theorem c174_66 : cd 174 66 = some (66, .iadd, 1, []) := by decide +kernel
theorem x174_66 {d : Nat} {a0 a1 a2 a3 a4 a5 a6 : Value} {s0 : Int32} {s1 : Int32} {s2 : Nat} {h : AHp} : Rf d 174 66 [a0, a1, a2, a3, a4, a5, a6] [.int s0, .int s1, .ref s2] h = Rf d 174 67 [a0, a1, a2, a3, a4, a5, a6] [.int (s1 + s0), .ref s2] h := Rf_go ((stp_of c174_66).trans rfl)
theorem c174_67 : cd 174 67 = some (67, .iaload, 1, []) := by decide +kernel
theorem x174_67 {d : Nat} {a0 a1 a2 a3 a4 a5 a6 : Value} {s0 : Int32} {s1 : Nat} {h : AHp} : Rf d 174 67 [a0, a1, a2, a3, a4, a5, a6] [.int s0, .ref s1] h = if (aT (h.1 s1) = 0 ∨ aT (h.1 s1) = 10) ∧ inB s0 (aN (h.1 s1)) = true then Rf d 174 68 [a0, a1, a2, a3, a4, a5, a6] [.int (aF (h.1 s1) s0.toNatClampNeg)] h else Rx d 174 67 [a0, a1, a2, a3, a4, a5, a6] [.int s0, .ref s1] h := ldI c174_67
theorem c174_68 : cd 174 68 = some (68, .iload_n 3, 1, []) := by decide +kernel
theorem x174_68 {d : Nat} {a0 a1 a2 a4 a5 a6 : Value} {s0 : Int32} {x : Int32} {h : AHp} : Rf d 174 68 [a0, a1, a2, .int x, a4, a5, a6] [.int s0] h = Rf d 174 69 [a0, a1, a2, .int x, a4, a5, a6] [.int x, .int s0] h := Rf_go ((stp_of c174_68).trans rfl)
theorem c174_69 : cd 174 69 = some (69, .if_icmp .eq 6, 3, [(75, 0)]) := by decide +kernel
theorem x174_69 {d : Nat} {a0 a1 a2 a3 a4 a5 a6 : Value} {s0 : Int32} {s1 : Int32} {h : AHp} : Rf d 174 69 [a0, a1, a2, a3, a4, a5, a6] [.int s0, .int s1] h = if s1 = s0 then Rf d 174 75 [a0, a1, a2, a3, a4, a5, a6] [] h else Rf d 174 72 [a0, a1, a2, a3, a4, a5, a6] [] h := Rf_brd ((stp_of c174_69).trans rfl)
theorem c174_75 : cd 174 75 = some (75, .iload 4, 2, []) := by decide +kernel
theorem x174_75 {d : Nat} {a0 a1 a2 a3 a5 a6 : Value} {x : Int32} {h : AHp} : Rf d 174 75 [a0, a1, a2, a3, .int x, a5, a6] [] h = Rf d 174 77 [a0, a1, a2, a3, .int x, a5, a6] [.int x] h := Rf_go ((stp_of c174_75).trans rfl)
theorem c174_77 : cd 174 77 = some (77, .aload_n 0, 1, []) := by decide +kernel
theorem x174_77 {d : Nat} {a1 a2 a3 a4 a5 a6 : Value} {s0 : Int32} {x : Nat} {h : AHp} : Rf d 174 77 [.ref x, a1, a2, a3, a4, a5, a6] [.int s0] h = Rf d 174 78 [.ref x, a1, a2, a3, a4, a5, a6] [.ref x, .int s0] h := Rf_go ((stp_of c174_77).trans rfl)
theorem c174_78 : cd 174 78 = some (78, .getfield 9, 3, [(12, 0)]) := by decide +kernel
theorem x174_78 {d : Nat} {a0 a1 a2 a3 a4 a5 a6 : Value} {s0 : Nat} {s1 : Int32} {h : AHp} : Rf d 174 78 [a0, a1, a2, a3, a4, a5, a6] [.ref s0, .int s1] h = if cls (h.1 s0) = 12 ∧ oKr (h.1 s0) 0 = true then Rf d 174 81 [a0, a1, a2, a3, a4, a5, a6] [.ref (oR (h.1 s0) 0), .int s1] h else Rx d 174 78 [a0, a1, a2, a3, a4, a5, a6] [.ref s0, .int s1] h := getR c174_78
theorem c174_81 : cd 174 81 = some (81, .bipush 20, 2, []) := by decide +kernel
theorem x174_81 {d : Nat} {a0 a1 a2 a3 a4 a5 a6 : Value} {s0 : Nat} {s1 : Int32} {h : AHp} : Rf d 174 81 [a0, a1, a2, a3, a4, a5, a6] [.ref s0, .int s1] h = Rf d 174 83 [a0, a1, a2, a3, a4, a5, a6] [.int 20, .ref s0, .int s1] h := Rf_go ((stp_of c174_81).trans rfl)
theorem c174_83 : cd 174 83 = some (83, .iload 6, 2, []) := by decide +kernel
theorem x174_83 {d : Nat} {a0 a1 a2 a3 a4 a5 : Value} {s0 : Int32} {s1 : Nat} {s2 : Int32} {x : Int32} {h : AHp} : Rf d 174 83 [a0, a1, a2, a3, a4, a5, .int x] [.int s0, .ref s1, .int s2] h = Rf d 174 85 [a0, a1, a2, a3, a4, a5, .int x] [.int x, .int s0, .ref s1, .int s2] h := Rf_go ((stp_of c174_83).trans rfl)
theorem c174_85 : cd 174 85 = some (85, .iadd, 1, []) := by decide +kernel
theorem x174_85 {d : Nat} {a0 a1 a2 a3 a4 a5 a6 : Value} {s0 : Int32} {s1 : Int32} {s2 : Nat} {s3 : Int32} {h : AHp} : Rf d 174 85 [a0, a1, a2, a3, a4, a5, a6] [.int s0, .int s1, .ref s2, .int s3] h = Rf d 174 86 [a0, a1, a2, a3, a4, a5, a6] [.int (s1 + s0), .ref s2, .int s3] h := Rf_go ((stp_of c174_85).trans rfl)
theorem c174_86 : cd 174 86 = some (86, .iaload, 1, []) := by decide +kernel
theorem x174_86 {d : Nat} {a0 a1 a2 a3 a4 a5 a6 : Value} {s0 : Int32} {s1 : Nat} {s2 : Int32} {h : AHp} : Rf d 174 86 [a0, a1, a2, a3, a4, a5, a6] [.int s0, .ref s1, .int s2] h = if (aT (h.1 s1) = 0 ∨ aT (h.1 s1) = 10) ∧ inB s0 (aN (h.1 s1)) = true then Rf d 174 87 [a0, a1, a2, a3, a4, a5, a6] [.int (aF (h.1 s1) s0.toNatClampNeg), .int s2] h else Rx d 174 86 [a0, a1, a2, a3, a4, a5, a6] [.int s0, .ref s1, .int s2] h := ldI c174_86
theorem c174_87 : cd 174 87 = some (87, .iadd, 1, []) := by decide +kernel
theorem x174_87 {d : Nat} {a0 a1 a2 a3 a4 a5 a6 : Value} {s0 : Int32} {s1 : Int32} {h : AHp} : Rf d 174 87 [a0, a1, a2, a3, a4, a5, a6] [.int s0, .int s1] h = Rf d 174 88 [a0, a1, a2, a3, a4, a5, a6] [.int (s1 + s0)] h := Rf_go ((stp_of c174_87).trans rfl)
theorem c174_88 : cd 174 88 = some (88, .istore 4, 2, []) := by decide +kernel
theorem x174_88 {d : Nat} {a0 a1 a2 a3 a4 a5 a6 : Value} {s0 : Int32} {h : AHp} : Rf d 174 88 [a0, a1, a2, a3, a4, a5, a6] [.int s0] h = Rf d 174 90 [a0, a1, a2, a3, .int s0, a5, a6] [] h := Rf_go ((stp_of c174_88).trans rfl)
theorem c174_90 : cd 174 90 = some (90, .iinc 5 1, 3, []) := by decide +kernel
theorem x174_90 {d : Nat} {a0 a1 a2 a3 a4 a6 : Value} {x : Int32} {h : AHp} : Rf d 174 90 [a0, a1, a2, a3, a4, .int x, a6] [] h = Rf d 174 93 [a0, a1, a2, a3, a4, .int (x + 1), a6] [] h := Rf_go ((stp_of c174_90).trans rfl)
theorem c174_93 : cd 174 93 = some (93, .iinc 6 1, 3, []) := by decide +kernel
theorem x174_93 {d : Nat} {a0 a1 a2 a3 a4 a5 : Value} {x : Int32} {h : AHp} : Rf d 174 93 [a0, a1, a2, a3, a4, a5, .int x] [] h = Rf d 174 96 [a0, a1, a2, a3, a4, a5, .int (x + 1)] [] h := Rf_go ((stp_of c174_93).trans rfl)
theorem c174_96 : cd 174 96 = some (96, .goto (-49), 3, [(47, 0)]) := by decide +kernel
theorem x174_96 {d : Nat} {a0 a1 a2 a3 a4 a5 a6 : Value} {h : AHp} : Rf d 174 96 [a0, a1, a2, a3, a4, a5, a6] [] h = Rf d 174 47 [a0, a1, a2, a3, a4, a5, a6] [] h := Rf_go ((stp_of c174_96).trans rfl)
theorem c174_72 : cd 174 72 = some (72, .goto 21, 3, [(93, 0)]) := by decide +kernel
theorem x174_72 {d : Nat} {a0 a1 a2 a3 a4 a5 a6 : Value} {h : AHp} : Rf d 174 72 [a0, a1, a2, a3, a4, a5, a6] [] h = Rf d 174 93 [a0, a1, a2, a3, a4, a5, a6] [] h := Rf_go ((stp_of c174_72).trans rfl)
theorem c174_32 : cd 174 32 = some (32, .iconst 0, 1, []) := by decide +kernel
theorem x174_32 {d : Nat} {a0 a1 a2 a3 a4 a5 a6 : Value} {h : AHp} : Rf d 174 32 [a0, a1, a2, a3, a4, a5, a6] [] h = Rf d 174 33 [a0, a1, a2, a3, a4, a5, a6] [.int 0] h := Rf_go ((stp_of c174_32).trans rfl)
theorem c174_33 : cd 174 33 = some (33, .goto 4, 3, [(37, 0)]) := by decide +kernel
theorem x174_33 {d : Nat} {a0 a1 a2 a3 a4 a5 a6 : Value} {s0 : Int32} {h : AHp} : Rf d 174 33 [a0, a1, a2, a3, a4, a5, a6] [.int s0] h = Rf d 174 37 [a0, a1, a2, a3, a4, a5, a6] [.int s0] h := Rf_go ((stp_of c174_33).trans rfl)
theorem c174_26 : cd 174 26 = some (26, .iconst 0, 1, []) := by decide +kernel
theorem x174_26 {d : Nat} {a0 a1 a2 a3 a4 a5 a6 : Value} {h : AHp} : Rf d 174 26 [a0, a1, a2, a3, a4, a5, a6] [] h = Rf d 174 27 [a0, a1, a2, a3, a4, a5, a6] [.int 0] h := Rf_go ((stp_of c174_26).trans rfl)
theorem c174_27 : cd 174 27 = some (27, .ireturn, 1, []) := by decide +kernel
theorem x174_27 {d : Nat} {a0 a1 a2 a3 a4 a5 a6 : Value} {s0 : Int32} {h : AHp} : Rf d 174 27 [a0, a1, a2, a3, a4, a5, a6] [.int s0] h = some (some (.int s0), h) := Rf_end (by rw [stp_of c174_27]; simp only [stpI]; rw [if_pos (show retI (mH 174).2.2.1 s0 = true from retI_int)])
theorem c174_10 : cd 174 10 = some (10, .bipush (-2), 2, []) := by decide +kernel
theorem x174_10 {d : Nat} {a0 a1 a2 a3 a4 a5 a6 : Value} {h : AHp} : Rf d 174 10 [a0, a1, a2, a3, a4, a5, a6] [] h = Rf d 174 12 [a0, a1, a2, a3, a4, a5, a6] [.int (-2)] h := Rf_go ((stp_of c174_10).trans rfl)
theorem c174_12 : cd 174 12 = some (12, .ireturn, 1, []) := by decide +kernel
theorem x174_12 {d : Nat} {a0 a1 a2 a3 a4 a5 a6 : Value} {s0 : Int32} {h : AHp} : Rf d 174 12 [a0, a1, a2, a3, a4, a5, a6] [.int s0] h = some (some (.int s0), h) := Rf_end (by rw [stp_of c174_12]; simp only [stpI]; rw [if_pos (show retI (mH 174).2.2.1 s0 = true from retI_int)])
-- 175: X12_spread
theorem c175_0 : cd 175 0 = some (0, .aload_n 0, 1, []) := by decide +kernel
theorem x175_0 {d : Nat} {a1 a2 a3 a4 a5 : Value} {x : Nat} {h : AHp} : Rf d 175 0 [.ref x, a1, a2, a3, a4, a5] [] h = Rf d 175 1 [.ref x, a1, a2, a3, a4, a5] [.ref x] h := Rf_go ((stp_of c175_0).trans rfl)
theorem c175_1 : cd 175 1 = some (1, .iload_n 1, 1, []) := by decide +kernel
theorem x175_1 {d : Nat} {a0 a2 a3 a4 a5 : Value} {s0 : Nat} {x : Int32} {h : AHp} : Rf d 175 1 [a0, .int x, a2, a3, a4, a5] [.ref s0] h = Rf d 175 2 [a0, .int x, a2, a3, a4, a5] [.int x, .ref s0] h := Rf_go ((stp_of c175_1).trans rfl)
theorem c175_2 : cd 175 2 = some (2, .invokevirtual 140, 3, [(12, 132)]) := by decide +kernel
theorem xc175_2 {d : Nat} {a0 a1 a2 a3 a4 a5 : Value} {s0 : Int32} {s1 : Nat} {h : AHp} {h1 : AHp} {v : Int32} (hr : cls (h.1 s1) = 12) (hq : Rf d 132 0 [.ref s1, .int s0] [] h = some (some (.int v), h1)) : Rf (d + 1) 175 2 [a0, a1, a2, a3, a4, a5] [.int s0, .ref s1] h = Rf (d + 1) 175 5 [a0, a1, a2, a3, a4, a5] [.int v] h1 := clV (c := 132) (as := [.int s0]) c175_2 rfl (by simp [isV]) (by rw [hr]; rfl) hq
theorem c175_5 : cd 175 5 = some (5, .ifCond .ne 5, 3, [(10, 0)]) := by decide +kernel
theorem x175_5 {d : Nat} {a0 a1 a2 a3 a4 a5 : Value} {s0 : Int32} {h : AHp} : Rf d 175 5 [a0, a1, a2, a3, a4, a5] [.int s0] h = if s0 = 0 then Rf d 175 8 [a0, a1, a2, a3, a4, a5] [] h else Rf d 175 10 [a0, a1, a2, a3, a4, a5] [] h := Rf_brn ((stp_of c175_5).trans rfl)
theorem c175_10 : cd 175 10 = some (10, .iload_n 2, 1, []) := by decide +kernel
theorem x175_10 {d : Nat} {a0 a1 a3 a4 a5 : Value} {x : Int32} {h : AHp} : Rf d 175 10 [a0, a1, .int x, a3, a4, a5] [] h = Rf d 175 11 [a0, a1, .int x, a3, a4, a5] [.int x] h := Rf_go ((stp_of c175_10).trans rfl)
theorem c175_11 : cd 175 11 = some (11, .iconst 0, 1, []) := by decide +kernel
theorem x175_11 {d : Nat} {a0 a1 a2 a3 a4 a5 : Value} {s0 : Int32} {h : AHp} : Rf d 175 11 [a0, a1, a2, a3, a4, a5] [.int s0] h = Rf d 175 12 [a0, a1, a2, a3, a4, a5] [.int 0, .int s0] h := Rf_go ((stp_of c175_11).trans rfl)
theorem c175_12 : cd 175 12 = some (12, .bipush 99, 2, []) := by decide +kernel
theorem x175_12 {d : Nat} {a0 a1 a2 a3 a4 a5 : Value} {s0 : Int32} {s1 : Int32} {h : AHp} : Rf d 175 12 [a0, a1, a2, a3, a4, a5] [.int s0, .int s1] h = Rf d 175 14 [a0, a1, a2, a3, a4, a5] [.int 99, .int s0, .int s1] h := Rf_go ((stp_of c175_12).trans rfl)
theorem c175_14 : cd 175 14 = some (14, .invokestatic 31, 3, [(0, 131)]) := by decide +kernel
theorem xc175_14 {d : Nat} {a0 a1 a2 a3 a4 a5 : Value} {s0 : Int32} {s1 : Int32} {s2 : Int32} {h : AHp} {h1 : AHp} {v : Int32} (hq : Rf d 131 0 [.int s2, .int s1, .int s0] [] h = some (some (.int v), h1)) : Rf (d + 1) 175 14 [a0, a1, a2, a3, a4, a5] [.int s0, .int s1, .int s2] h = Rf (d + 1) 175 17 [a0, a1, a2, a3, a4, a5] [.int v] h1 := clS (as := [.int s2, .int s1, .int s0]) c175_14 rfl rfl (by simp [isV]) hq
theorem c175_17 : cd 175 17 = some (17, .ifCond .ne 6, 3, [(23, 0)]) := by decide +kernel
theorem x175_17 {d : Nat} {a0 a1 a2 a3 a4 a5 : Value} {s0 : Int32} {h : AHp} : Rf d 175 17 [a0, a1, a2, a3, a4, a5] [.int s0] h = if s0 = 0 then Rf d 175 20 [a0, a1, a2, a3, a4, a5] [] h else Rf d 175 23 [a0, a1, a2, a3, a4, a5] [] h := Rf_brn ((stp_of c175_17).trans rfl)
theorem c175_23 : cd 175 23 = some (23, .aload_n 0, 1, []) := by decide +kernel
theorem x175_23 {d : Nat} {a1 a2 a3 a4 a5 : Value} {x : Nat} {h : AHp} : Rf d 175 23 [.ref x, a1, a2, a3, a4, a5] [] h = Rf d 175 24 [.ref x, a1, a2, a3, a4, a5] [.ref x] h := Rf_go ((stp_of c175_23).trans rfl)
theorem c175_24 : cd 175 24 = some (24, .getfield 9, 3, [(12, 0)]) := by decide +kernel
theorem x175_24 {d : Nat} {a0 a1 a2 a3 a4 a5 : Value} {s0 : Nat} {h : AHp} : Rf d 175 24 [a0, a1, a2, a3, a4, a5] [.ref s0] h = if cls (h.1 s0) = 12 ∧ oKr (h.1 s0) 0 = true then Rf d 175 27 [a0, a1, a2, a3, a4, a5] [.ref (oR (h.1 s0) 0)] h else Rx d 175 24 [a0, a1, a2, a3, a4, a5] [.ref s0] h := getR c175_24
theorem c175_27 : cd 175 27 = some (27, .bipush 20, 2, []) := by decide +kernel
theorem x175_27 {d : Nat} {a0 a1 a2 a3 a4 a5 : Value} {s0 : Nat} {h : AHp} : Rf d 175 27 [a0, a1, a2, a3, a4, a5] [.ref s0] h = Rf d 175 29 [a0, a1, a2, a3, a4, a5] [.int 20, .ref s0] h := Rf_go ((stp_of c175_27).trans rfl)
theorem c175_29 : cd 175 29 = some (29, .iload_n 1, 1, []) := by decide +kernel
theorem x175_29 {d : Nat} {a0 a2 a3 a4 a5 : Value} {s0 : Int32} {s1 : Nat} {x : Int32} {h : AHp} : Rf d 175 29 [a0, .int x, a2, a3, a4, a5] [.int s0, .ref s1] h = Rf d 175 30 [a0, .int x, a2, a3, a4, a5] [.int x, .int s0, .ref s1] h := Rf_go ((stp_of c175_29).trans rfl)
theorem c175_30 : cd 175 30 = some (30, .iadd, 1, []) := by decide +kernel
theorem x175_30 {d : Nat} {a0 a1 a2 a3 a4 a5 : Value} {s0 : Int32} {s1 : Int32} {s2 : Nat} {h : AHp} : Rf d 175 30 [a0, a1, a2, a3, a4, a5] [.int s0, .int s1, .ref s2] h = Rf d 175 31 [a0, a1, a2, a3, a4, a5] [.int (s1 + s0), .ref s2] h := Rf_go ((stp_of c175_30).trans rfl)
theorem c175_31 : cd 175 31 = some (31, .iaload, 1, []) := by decide +kernel
theorem x175_31 {d : Nat} {a0 a1 a2 a3 a4 a5 : Value} {s0 : Int32} {s1 : Nat} {h : AHp} : Rf d 175 31 [a0, a1, a2, a3, a4, a5] [.int s0, .ref s1] h = if (aT (h.1 s1) = 0 ∨ aT (h.1 s1) = 10) ∧ inB s0 (aN (h.1 s1)) = true then Rf d 175 32 [a0, a1, a2, a3, a4, a5] [.int (aF (h.1 s1) s0.toNatClampNeg)] h else Rx d 175 31 [a0, a1, a2, a3, a4, a5] [.int s0, .ref s1] h := ldI c175_31
theorem c175_32 : cd 175 32 = some (32, .istore_n 3, 1, []) := by decide +kernel
theorem x175_32 {d : Nat} {a0 a1 a2 a3 a4 a5 : Value} {s0 : Int32} {h : AHp} : Rf d 175 32 [a0, a1, a2, a3, a4, a5] [.int s0] h = Rf d 175 33 [a0, a1, a2, .int s0, a4, a5] [] h := Rf_go ((stp_of c175_32).trans rfl)
theorem c175_33 : cd 175 33 = some (33, .iload_n 3, 1, []) := by decide +kernel
theorem x175_33 {d : Nat} {a0 a1 a2 a4 a5 : Value} {x : Int32} {h : AHp} : Rf d 175 33 [a0, a1, a2, .int x, a4, a5] [] h = Rf d 175 34 [a0, a1, a2, .int x, a4, a5] [.int x] h := Rf_go ((stp_of c175_33).trans rfl)
theorem c175_34 : cd 175 34 = some (34, .istore 4, 2, []) := by decide +kernel
theorem x175_34 {d : Nat} {a0 a1 a2 a3 a4 a5 : Value} {s0 : Int32} {h : AHp} : Rf d 175 34 [a0, a1, a2, a3, a4, a5] [.int s0] h = Rf d 175 36 [a0, a1, a2, a3, .int s0, a5] [] h := Rf_go ((stp_of c175_34).trans rfl)
theorem c175_36 : cd 175 36 = some (36, .iconst 0, 1, []) := by decide +kernel
theorem x175_36 {d : Nat} {a0 a1 a2 a3 a4 a5 : Value} {h : AHp} : Rf d 175 36 [a0, a1, a2, a3, a4, a5] [] h = Rf d 175 37 [a0, a1, a2, a3, a4, a5] [.int 0] h := Rf_go ((stp_of c175_36).trans rfl)
theorem c175_37 : cd 175 37 = some (37, .istore 5, 2, []) := by decide +kernel
theorem x175_37 {d : Nat} {a0 a1 a2 a3 a4 a5 : Value} {s0 : Int32} {h : AHp} : Rf d 175 37 [a0, a1, a2, a3, a4, a5] [.int s0] h = Rf d 175 39 [a0, a1, a2, a3, a4, .int s0] [] h := Rf_go ((stp_of c175_37).trans rfl)
theorem c175_39 : cd 175 39 = some (39, .iload 5, 2, []) := by decide +kernel
theorem x175_39 {d : Nat} {a0 a1 a2 a3 a4 : Value} {x : Int32} {h : AHp} : Rf d 175 39 [a0, a1, a2, a3, a4, .int x] [] h = Rf d 175 41 [a0, a1, a2, a3, a4, .int x] [.int x] h := Rf_go ((stp_of c175_39).trans rfl)
theorem c175_41 : cd 175 41 = some (41, .aload_n 0, 1, []) := by decide +kernel
theorem x175_41 {d : Nat} {a1 a2 a3 a4 a5 : Value} {s0 : Int32} {x : Nat} {h : AHp} : Rf d 175 41 [.ref x, a1, a2, a3, a4, a5] [.int s0] h = Rf d 175 42 [.ref x, a1, a2, a3, a4, a5] [.ref x, .int s0] h := Rf_go ((stp_of c175_41).trans rfl)
theorem c175_42 : cd 175 42 = some (42, .getfield 9, 3, [(12, 0)]) := by decide +kernel
theorem x175_42 {d : Nat} {a0 a1 a2 a3 a4 a5 : Value} {s0 : Nat} {s1 : Int32} {h : AHp} : Rf d 175 42 [a0, a1, a2, a3, a4, a5] [.ref s0, .int s1] h = if cls (h.1 s0) = 12 ∧ oKr (h.1 s0) 0 = true then Rf d 175 45 [a0, a1, a2, a3, a4, a5] [.ref (oR (h.1 s0) 0), .int s1] h else Rx d 175 42 [a0, a1, a2, a3, a4, a5] [.ref s0, .int s1] h := getR c175_42
theorem c175_45 : cd 175 45 = some (45, .iconst 0, 1, []) := by decide +kernel
theorem x175_45 {d : Nat} {a0 a1 a2 a3 a4 a5 : Value} {s0 : Nat} {s1 : Int32} {h : AHp} : Rf d 175 45 [a0, a1, a2, a3, a4, a5] [.ref s0, .int s1] h = Rf d 175 46 [a0, a1, a2, a3, a4, a5] [.int 0, .ref s0, .int s1] h := Rf_go ((stp_of c175_45).trans rfl)
theorem c175_46 : cd 175 46 = some (46, .iaload, 1, []) := by decide +kernel
theorem x175_46 {d : Nat} {a0 a1 a2 a3 a4 a5 : Value} {s0 : Int32} {s1 : Nat} {s2 : Int32} {h : AHp} : Rf d 175 46 [a0, a1, a2, a3, a4, a5] [.int s0, .ref s1, .int s2] h = if (aT (h.1 s1) = 0 ∨ aT (h.1 s1) = 10) ∧ inB s0 (aN (h.1 s1)) = true then Rf d 175 47 [a0, a1, a2, a3, a4, a5] [.int (aF (h.1 s1) s0.toNatClampNeg), .int s2] h else Rx d 175 46 [a0, a1, a2, a3, a4, a5] [.int s0, .ref s1, .int s2] h := ldI c175_46
theorem c175_47 : cd 175 47 = some (47, .if_icmp .ge 71, 3, [(118, 0)]) := by decide +kernel
theorem x175_47 {d : Nat} {a0 a1 a2 a3 a4 a5 : Value} {s0 : Int32} {s1 : Int32} {h : AHp} : Rf d 175 47 [a0, a1, a2, a3, a4, a5] [.int s0, .int s1] h = if s1 < s0 then Rf d 175 50 [a0, a1, a2, a3, a4, a5] [] h else Rf d 175 118 [a0, a1, a2, a3, a4, a5] [] h := Rf_brn ((stp_of c175_47).trans rfl)
theorem c175_118 : cd 175 118 = some (118, .iload 4, 2, []) := by decide +kernel
theorem x175_118 {d : Nat} {a0 a1 a2 a3 a5 : Value} {x : Int32} {h : AHp} : Rf d 175 118 [a0, a1, a2, a3, .int x, a5] [] h = Rf d 175 120 [a0, a1, a2, a3, .int x, a5] [.int x] h := Rf_go ((stp_of c175_118).trans rfl)
theorem c175_120 : cd 175 120 = some (120, .iload_n 3, 1, []) := by decide +kernel
theorem x175_120 {d : Nat} {a0 a1 a2 a4 a5 : Value} {s0 : Int32} {x : Int32} {h : AHp} : Rf d 175 120 [a0, a1, a2, .int x, a4, a5] [.int s0] h = Rf d 175 121 [a0, a1, a2, .int x, a4, a5] [.int x, .int s0] h := Rf_go ((stp_of c175_120).trans rfl)
theorem c175_121 : cd 175 121 = some (121, .isub, 1, []) := by decide +kernel
theorem x175_121 {d : Nat} {a0 a1 a2 a3 a4 a5 : Value} {s0 : Int32} {s1 : Int32} {h : AHp} : Rf d 175 121 [a0, a1, a2, a3, a4, a5] [.int s0, .int s1] h = Rf d 175 122 [a0, a1, a2, a3, a4, a5] [.int (s1 - s0)] h := Rf_go ((stp_of c175_121).trans rfl)
theorem c175_122 : cd 175 122 = some (122, .ireturn, 1, []) := by decide +kernel
theorem x175_122 {d : Nat} {a0 a1 a2 a3 a4 a5 : Value} {s0 : Int32} {h : AHp} : Rf d 175 122 [a0, a1, a2, a3, a4, a5] [.int s0] h = some (some (.int s0), h) := Rf_end (by rw [stp_of c175_122]; simp only [stpI]; rw [if_pos (show retI (mH 175).2.2.1 s0 = true from retI_int)])
theorem c175_50 : cd 175 50 = some (50, .aload_n 0, 1, []) := by decide +kernel
theorem x175_50 {d : Nat} {a1 a2 a3 a4 a5 : Value} {x : Nat} {h : AHp} : Rf d 175 50 [.ref x, a1, a2, a3, a4, a5] [] h = Rf d 175 51 [.ref x, a1, a2, a3, a4, a5] [.ref x] h := Rf_go ((stp_of c175_50).trans rfl)
theorem c175_51 : cd 175 51 = some (51, .getfield 9, 3, [(12, 0)]) := by decide +kernel
theorem x175_51 {d : Nat} {a0 a1 a2 a3 a4 a5 : Value} {s0 : Nat} {h : AHp} : Rf d 175 51 [a0, a1, a2, a3, a4, a5] [.ref s0] h = if cls (h.1 s0) = 12 ∧ oKr (h.1 s0) 0 = true then Rf d 175 54 [a0, a1, a2, a3, a4, a5] [.ref (oR (h.1 s0) 0)] h else Rx d 175 51 [a0, a1, a2, a3, a4, a5] [.ref s0] h := getR c175_51
theorem c175_54 : cd 175 54 = some (54, .bipush 30, 2, []) := by decide +kernel
theorem x175_54 {d : Nat} {a0 a1 a2 a3 a4 a5 : Value} {s0 : Nat} {h : AHp} : Rf d 175 54 [a0, a1, a2, a3, a4, a5] [.ref s0] h = Rf d 175 56 [a0, a1, a2, a3, a4, a5] [.int 30, .ref s0] h := Rf_go ((stp_of c175_54).trans rfl)
theorem c175_56 : cd 175 56 = some (56, .iload 5, 2, []) := by decide +kernel
theorem x175_56 {d : Nat} {a0 a1 a2 a3 a4 : Value} {s0 : Int32} {s1 : Nat} {x : Int32} {h : AHp} : Rf d 175 56 [a0, a1, a2, a3, a4, .int x] [.int s0, .ref s1] h = Rf d 175 58 [a0, a1, a2, a3, a4, .int x] [.int x, .int s0, .ref s1] h := Rf_go ((stp_of c175_56).trans rfl)
theorem c175_58 : cd 175 58 = some (58, .iadd, 1, []) := by decide +kernel
theorem x175_58 {d : Nat} {a0 a1 a2 a3 a4 a5 : Value} {s0 : Int32} {s1 : Int32} {s2 : Nat} {h : AHp} : Rf d 175 58 [a0, a1, a2, a3, a4, a5] [.int s0, .int s1, .ref s2] h = Rf d 175 59 [a0, a1, a2, a3, a4, a5] [.int (s1 + s0), .ref s2] h := Rf_go ((stp_of c175_58).trans rfl)
theorem c175_59 : cd 175 59 = some (59, .iaload, 1, []) := by decide +kernel
theorem x175_59 {d : Nat} {a0 a1 a2 a3 a4 a5 : Value} {s0 : Int32} {s1 : Nat} {h : AHp} : Rf d 175 59 [a0, a1, a2, a3, a4, a5] [.int s0, .ref s1] h = if (aT (h.1 s1) = 0 ∨ aT (h.1 s1) = 10) ∧ inB s0 (aN (h.1 s1)) = true then Rf d 175 60 [a0, a1, a2, a3, a4, a5] [.int (aF (h.1 s1) s0.toNatClampNeg)] h else Rx d 175 59 [a0, a1, a2, a3, a4, a5] [.int s0, .ref s1] h := ldI c175_59
theorem c175_60 : cd 175 60 = some (60, .aload_n 0, 1, []) := by decide +kernel
theorem x175_60 {d : Nat} {a1 a2 a3 a4 a5 : Value} {s0 : Int32} {x : Nat} {h : AHp} : Rf d 175 60 [.ref x, a1, a2, a3, a4, a5] [.int s0] h = Rf d 175 61 [.ref x, a1, a2, a3, a4, a5] [.ref x, .int s0] h := Rf_go ((stp_of c175_60).trans rfl)
theorem c175_61 : cd 175 61 = some (61, .getfield 9, 3, [(12, 0)]) := by decide +kernel
theorem x175_61 {d : Nat} {a0 a1 a2 a3 a4 a5 : Value} {s0 : Nat} {s1 : Int32} {h : AHp} : Rf d 175 61 [a0, a1, a2, a3, a4, a5] [.ref s0, .int s1] h = if cls (h.1 s0) = 12 ∧ oKr (h.1 s0) 0 = true then Rf d 175 64 [a0, a1, a2, a3, a4, a5] [.ref (oR (h.1 s0) 0), .int s1] h else Rx d 175 61 [a0, a1, a2, a3, a4, a5] [.ref s0, .int s1] h := getR c175_61
theorem c175_64 : cd 175 64 = some (64, .bipush 30, 2, []) := by decide +kernel
theorem x175_64 {d : Nat} {a0 a1 a2 a3 a4 a5 : Value} {s0 : Nat} {s1 : Int32} {h : AHp} : Rf d 175 64 [a0, a1, a2, a3, a4, a5] [.ref s0, .int s1] h = Rf d 175 66 [a0, a1, a2, a3, a4, a5] [.int 30, .ref s0, .int s1] h := Rf_go ((stp_of c175_64).trans rfl)
theorem c175_66 : cd 175 66 = some (66, .iload_n 1, 1, []) := by decide +kernel
theorem x175_66 {d : Nat} {a0 a2 a3 a4 a5 : Value} {s0 : Int32} {s1 : Nat} {s2 : Int32} {x : Int32} {h : AHp} : Rf d 175 66 [a0, .int x, a2, a3, a4, a5] [.int s0, .ref s1, .int s2] h = Rf d 175 67 [a0, .int x, a2, a3, a4, a5] [.int x, .int s0, .ref s1, .int s2] h := Rf_go ((stp_of c175_66).trans rfl)
theorem c175_67 : cd 175 67 = some (67, .iadd, 1, []) := by decide +kernel
theorem x175_67 {d : Nat} {a0 a1 a2 a3 a4 a5 : Value} {s0 : Int32} {s1 : Int32} {s2 : Nat} {s3 : Int32} {h : AHp} : Rf d 175 67 [a0, a1, a2, a3, a4, a5] [.int s0, .int s1, .ref s2, .int s3] h = Rf d 175 68 [a0, a1, a2, a3, a4, a5] [.int (s1 + s0), .ref s2, .int s3] h := Rf_go ((stp_of c175_67).trans rfl)
theorem c175_68 : cd 175 68 = some (68, .iaload, 1, []) := by decide +kernel
theorem x175_68 {d : Nat} {a0 a1 a2 a3 a4 a5 : Value} {s0 : Int32} {s1 : Nat} {s2 : Int32} {h : AHp} : Rf d 175 68 [a0, a1, a2, a3, a4, a5] [.int s0, .ref s1, .int s2] h = if (aT (h.1 s1) = 0 ∨ aT (h.1 s1) = 10) ∧ inB s0 (aN (h.1 s1)) = true then Rf d 175 69 [a0, a1, a2, a3, a4, a5] [.int (aF (h.1 s1) s0.toNatClampNeg), .int s2] h else Rx d 175 68 [a0, a1, a2, a3, a4, a5] [.int s0, .ref s1, .int s2] h := ldI c175_68
theorem c175_69 : cd 175 69 = some (69, .isub, 1, []) := by decide +kernel
theorem x175_69 {d : Nat} {a0 a1 a2 a3 a4 a5 : Value} {s0 : Int32} {s1 : Int32} {h : AHp} : Rf d 175 69 [a0, a1, a2, a3, a4, a5] [.int s0, .int s1] h = Rf d 175 70 [a0, a1, a2, a3, a4, a5] [.int (s1 - s0)] h := Rf_go ((stp_of c175_69).trans rfl)
theorem c175_70 : cd 175 70 = some (70, .invokestatic 174, 3, [(0, 200)]) := by decide +kernel
theorem xc175_70 {d : Nat} {a0 a1 a2 a3 a4 a5 : Value} {s0 : Int32} {h : AHp} {h1 : AHp} {v : Int32} (hq : Rf d 200 0 [.int s0] [] h = some (some (.int v), h1)) : Rf (d + 1) 175 70 [a0, a1, a2, a3, a4, a5] [.int s0] h = Rf (d + 1) 175 73 [a0, a1, a2, a3, a4, a5] [.int v] h1 := clS (as := [.int s0]) c175_70 rfl rfl (by simp [isV]) hq
theorem c175_73 : cd 175 73 = some (73, .iload_n 2, 1, []) := by decide +kernel
theorem x175_73 {d : Nat} {a0 a1 a3 a4 a5 : Value} {s0 : Int32} {x : Int32} {h : AHp} : Rf d 175 73 [a0, a1, .int x, a3, a4, a5] [.int s0] h = Rf d 175 74 [a0, a1, .int x, a3, a4, a5] [.int x, .int s0] h := Rf_go ((stp_of c175_73).trans rfl)
theorem c175_74 : cd 175 74 = some (74, .if_icmp .le 6, 3, [(80, 0)]) := by decide +kernel
theorem x175_74 {d : Nat} {a0 a1 a2 a3 a4 a5 : Value} {s0 : Int32} {s1 : Int32} {h : AHp} : Rf d 175 74 [a0, a1, a2, a3, a4, a5] [.int s0, .int s1] h = if s0 < s1 then Rf d 175 77 [a0, a1, a2, a3, a4, a5] [] h else Rf d 175 80 [a0, a1, a2, a3, a4, a5] [] h := Rf_brn ((stp_of c175_74).trans rfl)
theorem c175_80 : cd 175 80 = some (80, .iload_n 3, 1, []) := by decide +kernel
theorem x175_80 {d : Nat} {a0 a1 a2 a4 a5 : Value} {x : Int32} {h : AHp} : Rf d 175 80 [a0, a1, a2, .int x, a4, a5] [] h = Rf d 175 81 [a0, a1, a2, .int x, a4, a5] [.int x] h := Rf_go ((stp_of c175_80).trans rfl)
theorem c175_81 : cd 175 81 = some (81, .aload_n 0, 1, []) := by decide +kernel
theorem x175_81 {d : Nat} {a1 a2 a3 a4 a5 : Value} {s0 : Int32} {x : Nat} {h : AHp} : Rf d 175 81 [.ref x, a1, a2, a3, a4, a5] [.int s0] h = Rf d 175 82 [.ref x, a1, a2, a3, a4, a5] [.ref x, .int s0] h := Rf_go ((stp_of c175_81).trans rfl)
theorem c175_82 : cd 175 82 = some (82, .getfield 9, 3, [(12, 0)]) := by decide +kernel
theorem x175_82 {d : Nat} {a0 a1 a2 a3 a4 a5 : Value} {s0 : Nat} {s1 : Int32} {h : AHp} : Rf d 175 82 [a0, a1, a2, a3, a4, a5] [.ref s0, .int s1] h = if cls (h.1 s0) = 12 ∧ oKr (h.1 s0) 0 = true then Rf d 175 85 [a0, a1, a2, a3, a4, a5] [.ref (oR (h.1 s0) 0), .int s1] h else Rx d 175 82 [a0, a1, a2, a3, a4, a5] [.ref s0, .int s1] h := getR c175_82
theorem c175_85 : cd 175 85 = some (85, .bipush 20, 2, []) := by decide +kernel
theorem x175_85 {d : Nat} {a0 a1 a2 a3 a4 a5 : Value} {s0 : Nat} {s1 : Int32} {h : AHp} : Rf d 175 85 [a0, a1, a2, a3, a4, a5] [.ref s0, .int s1] h = Rf d 175 87 [a0, a1, a2, a3, a4, a5] [.int 20, .ref s0, .int s1] h := Rf_go ((stp_of c175_85).trans rfl)
theorem c175_87 : cd 175 87 = some (87, .iload 5, 2, []) := by decide +kernel
theorem x175_87 {d : Nat} {a0 a1 a2 a3 a4 : Value} {s0 : Int32} {s1 : Nat} {s2 : Int32} {x : Int32} {h : AHp} : Rf d 175 87 [a0, a1, a2, a3, a4, .int x] [.int s0, .ref s1, .int s2] h = Rf d 175 89 [a0, a1, a2, a3, a4, .int x] [.int x, .int s0, .ref s1, .int s2] h := Rf_go ((stp_of c175_87).trans rfl)
theorem c175_89 : cd 175 89 = some (89, .iadd, 1, []) := by decide +kernel
theorem x175_89 {d : Nat} {a0 a1 a2 a3 a4 a5 : Value} {s0 : Int32} {s1 : Int32} {s2 : Nat} {s3 : Int32} {h : AHp} : Rf d 175 89 [a0, a1, a2, a3, a4, a5] [.int s0, .int s1, .ref s2, .int s3] h = Rf d 175 90 [a0, a1, a2, a3, a4, a5] [.int (s1 + s0), .ref s2, .int s3] h := Rf_go ((stp_of c175_89).trans rfl)
theorem c175_90 : cd 175 90 = some (90, .iaload, 1, []) := by decide +kernel
theorem x175_90 {d : Nat} {a0 a1 a2 a3 a4 a5 : Value} {s0 : Int32} {s1 : Nat} {s2 : Int32} {h : AHp} : Rf d 175 90 [a0, a1, a2, a3, a4, a5] [.int s0, .ref s1, .int s2] h = if (aT (h.1 s1) = 0 ∨ aT (h.1 s1) = 10) ∧ inB s0 (aN (h.1 s1)) = true then Rf d 175 91 [a0, a1, a2, a3, a4, a5] [.int (aF (h.1 s1) s0.toNatClampNeg), .int s2] h else Rx d 175 90 [a0, a1, a2, a3, a4, a5] [.int s0, .ref s1, .int s2] h := ldI c175_90
theorem c175_91 : cd 175 91 = some (91, .invokestatic 113, 3, [(0, 202)]) := by decide +kernel
theorem xc175_91 {d : Nat} {a0 a1 a2 a3 a4 a5 : Value} {s0 : Int32} {s1 : Int32} {h : AHp} {h1 : AHp} {v : Int32} (hq : Rf d 202 0 [.int s1, .int s0] [] h = some (some (.int v), h1)) : Rf (d + 1) 175 91 [a0, a1, a2, a3, a4, a5] [.int s0, .int s1] h = Rf (d + 1) 175 94 [a0, a1, a2, a3, a4, a5] [.int v] h1 := clS (as := [.int s1, .int s0]) c175_91 rfl rfl (by simp [isV]) hq
theorem c175_94 : cd 175 94 = some (94, .istore_n 3, 1, []) := by decide +kernel
theorem x175_94 {d : Nat} {a0 a1 a2 a3 a4 a5 : Value} {s0 : Int32} {h : AHp} : Rf d 175 94 [a0, a1, a2, a3, a4, a5] [.int s0] h = Rf d 175 95 [a0, a1, a2, .int s0, a4, a5] [] h := Rf_go ((stp_of c175_94).trans rfl)
theorem c175_95 : cd 175 95 = some (95, .iload 4, 2, []) := by decide +kernel
theorem x175_95 {d : Nat} {a0 a1 a2 a3 a5 : Value} {x : Int32} {h : AHp} : Rf d 175 95 [a0, a1, a2, a3, .int x, a5] [] h = Rf d 175 97 [a0, a1, a2, a3, .int x, a5] [.int x] h := Rf_go ((stp_of c175_95).trans rfl)
theorem c175_97 : cd 175 97 = some (97, .aload_n 0, 1, []) := by decide +kernel
theorem x175_97 {d : Nat} {a1 a2 a3 a4 a5 : Value} {s0 : Int32} {x : Nat} {h : AHp} : Rf d 175 97 [.ref x, a1, a2, a3, a4, a5] [.int s0] h = Rf d 175 98 [.ref x, a1, a2, a3, a4, a5] [.ref x, .int s0] h := Rf_go ((stp_of c175_97).trans rfl)
theorem c175_98 : cd 175 98 = some (98, .getfield 9, 3, [(12, 0)]) := by decide +kernel
theorem x175_98 {d : Nat} {a0 a1 a2 a3 a4 a5 : Value} {s0 : Nat} {s1 : Int32} {h : AHp} : Rf d 175 98 [a0, a1, a2, a3, a4, a5] [.ref s0, .int s1] h = if cls (h.1 s0) = 12 ∧ oKr (h.1 s0) 0 = true then Rf d 175 101 [a0, a1, a2, a3, a4, a5] [.ref (oR (h.1 s0) 0), .int s1] h else Rx d 175 98 [a0, a1, a2, a3, a4, a5] [.ref s0, .int s1] h := getR c175_98
theorem c175_101 : cd 175 101 = some (101, .bipush 20, 2, []) := by decide +kernel
theorem x175_101 {d : Nat} {a0 a1 a2 a3 a4 a5 : Value} {s0 : Nat} {s1 : Int32} {h : AHp} : Rf d 175 101 [a0, a1, a2, a3, a4, a5] [.ref s0, .int s1] h = Rf d 175 103 [a0, a1, a2, a3, a4, a5] [.int 20, .ref s0, .int s1] h := Rf_go ((stp_of c175_101).trans rfl)
theorem c175_103 : cd 175 103 = some (103, .iload 5, 2, []) := by decide +kernel
theorem x175_103 {d : Nat} {a0 a1 a2 a3 a4 : Value} {s0 : Int32} {s1 : Nat} {s2 : Int32} {x : Int32} {h : AHp} : Rf d 175 103 [a0, a1, a2, a3, a4, .int x] [.int s0, .ref s1, .int s2] h = Rf d 175 105 [a0, a1, a2, a3, a4, .int x] [.int x, .int s0, .ref s1, .int s2] h := Rf_go ((stp_of c175_103).trans rfl)
theorem c175_105 : cd 175 105 = some (105, .iadd, 1, []) := by decide +kernel
theorem x175_105 {d : Nat} {a0 a1 a2 a3 a4 a5 : Value} {s0 : Int32} {s1 : Int32} {s2 : Nat} {s3 : Int32} {h : AHp} : Rf d 175 105 [a0, a1, a2, a3, a4, a5] [.int s0, .int s1, .ref s2, .int s3] h = Rf d 175 106 [a0, a1, a2, a3, a4, a5] [.int (s1 + s0), .ref s2, .int s3] h := Rf_go ((stp_of c175_105).trans rfl)
theorem c175_106 : cd 175 106 = some (106, .iaload, 1, []) := by decide +kernel
theorem x175_106 {d : Nat} {a0 a1 a2 a3 a4 a5 : Value} {s0 : Int32} {s1 : Nat} {s2 : Int32} {h : AHp} : Rf d 175 106 [a0, a1, a2, a3, a4, a5] [.int s0, .ref s1, .int s2] h = if (aT (h.1 s1) = 0 ∨ aT (h.1 s1) = 10) ∧ inB s0 (aN (h.1 s1)) = true then Rf d 175 107 [a0, a1, a2, a3, a4, a5] [.int (aF (h.1 s1) s0.toNatClampNeg), .int s2] h else Rx d 175 106 [a0, a1, a2, a3, a4, a5] [.int s0, .ref s1, .int s2] h := ldI c175_106
theorem c175_107 : cd 175 107 = some (107, .invokestatic 118, 3, [(0, 201)]) := by decide +kernel
theorem xc175_107 {d : Nat} {a0 a1 a2 a3 a4 a5 : Value} {s0 : Int32} {s1 : Int32} {h : AHp} {h1 : AHp} {v : Int32} (hq : Rf d 201 0 [.int s1, .int s0] [] h = some (some (.int v), h1)) : Rf (d + 1) 175 107 [a0, a1, a2, a3, a4, a5] [.int s0, .int s1] h = Rf (d + 1) 175 110 [a0, a1, a2, a3, a4, a5] [.int v] h1 := clS (as := [.int s1, .int s0]) c175_107 rfl rfl (by simp [isV]) hq
theorem c175_110 : cd 175 110 = some (110, .istore 4, 2, []) := by decide +kernel
theorem x175_110 {d : Nat} {a0 a1 a2 a3 a4 a5 : Value} {s0 : Int32} {h : AHp} : Rf d 175 110 [a0, a1, a2, a3, a4, a5] [.int s0] h = Rf d 175 112 [a0, a1, a2, a3, .int s0, a5] [] h := Rf_go ((stp_of c175_110).trans rfl)
theorem c175_112 : cd 175 112 = some (112, .iinc 5 1, 3, []) := by decide +kernel
theorem x175_112 {d : Nat} {a0 a1 a2 a3 a4 : Value} {x : Int32} {h : AHp} : Rf d 175 112 [a0, a1, a2, a3, a4, .int x] [] h = Rf d 175 115 [a0, a1, a2, a3, a4, .int (x + 1)] [] h := Rf_go ((stp_of c175_112).trans rfl)
theorem c175_115 : cd 175 115 = some (115, .goto (-76), 3, [(39, 0)]) := by decide +kernel
theorem x175_115 {d : Nat} {a0 a1 a2 a3 a4 a5 : Value} {h : AHp} : Rf d 175 115 [a0, a1, a2, a3, a4, a5] [] h = Rf d 175 39 [a0, a1, a2, a3, a4, a5] [] h := Rf_go ((stp_of c175_115).trans rfl)
theorem c175_77 : cd 175 77 = some (77, .goto 35, 3, [(112, 0)]) := by decide +kernel
theorem x175_77 {d : Nat} {a0 a1 a2 a3 a4 a5 : Value} {h : AHp} : Rf d 175 77 [a0, a1, a2, a3, a4, a5] [] h = Rf d 175 112 [a0, a1, a2, a3, a4, a5] [] h := Rf_go ((stp_of c175_77).trans rfl)
theorem c175_20 : cd 175 20 = some (20, .bipush (-2), 2, []) := by decide +kernel
theorem x175_20 {d : Nat} {a0 a1 a2 a3 a4 a5 : Value} {h : AHp} : Rf d 175 20 [a0, a1, a2, a3, a4, a5] [] h = Rf d 175 22 [a0, a1, a2, a3, a4, a5] [.int (-2)] h := Rf_go ((stp_of c175_20).trans rfl)
theorem c175_22 : cd 175 22 = some (22, .ireturn, 1, []) := by decide +kernel
theorem x175_22 {d : Nat} {a0 a1 a2 a3 a4 a5 : Value} {s0 : Int32} {h : AHp} : Rf d 175 22 [a0, a1, a2, a3, a4, a5] [.int s0] h = some (some (.int s0), h) := Rf_end (by rw [stp_of c175_22]; simp only [stpI]; rw [if_pos (show retI (mH 175).2.2.1 s0 = true from retI_int)])
theorem c175_8 : cd 175 8 = some (8, .iconst (-1), 1, []) := by decide +kernel
theorem x175_8 {d : Nat} {a0 a1 a2 a3 a4 a5 : Value} {h : AHp} : Rf d 175 8 [a0, a1, a2, a3, a4, a5] [] h = Rf d 175 9 [a0, a1, a2, a3, a4, a5] [.int (-1)] h := Rf_go ((stp_of c175_8).trans rfl)
theorem c175_9 : cd 175 9 = some (9, .ireturn, 1, []) := by decide +kernel
theorem x175_9 {d : Nat} {a0 a1 a2 a3 a4 a5 : Value} {s0 : Int32} {h : AHp} : Rf d 175 9 [a0, a1, a2, a3, a4, a5] [.int s0] h = some (some (.int s0), h) := Rf_end (by rw [stp_of c175_9]; simp only [stpI]; rw [if_pos (show retI (mH 175).2.2.1 s0 = true from retI_int)])
-- 176: X12_bargain
theorem c176_0 : cd 176 0 = some (0, .aload_n 0, 1, []) := by decide +kernel
theorem x176_0 {d : Nat} {a1 a2 a3 a4 a5 a6 a7 a8 : Value} {x : Nat} {h : AHp} : Rf d 176 0 [.ref x, a1, a2, a3, a4, a5, a6, a7, a8] [] h = Rf d 176 1 [.ref x, a1, a2, a3, a4, a5, a6, a7, a8] [.ref x] h := Rf_go ((stp_of c176_0).trans rfl)
theorem c176_1 : cd 176 1 = some (1, .iload_n 1, 1, []) := by decide +kernel
theorem x176_1 {d : Nat} {a0 a2 a3 a4 a5 a6 a7 a8 : Value} {s0 : Nat} {x : Int32} {h : AHp} : Rf d 176 1 [a0, .int x, a2, a3, a4, a5, a6, a7, a8] [.ref s0] h = Rf d 176 2 [a0, .int x, a2, a3, a4, a5, a6, a7, a8] [.int x, .ref s0] h := Rf_go ((stp_of c176_1).trans rfl)
theorem c176_2 : cd 176 2 = some (2, .invokevirtual 140, 3, [(12, 132)]) := by decide +kernel
theorem xc176_2 {d : Nat} {a0 a1 a2 a3 a4 a5 a6 a7 a8 : Value} {s0 : Int32} {s1 : Nat} {h : AHp} {h1 : AHp} {v : Int32} (hr : cls (h.1 s1) = 12) (hq : Rf d 132 0 [.ref s1, .int s0] [] h = some (some (.int v), h1)) : Rf (d + 1) 176 2 [a0, a1, a2, a3, a4, a5, a6, a7, a8] [.int s0, .ref s1] h = Rf (d + 1) 176 5 [a0, a1, a2, a3, a4, a5, a6, a7, a8] [.int v] h1 := clV (c := 132) (as := [.int s0]) c176_2 rfl (by simp [isV]) (by rw [hr]; rfl) hq
theorem c176_5 : cd 176 5 = some (5, .ifCond .eq 12, 3, [(17, 0)]) := by decide +kernel
theorem x176_5 {d : Nat} {a0 a1 a2 a3 a4 a5 a6 a7 a8 : Value} {s0 : Int32} {h : AHp} : Rf d 176 5 [a0, a1, a2, a3, a4, a5, a6, a7, a8] [.int s0] h = if s0 = 0 then Rf d 176 17 [a0, a1, a2, a3, a4, a5, a6, a7, a8] [] h else Rf d 176 8 [a0, a1, a2, a3, a4, a5, a6, a7, a8] [] h := Rf_brd ((stp_of c176_5).trans rfl)
theorem c176_17 : cd 176 17 = some (17, .iconst (-1), 1, []) := by decide +kernel
theorem x176_17 {d : Nat} {a0 a1 a2 a3 a4 a5 a6 a7 a8 : Value} {h : AHp} : Rf d 176 17 [a0, a1, a2, a3, a4, a5, a6, a7, a8] [] h = Rf d 176 18 [a0, a1, a2, a3, a4, a5, a6, a7, a8] [.int (-1)] h := Rf_go ((stp_of c176_17).trans rfl)
theorem c176_18 : cd 176 18 = some (18, .ireturn, 1, []) := by decide +kernel
theorem x176_18 {d : Nat} {a0 a1 a2 a3 a4 a5 a6 a7 a8 : Value} {s0 : Int32} {h : AHp} : Rf d 176 18 [a0, a1, a2, a3, a4, a5, a6, a7, a8] [.int s0] h = some (some (.int s0), h) := Rf_end (by rw [stp_of c176_18]; simp only [stpI]; rw [if_pos (show retI (mH 176).2.2.1 s0 = true from retI_int)])
theorem c176_8 : cd 176 8 = some (8, .iload_n 2, 1, []) := by decide +kernel
theorem x176_8 {d : Nat} {a0 a1 a3 a4 a5 a6 a7 a8 : Value} {x : Int32} {h : AHp} : Rf d 176 8 [a0, a1, .int x, a3, a4, a5, a6, a7, a8] [] h = Rf d 176 9 [a0, a1, .int x, a3, a4, a5, a6, a7, a8] [.int x] h := Rf_go ((stp_of c176_8).trans rfl)
theorem c176_9 : cd 176 9 = some (9, .iconst 0, 1, []) := by decide +kernel
theorem x176_9 {d : Nat} {a0 a1 a2 a3 a4 a5 a6 a7 a8 : Value} {s0 : Int32} {h : AHp} : Rf d 176 9 [a0, a1, a2, a3, a4, a5, a6, a7, a8] [.int s0] h = Rf d 176 10 [a0, a1, a2, a3, a4, a5, a6, a7, a8] [.int 0, .int s0] h := Rf_go ((stp_of c176_9).trans rfl)
theorem c176_10 : cd 176 10 = some (10, .iconst 2, 1, []) := by decide +kernel
theorem x176_10 {d : Nat} {a0 a1 a2 a3 a4 a5 a6 a7 a8 : Value} {s0 : Int32} {s1 : Int32} {h : AHp} : Rf d 176 10 [a0, a1, a2, a3, a4, a5, a6, a7, a8] [.int s0, .int s1] h = Rf d 176 11 [a0, a1, a2, a3, a4, a5, a6, a7, a8] [.int 2, .int s0, .int s1] h := Rf_go ((stp_of c176_10).trans rfl)
theorem c176_11 : cd 176 11 = some (11, .invokestatic 31, 3, [(0, 131)]) := by decide +kernel
theorem xc176_11 {d : Nat} {a0 a1 a2 a3 a4 a5 a6 a7 a8 : Value} {s0 : Int32} {s1 : Int32} {s2 : Int32} {h : AHp} {h1 : AHp} {v : Int32} (hq : Rf d 131 0 [.int s2, .int s1, .int s0] [] h = some (some (.int v), h1)) : Rf (d + 1) 176 11 [a0, a1, a2, a3, a4, a5, a6, a7, a8] [.int s0, .int s1, .int s2] h = Rf (d + 1) 176 14 [a0, a1, a2, a3, a4, a5, a6, a7, a8] [.int v] h1 := clS (as := [.int s2, .int s1, .int s0]) c176_11 rfl rfl (by simp [isV]) hq
theorem c176_14 : cd 176 14 = some (14, .ifCond .ne 5, 3, [(19, 0)]) := by decide +kernel
theorem x176_14 {d : Nat} {a0 a1 a2 a3 a4 a5 a6 a7 a8 : Value} {s0 : Int32} {h : AHp} : Rf d 176 14 [a0, a1, a2, a3, a4, a5, a6, a7, a8] [.int s0] h = if s0 = 0 then Rf d 176 17 [a0, a1, a2, a3, a4, a5, a6, a7, a8] [] h else Rf d 176 19 [a0, a1, a2, a3, a4, a5, a6, a7, a8] [] h := Rf_brn ((stp_of c176_14).trans rfl)
theorem c176_19 : cd 176 19 = some (19, .iload_n 3, 1, []) := by decide +kernel
theorem x176_19 {d : Nat} {a0 a1 a2 a4 a5 a6 a7 a8 : Value} {x : Int32} {h : AHp} : Rf d 176 19 [a0, a1, a2, .int x, a4, a5, a6, a7, a8] [] h = Rf d 176 20 [a0, a1, a2, .int x, a4, a5, a6, a7, a8] [.int x] h := Rf_go ((stp_of c176_19).trans rfl)
theorem c176_20 : cd 176 20 = some (20, .iconst 0, 1, []) := by decide +kernel
theorem x176_20 {d : Nat} {a0 a1 a2 a3 a4 a5 a6 a7 a8 : Value} {s0 : Int32} {h : AHp} : Rf d 176 20 [a0, a1, a2, a3, a4, a5, a6, a7, a8] [.int s0] h = Rf d 176 21 [a0, a1, a2, a3, a4, a5, a6, a7, a8] [.int 0, .int s0] h := Rf_go ((stp_of c176_20).trans rfl)
theorem c176_21 : cd 176 21 = some (21, .sipush 999, 3, []) := by decide +kernel
theorem x176_21 {d : Nat} {a0 a1 a2 a3 a4 a5 a6 a7 a8 : Value} {s0 : Int32} {s1 : Int32} {h : AHp} : Rf d 176 21 [a0, a1, a2, a3, a4, a5, a6, a7, a8] [.int s0, .int s1] h = Rf d 176 24 [a0, a1, a2, a3, a4, a5, a6, a7, a8] [.int 999, .int s0, .int s1] h := Rf_go ((stp_of c176_21).trans rfl)
theorem c176_24 : cd 176 24 = some (24, .invokestatic 31, 3, [(0, 131)]) := by decide +kernel
theorem xc176_24 {d : Nat} {a0 a1 a2 a3 a4 a5 a6 a7 a8 : Value} {s0 : Int32} {s1 : Int32} {s2 : Int32} {h : AHp} {h1 : AHp} {v : Int32} (hq : Rf d 131 0 [.int s2, .int s1, .int s0] [] h = some (some (.int v), h1)) : Rf (d + 1) 176 24 [a0, a1, a2, a3, a4, a5, a6, a7, a8] [.int s0, .int s1, .int s2] h = Rf (d + 1) 176 27 [a0, a1, a2, a3, a4, a5, a6, a7, a8] [.int v] h1 := clS (as := [.int s2, .int s1, .int s0]) c176_24 rfl rfl (by simp [isV]) hq
theorem c176_27 : cd 176 27 = some (27, .ifCond .ne 6, 3, [(33, 0)]) := by decide +kernel
theorem x176_27 {d : Nat} {a0 a1 a2 a3 a4 a5 a6 a7 a8 : Value} {s0 : Int32} {h : AHp} : Rf d 176 27 [a0, a1, a2, a3, a4, a5, a6, a7, a8] [.int s0] h = if s0 = 0 then Rf d 176 30 [a0, a1, a2, a3, a4, a5, a6, a7, a8] [] h else Rf d 176 33 [a0, a1, a2, a3, a4, a5, a6, a7, a8] [] h := Rf_brn ((stp_of c176_27).trans rfl)
theorem c176_33 : cd 176 33 = some (33, .aload_n 0, 1, []) := by decide +kernel
theorem x176_33 {d : Nat} {a1 a2 a3 a4 a5 a6 a7 a8 : Value} {x : Nat} {h : AHp} : Rf d 176 33 [.ref x, a1, a2, a3, a4, a5, a6, a7, a8] [] h = Rf d 176 34 [.ref x, a1, a2, a3, a4, a5, a6, a7, a8] [.ref x] h := Rf_go ((stp_of c176_33).trans rfl)
theorem c176_34 : cd 176 34 = some (34, .iload_n 1, 1, []) := by decide +kernel
theorem x176_34 {d : Nat} {a0 a2 a3 a4 a5 a6 a7 a8 : Value} {s0 : Nat} {x : Int32} {h : AHp} : Rf d 176 34 [a0, .int x, a2, a3, a4, a5, a6, a7, a8] [.ref s0] h = Rf d 176 35 [a0, .int x, a2, a3, a4, a5, a6, a7, a8] [.int x, .ref s0] h := Rf_go ((stp_of c176_34).trans rfl)
theorem c176_35 : cd 176 35 = some (35, .invokevirtual 146, 3, [(12, 162)]) := by decide +kernel
theorem xc176_35 {d : Nat} {a0 a1 a2 a3 a4 a5 a6 a7 a8 : Value} {s0 : Int32} {s1 : Nat} {h : AHp} {h1 : AHp} {v : Int32} (hr : cls (h.1 s1) = 12) (hq : Rf d 162 0 [.ref s1, .int s0, noV, noV, noV, noV, noV, noV, noV, noV] [] h = some (some (.int v), h1)) : Rf (d + 1) 176 35 [a0, a1, a2, a3, a4, a5, a6, a7, a8] [.int s0, .ref s1] h = Rf (d + 1) 176 38 [a0, a1, a2, a3, a4, a5, a6, a7, a8] [.int v] h1 := clV (c := 162) (as := [.int s0]) c176_35 rfl (by simp [isV]) (by rw [hr]; rfl) hq
theorem c176_38 : cd 176 38 = some (38, .istore 4, 2, []) := by decide +kernel
theorem x176_38 {d : Nat} {a0 a1 a2 a3 a4 a5 a6 a7 a8 : Value} {s0 : Int32} {h : AHp} : Rf d 176 38 [a0, a1, a2, a3, a4, a5, a6, a7, a8] [.int s0] h = Rf d 176 40 [a0, a1, a2, a3, .int s0, a5, a6, a7, a8] [] h := Rf_go ((stp_of c176_38).trans rfl)
theorem c176_40 : cd 176 40 = some (40, .iload 4, 2, []) := by decide +kernel
theorem x176_40 {d : Nat} {a0 a1 a2 a3 a5 a6 a7 a8 : Value} {x : Int32} {h : AHp} : Rf d 176 40 [a0, a1, a2, a3, .int x, a5, a6, a7, a8] [] h = Rf d 176 42 [a0, a1, a2, a3, .int x, a5, a6, a7, a8] [.int x] h := Rf_go ((stp_of c176_40).trans rfl)
theorem c176_42 : cd 176 42 = some (42, .aload_n 0, 1, []) := by decide +kernel
theorem x176_42 {d : Nat} {a1 a2 a3 a4 a5 a6 a7 a8 : Value} {s0 : Int32} {x : Nat} {h : AHp} : Rf d 176 42 [.ref x, a1, a2, a3, a4, a5, a6, a7, a8] [.int s0] h = Rf d 176 43 [.ref x, a1, a2, a3, a4, a5, a6, a7, a8] [.ref x, .int s0] h := Rf_go ((stp_of c176_42).trans rfl)
theorem c176_43 : cd 176 43 = some (43, .iload_n 1, 1, []) := by decide +kernel
theorem x176_43 {d : Nat} {a0 a2 a3 a4 a5 a6 a7 a8 : Value} {s0 : Nat} {s1 : Int32} {x : Int32} {h : AHp} : Rf d 176 43 [a0, .int x, a2, a3, a4, a5, a6, a7, a8] [.ref s0, .int s1] h = Rf d 176 44 [a0, .int x, a2, a3, a4, a5, a6, a7, a8] [.int x, .ref s0, .int s1] h := Rf_go ((stp_of c176_43).trans rfl)
theorem c176_44 : cd 176 44 = some (44, .invokevirtual 155, 3, [(12, 151)]) := by decide +kernel
theorem xc176_44 {d : Nat} {a0 a1 a2 a3 a4 a5 a6 a7 a8 : Value} {s0 : Int32} {s1 : Nat} {s2 : Int32} {h : AHp} {h1 : AHp} {v : Int32} (hr : cls (h.1 s1) = 12) (hq : Rf d 151 0 [.ref s1, .int s0] [] h = some (some (.int v), h1)) : Rf (d + 1) 176 44 [a0, a1, a2, a3, a4, a5, a6, a7, a8] [.int s0, .ref s1, .int s2] h = Rf (d + 1) 176 47 [a0, a1, a2, a3, a4, a5, a6, a7, a8] [.int v, .int s2] h1 := clV (c := 151) (as := [.int s0]) c176_44 rfl (by simp [isV]) (by rw [hr]; rfl) hq
theorem c176_47 : cd 176 47 = some (47, .iadd, 1, []) := by decide +kernel
theorem x176_47 {d : Nat} {a0 a1 a2 a3 a4 a5 a6 a7 a8 : Value} {s0 : Int32} {s1 : Int32} {h : AHp} : Rf d 176 47 [a0, a1, a2, a3, a4, a5, a6, a7, a8] [.int s0, .int s1] h = Rf d 176 48 [a0, a1, a2, a3, a4, a5, a6, a7, a8] [.int (s1 + s0)] h := Rf_go ((stp_of c176_47).trans rfl)
theorem c176_48 : cd 176 48 = some (48, .istore 5, 2, []) := by decide +kernel
theorem x176_48 {d : Nat} {a0 a1 a2 a3 a4 a5 a6 a7 a8 : Value} {s0 : Int32} {h : AHp} : Rf d 176 48 [a0, a1, a2, a3, a4, a5, a6, a7, a8] [.int s0] h = Rf d 176 50 [a0, a1, a2, a3, a4, .int s0, a6, a7, a8] [] h := Rf_go ((stp_of c176_48).trans rfl)
theorem c176_50 : cd 176 50 = some (50, .iload_n 3, 1, []) := by decide +kernel
theorem x176_50 {d : Nat} {a0 a1 a2 a4 a5 a6 a7 a8 : Value} {x : Int32} {h : AHp} : Rf d 176 50 [a0, a1, a2, .int x, a4, a5, a6, a7, a8] [] h = Rf d 176 51 [a0, a1, a2, .int x, a4, a5, a6, a7, a8] [.int x] h := Rf_go ((stp_of c176_50).trans rfl)
theorem c176_51 : cd 176 51 = some (51, .aload_n 0, 1, []) := by decide +kernel
theorem x176_51 {d : Nat} {a1 a2 a3 a4 a5 a6 a7 a8 : Value} {s0 : Int32} {x : Nat} {h : AHp} : Rf d 176 51 [.ref x, a1, a2, a3, a4, a5, a6, a7, a8] [.int s0] h = Rf d 176 52 [.ref x, a1, a2, a3, a4, a5, a6, a7, a8] [.ref x, .int s0] h := Rf_go ((stp_of c176_51).trans rfl)
theorem c176_52 : cd 176 52 = some (52, .getfield 9, 3, [(12, 0)]) := by decide +kernel
theorem x176_52 {d : Nat} {a0 a1 a2 a3 a4 a5 a6 a7 a8 : Value} {s0 : Nat} {s1 : Int32} {h : AHp} : Rf d 176 52 [a0, a1, a2, a3, a4, a5, a6, a7, a8] [.ref s0, .int s1] h = if cls (h.1 s0) = 12 ∧ oKr (h.1 s0) 0 = true then Rf d 176 55 [a0, a1, a2, a3, a4, a5, a6, a7, a8] [.ref (oR (h.1 s0) 0), .int s1] h else Rx d 176 52 [a0, a1, a2, a3, a4, a5, a6, a7, a8] [.ref s0, .int s1] h := getR c176_52
theorem c176_55 : cd 176 55 = some (55, .bipush 20, 2, []) := by decide +kernel
theorem x176_55 {d : Nat} {a0 a1 a2 a3 a4 a5 a6 a7 a8 : Value} {s0 : Nat} {s1 : Int32} {h : AHp} : Rf d 176 55 [a0, a1, a2, a3, a4, a5, a6, a7, a8] [.ref s0, .int s1] h = Rf d 176 57 [a0, a1, a2, a3, a4, a5, a6, a7, a8] [.int 20, .ref s0, .int s1] h := Rf_go ((stp_of c176_55).trans rfl)
theorem c176_57 : cd 176 57 = some (57, .iload_n 1, 1, []) := by decide +kernel
theorem x176_57 {d : Nat} {a0 a2 a3 a4 a5 a6 a7 a8 : Value} {s0 : Int32} {s1 : Nat} {s2 : Int32} {x : Int32} {h : AHp} : Rf d 176 57 [a0, .int x, a2, a3, a4, a5, a6, a7, a8] [.int s0, .ref s1, .int s2] h = Rf d 176 58 [a0, .int x, a2, a3, a4, a5, a6, a7, a8] [.int x, .int s0, .ref s1, .int s2] h := Rf_go ((stp_of c176_57).trans rfl)
theorem c176_58 : cd 176 58 = some (58, .iadd, 1, []) := by decide +kernel
theorem x176_58 {d : Nat} {a0 a1 a2 a3 a4 a5 a6 a7 a8 : Value} {s0 : Int32} {s1 : Int32} {s2 : Nat} {s3 : Int32} {h : AHp} : Rf d 176 58 [a0, a1, a2, a3, a4, a5, a6, a7, a8] [.int s0, .int s1, .ref s2, .int s3] h = Rf d 176 59 [a0, a1, a2, a3, a4, a5, a6, a7, a8] [.int (s1 + s0), .ref s2, .int s3] h := Rf_go ((stp_of c176_58).trans rfl)
theorem c176_59 : cd 176 59 = some (59, .iaload, 1, []) := by decide +kernel
theorem x176_59 {d : Nat} {a0 a1 a2 a3 a4 a5 a6 a7 a8 : Value} {s0 : Int32} {s1 : Nat} {s2 : Int32} {h : AHp} : Rf d 176 59 [a0, a1, a2, a3, a4, a5, a6, a7, a8] [.int s0, .ref s1, .int s2] h = if (aT (h.1 s1) = 0 ∨ aT (h.1 s1) = 10) ∧ inB s0 (aN (h.1 s1)) = true then Rf d 176 60 [a0, a1, a2, a3, a4, a5, a6, a7, a8] [.int (aF (h.1 s1) s0.toNatClampNeg), .int s2] h else Rx d 176 59 [a0, a1, a2, a3, a4, a5, a6, a7, a8] [.int s0, .ref s1, .int s2] h := ldI c176_59
theorem c176_60 : cd 176 60 = some (60, .aload_n 0, 1, []) := by decide +kernel
theorem x176_60 {d : Nat} {a1 a2 a3 a4 a5 a6 a7 a8 : Value} {s0 : Int32} {s1 : Int32} {x : Nat} {h : AHp} : Rf d 176 60 [.ref x, a1, a2, a3, a4, a5, a6, a7, a8] [.int s0, .int s1] h = Rf d 176 61 [.ref x, a1, a2, a3, a4, a5, a6, a7, a8] [.ref x, .int s0, .int s1] h := Rf_go ((stp_of c176_60).trans rfl)
theorem c176_61 : cd 176 61 = some (61, .invokevirtual 127, 3, [(12, 153)]) := by decide +kernel
theorem xc176_61 {d : Nat} {a0 a1 a2 a3 a4 a5 a6 a7 a8 : Value} {s0 : Nat} {s1 : Int32} {s2 : Int32} {h : AHp} {h1 : AHp} {v : Int32} (hr : cls (h.1 s0) = 12) (hq : Rf d 153 0 [.ref s0] [] h = some (some (.int v), h1)) : Rf (d + 1) 176 61 [a0, a1, a2, a3, a4, a5, a6, a7, a8] [.ref s0, .int s1, .int s2] h = Rf (d + 1) 176 64 [a0, a1, a2, a3, a4, a5, a6, a7, a8] [.int v, .int s1, .int s2] h1 := clV (c := 153) (as := []) c176_61 rfl (by simp [isV]) (by rw [hr]; rfl) hq
theorem c176_64 : cd 176 64 = some (64, .iadd, 1, []) := by decide +kernel
theorem x176_64 {d : Nat} {a0 a1 a2 a3 a4 a5 a6 a7 a8 : Value} {s0 : Int32} {s1 : Int32} {s2 : Int32} {h : AHp} : Rf d 176 64 [a0, a1, a2, a3, a4, a5, a6, a7, a8] [.int s0, .int s1, .int s2] h = Rf d 176 65 [a0, a1, a2, a3, a4, a5, a6, a7, a8] [.int (s1 + s0), .int s2] h := Rf_go ((stp_of c176_64).trans rfl)
theorem c176_65 : cd 176 65 = some (65, .invokestatic 113, 3, [(0, 202)]) := by decide +kernel
theorem xc176_65 {d : Nat} {a0 a1 a2 a3 a4 a5 a6 a7 a8 : Value} {s0 : Int32} {s1 : Int32} {h : AHp} {h1 : AHp} {v : Int32} (hq : Rf d 202 0 [.int s1, .int s0] [] h = some (some (.int v), h1)) : Rf (d + 1) 176 65 [a0, a1, a2, a3, a4, a5, a6, a7, a8] [.int s0, .int s1] h = Rf (d + 1) 176 68 [a0, a1, a2, a3, a4, a5, a6, a7, a8] [.int v] h1 := clS (as := [.int s1, .int s0]) c176_65 rfl rfl (by simp [isV]) hq
theorem c176_68 : cd 176 68 = some (68, .istore 6, 2, []) := by decide +kernel
theorem x176_68 {d : Nat} {a0 a1 a2 a3 a4 a5 a6 a7 a8 : Value} {s0 : Int32} {h : AHp} : Rf d 176 68 [a0, a1, a2, a3, a4, a5, a6, a7, a8] [.int s0] h = Rf d 176 70 [a0, a1, a2, a3, a4, a5, .int s0, a7, a8] [] h := Rf_go ((stp_of c176_68).trans rfl)
theorem c176_70 : cd 176 70 = some (70, .iload 5, 2, []) := by decide +kernel
theorem x176_70 {d : Nat} {a0 a1 a2 a3 a4 a6 a7 a8 : Value} {x : Int32} {h : AHp} : Rf d 176 70 [a0, a1, a2, a3, a4, .int x, a6, a7, a8] [] h = Rf d 176 72 [a0, a1, a2, a3, a4, .int x, a6, a7, a8] [.int x] h := Rf_go ((stp_of c176_70).trans rfl)
theorem c176_72 : cd 176 72 = some (72, .bipush 10, 2, []) := by decide +kernel
theorem x176_72 {d : Nat} {a0 a1 a2 a3 a4 a5 a6 a7 a8 : Value} {s0 : Int32} {h : AHp} : Rf d 176 72 [a0, a1, a2, a3, a4, a5, a6, a7, a8] [.int s0] h = Rf d 176 74 [a0, a1, a2, a3, a4, a5, a6, a7, a8] [.int 10, .int s0] h := Rf_go ((stp_of c176_72).trans rfl)
theorem c176_74 : cd 176 74 = some (74, .aload_n 0, 1, []) := by decide +kernel
theorem x176_74 {d : Nat} {a1 a2 a3 a4 a5 a6 a7 a8 : Value} {s0 : Int32} {s1 : Int32} {x : Nat} {h : AHp} : Rf d 176 74 [.ref x, a1, a2, a3, a4, a5, a6, a7, a8] [.int s0, .int s1] h = Rf d 176 75 [.ref x, a1, a2, a3, a4, a5, a6, a7, a8] [.ref x, .int s0, .int s1] h := Rf_go ((stp_of c176_74).trans rfl)
theorem c176_75 : cd 176 75 = some (75, .getfield 9, 3, [(12, 0)]) := by decide +kernel
theorem x176_75 {d : Nat} {a0 a1 a2 a3 a4 a5 a6 a7 a8 : Value} {s0 : Nat} {s1 : Int32} {s2 : Int32} {h : AHp} : Rf d 176 75 [a0, a1, a2, a3, a4, a5, a6, a7, a8] [.ref s0, .int s1, .int s2] h = if cls (h.1 s0) = 12 ∧ oKr (h.1 s0) 0 = true then Rf d 176 78 [a0, a1, a2, a3, a4, a5, a6, a7, a8] [.ref (oR (h.1 s0) 0), .int s1, .int s2] h else Rx d 176 75 [a0, a1, a2, a3, a4, a5, a6, a7, a8] [.ref s0, .int s1, .int s2] h := getR c176_75
theorem c176_78 : cd 176 78 = some (78, .bipush 70, 2, []) := by decide +kernel
theorem x176_78 {d : Nat} {a0 a1 a2 a3 a4 a5 a6 a7 a8 : Value} {s0 : Nat} {s1 : Int32} {s2 : Int32} {h : AHp} : Rf d 176 78 [a0, a1, a2, a3, a4, a5, a6, a7, a8] [.ref s0, .int s1, .int s2] h = Rf d 176 80 [a0, a1, a2, a3, a4, a5, a6, a7, a8] [.int 70, .ref s0, .int s1, .int s2] h := Rf_go ((stp_of c176_78).trans rfl)
theorem c176_80 : cd 176 80 = some (80, .iload_n 1, 1, []) := by decide +kernel
theorem x176_80 {d : Nat} {a0 a2 a3 a4 a5 a6 a7 a8 : Value} {s0 : Int32} {s1 : Nat} {s2 : Int32} {s3 : Int32} {x : Int32} {h : AHp} : Rf d 176 80 [a0, .int x, a2, a3, a4, a5, a6, a7, a8] [.int s0, .ref s1, .int s2, .int s3] h = Rf d 176 81 [a0, .int x, a2, a3, a4, a5, a6, a7, a8] [.int x, .int s0, .ref s1, .int s2, .int s3] h := Rf_go ((stp_of c176_80).trans rfl)
theorem c176_81 : cd 176 81 = some (81, .iadd, 1, []) := by decide +kernel
theorem x176_81 {d : Nat} {a0 a1 a2 a3 a4 a5 a6 a7 a8 : Value} {s0 : Int32} {s1 : Int32} {s2 : Nat} {s3 : Int32} {s4 : Int32} {h : AHp} : Rf d 176 81 [a0, a1, a2, a3, a4, a5, a6, a7, a8] [.int s0, .int s1, .ref s2, .int s3, .int s4] h = Rf d 176 82 [a0, a1, a2, a3, a4, a5, a6, a7, a8] [.int (s1 + s0), .ref s2, .int s3, .int s4] h := Rf_go ((stp_of c176_81).trans rfl)
theorem c176_82 : cd 176 82 = some (82, .iaload, 1, []) := by decide +kernel
theorem x176_82 {d : Nat} {a0 a1 a2 a3 a4 a5 a6 a7 a8 : Value} {s0 : Int32} {s1 : Nat} {s2 : Int32} {s3 : Int32} {h : AHp} : Rf d 176 82 [a0, a1, a2, a3, a4, a5, a6, a7, a8] [.int s0, .ref s1, .int s2, .int s3] h = if (aT (h.1 s1) = 0 ∨ aT (h.1 s1) = 10) ∧ inB s0 (aN (h.1 s1)) = true then Rf d 176 83 [a0, a1, a2, a3, a4, a5, a6, a7, a8] [.int (aF (h.1 s1) s0.toNatClampNeg), .int s2, .int s3] h else Rx d 176 82 [a0, a1, a2, a3, a4, a5, a6, a7, a8] [.int s0, .ref s1, .int s2, .int s3] h := ldI c176_82
theorem c176_83 : cd 176 83 = some (83, .imul, 1, []) := by decide +kernel
theorem x176_83 {d : Nat} {a0 a1 a2 a3 a4 a5 a6 a7 a8 : Value} {s0 : Int32} {s1 : Int32} {s2 : Int32} {h : AHp} : Rf d 176 83 [a0, a1, a2, a3, a4, a5, a6, a7, a8] [.int s0, .int s1, .int s2] h = Rf d 176 84 [a0, a1, a2, a3, a4, a5, a6, a7, a8] [.int (s1 * s0), .int s2] h := Rf_go ((stp_of c176_83).trans rfl)
theorem c176_84 : cd 176 84 = some (84, .iadd, 1, []) := by decide +kernel
theorem x176_84 {d : Nat} {a0 a1 a2 a3 a4 a5 a6 a7 a8 : Value} {s0 : Int32} {s1 : Int32} {h : AHp} : Rf d 176 84 [a0, a1, a2, a3, a4, a5, a6, a7, a8] [.int s0, .int s1] h = Rf d 176 85 [a0, a1, a2, a3, a4, a5, a6, a7, a8] [.int (s1 + s0)] h := Rf_go ((stp_of c176_84).trans rfl)
theorem c176_85 : cd 176 85 = some (85, .istore 7, 2, []) := by decide +kernel
theorem x176_85 {d : Nat} {a0 a1 a2 a3 a4 a5 a6 a7 a8 : Value} {s0 : Int32} {h : AHp} : Rf d 176 85 [a0, a1, a2, a3, a4, a5, a6, a7, a8] [.int s0] h = Rf d 176 87 [a0, a1, a2, a3, a4, a5, a6, .int s0, a8] [] h := Rf_go ((stp_of c176_85).trans rfl)
theorem c176_87 : cd 176 87 = some (87, .iload_n 2, 1, []) := by decide +kernel
theorem x176_87 {d : Nat} {a0 a1 a3 a4 a5 a6 a7 a8 : Value} {x : Int32} {h : AHp} : Rf d 176 87 [a0, a1, .int x, a3, a4, a5, a6, a7, a8] [] h = Rf d 176 88 [a0, a1, .int x, a3, a4, a5, a6, a7, a8] [.int x] h := Rf_go ((stp_of c176_87).trans rfl)
theorem c176_88 : cd 176 88 = some (88, .ifCond .ne 27, 3, [(115, 0)]) := by decide +kernel
theorem x176_88 {d : Nat} {a0 a1 a2 a3 a4 a5 a6 a7 a8 : Value} {s0 : Int32} {h : AHp} : Rf d 176 88 [a0, a1, a2, a3, a4, a5, a6, a7, a8] [.int s0] h = if s0 = 0 then Rf d 176 91 [a0, a1, a2, a3, a4, a5, a6, a7, a8] [] h else Rf d 176 115 [a0, a1, a2, a3, a4, a5, a6, a7, a8] [] h := Rf_brn ((stp_of c176_88).trans rfl)
theorem c176_115 : cd 176 115 = some (115, .iload_n 2, 1, []) := by decide +kernel
theorem x176_115 {d : Nat} {a0 a1 a3 a4 a5 a6 a7 a8 : Value} {x : Int32} {h : AHp} : Rf d 176 115 [a0, a1, .int x, a3, a4, a5, a6, a7, a8] [] h = Rf d 176 116 [a0, a1, .int x, a3, a4, a5, a6, a7, a8] [.int x] h := Rf_go ((stp_of c176_115).trans rfl)
theorem c176_116 : cd 176 116 = some (116, .iconst 1, 1, []) := by decide +kernel
theorem x176_116 {d : Nat} {a0 a1 a2 a3 a4 a5 a6 a7 a8 : Value} {s0 : Int32} {h : AHp} : Rf d 176 116 [a0, a1, a2, a3, a4, a5, a6, a7, a8] [.int s0] h = Rf d 176 117 [a0, a1, a2, a3, a4, a5, a6, a7, a8] [.int 1, .int s0] h := Rf_go ((stp_of c176_116).trans rfl)
theorem c176_117 : cd 176 117 = some (117, .if_icmp .ne 25, 3, [(142, 0)]) := by decide +kernel
theorem x176_117 {d : Nat} {a0 a1 a2 a3 a4 a5 a6 a7 a8 : Value} {s0 : Int32} {s1 : Int32} {h : AHp} : Rf d 176 117 [a0, a1, a2, a3, a4, a5, a6, a7, a8] [.int s0, .int s1] h = if s1 = s0 then Rf d 176 120 [a0, a1, a2, a3, a4, a5, a6, a7, a8] [] h else Rf d 176 142 [a0, a1, a2, a3, a4, a5, a6, a7, a8] [] h := Rf_brn ((stp_of c176_117).trans rfl)
theorem c176_142 : cd 176 142 = some (142, .iload 6, 2, []) := by decide +kernel
theorem x176_142 {d : Nat} {a0 a1 a2 a3 a4 a5 a7 a8 : Value} {x : Int32} {h : AHp} : Rf d 176 142 [a0, a1, a2, a3, a4, a5, .int x, a7, a8] [] h = Rf d 176 144 [a0, a1, a2, a3, a4, a5, .int x, a7, a8] [.int x] h := Rf_go ((stp_of c176_142).trans rfl)
theorem c176_144 : cd 176 144 = some (144, .iload 7, 2, []) := by decide +kernel
theorem x176_144 {d : Nat} {a0 a1 a2 a3 a4 a5 a6 a8 : Value} {s0 : Int32} {x : Int32} {h : AHp} : Rf d 176 144 [a0, a1, a2, a3, a4, a5, a6, .int x, a8] [.int s0] h = Rf d 176 146 [a0, a1, a2, a3, a4, a5, a6, .int x, a8] [.int x, .int s0] h := Rf_go ((stp_of c176_144).trans rfl)
theorem c176_146 : cd 176 146 = some (146, .iadd, 1, []) := by decide +kernel
theorem x176_146 {d : Nat} {a0 a1 a2 a3 a4 a5 a6 a7 a8 : Value} {s0 : Int32} {s1 : Int32} {h : AHp} : Rf d 176 146 [a0, a1, a2, a3, a4, a5, a6, a7, a8] [.int s0, .int s1] h = Rf d 176 147 [a0, a1, a2, a3, a4, a5, a6, a7, a8] [.int (s1 + s0)] h := Rf_go ((stp_of c176_146).trans rfl)
theorem c176_147 : cd 176 147 = some (147, .iconst 2, 1, []) := by decide +kernel
theorem x176_147 {d : Nat} {a0 a1 a2 a3 a4 a5 a6 a7 a8 : Value} {s0 : Int32} {h : AHp} : Rf d 176 147 [a0, a1, a2, a3, a4, a5, a6, a7, a8] [.int s0] h = Rf d 176 148 [a0, a1, a2, a3, a4, a5, a6, a7, a8] [.int 2, .int s0] h := Rf_go ((stp_of c176_147).trans rfl)
theorem c176_148 : cd 176 148 = some (148, .idiv, 1, []) := by decide +kernel
theorem x176_148 {d : Nat} {a0 a1 a2 a3 a4 a5 a6 a7 a8 : Value} {s0 : Int32} {s1 : Int32} {h : AHp} : Rf d 176 148 [a0, a1, a2, a3, a4, a5, a6, a7, a8] [.int s0, .int s1] h = if ¬ s0 = 0 then Rf d 176 149 [a0, a1, a2, a3, a4, a5, a6, a7, a8] [.int (s1 / s0)] h else Rx d 176 148 [a0, a1, a2, a3, a4, a5, a6, a7, a8] [.int s0, .int s1] h := divE c176_148 (fun _ _ _ => rfl)
theorem c176_149 : cd 176 149 = some (149, .istore 8, 2, []) := by decide +kernel
theorem x176_149 {d : Nat} {a0 a1 a2 a3 a4 a5 a6 a7 a8 : Value} {s0 : Int32} {h : AHp} : Rf d 176 149 [a0, a1, a2, a3, a4, a5, a6, a7, a8] [.int s0] h = Rf d 176 151 [a0, a1, a2, a3, a4, a5, a6, a7, .int s0] [] h := Rf_go ((stp_of c176_149).trans rfl)
theorem c176_151 : cd 176 151 = some (151, .iload 8, 2, []) := by decide +kernel
theorem x176_151 {d : Nat} {a0 a1 a2 a3 a4 a5 a6 a7 : Value} {x : Int32} {h : AHp} : Rf d 176 151 [a0, a1, a2, a3, a4, a5, a6, a7, .int x] [] h = Rf d 176 153 [a0, a1, a2, a3, a4, a5, a6, a7, .int x] [.int x] h := Rf_go ((stp_of c176_151).trans rfl)
theorem c176_153 : cd 176 153 = some (153, .iload 4, 2, []) := by decide +kernel
theorem x176_153 {d : Nat} {a0 a1 a2 a3 a5 a6 a7 a8 : Value} {s0 : Int32} {x : Int32} {h : AHp} : Rf d 176 153 [a0, a1, a2, a3, .int x, a5, a6, a7, a8] [.int s0] h = Rf d 176 155 [a0, a1, a2, a3, .int x, a5, a6, a7, a8] [.int x, .int s0] h := Rf_go ((stp_of c176_153).trans rfl)
theorem c176_155 : cd 176 155 = some (155, .if_icmp .lt 9, 3, [(164, 0)]) := by decide +kernel
theorem x176_155 {d : Nat} {a0 a1 a2 a3 a4 a5 a6 a7 a8 : Value} {s0 : Int32} {s1 : Int32} {h : AHp} : Rf d 176 155 [a0, a1, a2, a3, a4, a5, a6, a7, a8] [.int s0, .int s1] h = if s1 < s0 then Rf d 176 164 [a0, a1, a2, a3, a4, a5, a6, a7, a8] [] h else Rf d 176 158 [a0, a1, a2, a3, a4, a5, a6, a7, a8] [] h := Rf_brd ((stp_of c176_155).trans rfl)
theorem c176_164 : cd 176 164 = some (164, .bipush (-5), 2, []) := by decide +kernel
theorem x176_164 {d : Nat} {a0 a1 a2 a3 a4 a5 a6 a7 a8 : Value} {h : AHp} : Rf d 176 164 [a0, a1, a2, a3, a4, a5, a6, a7, a8] [] h = Rf d 176 166 [a0, a1, a2, a3, a4, a5, a6, a7, a8] [.int (-5)] h := Rf_go ((stp_of c176_164).trans rfl)
theorem c176_166 : cd 176 166 = some (166, .goto 5, 3, [(171, 0)]) := by decide +kernel
theorem x176_166 {d : Nat} {a0 a1 a2 a3 a4 a5 a6 a7 a8 : Value} {s0 : Int32} {h : AHp} : Rf d 176 166 [a0, a1, a2, a3, a4, a5, a6, a7, a8] [.int s0] h = Rf d 176 171 [a0, a1, a2, a3, a4, a5, a6, a7, a8] [.int s0] h := Rf_go ((stp_of c176_166).trans rfl)
theorem c176_171 : cd 176 171 = some (171, .ireturn, 1, []) := by decide +kernel
theorem x176_171 {d : Nat} {a0 a1 a2 a3 a4 a5 a6 a7 a8 : Value} {s0 : Int32} {h : AHp} : Rf d 176 171 [a0, a1, a2, a3, a4, a5, a6, a7, a8] [.int s0] h = some (some (.int s0), h) := Rf_end (by rw [stp_of c176_171]; simp only [stpI]; rw [if_pos (show retI (mH 176).2.2.1 s0 = true from retI_int)])
theorem c176_158 : cd 176 158 = some (158, .iload 8, 2, []) := by decide +kernel
theorem x176_158 {d : Nat} {a0 a1 a2 a3 a4 a5 a6 a7 : Value} {x : Int32} {h : AHp} : Rf d 176 158 [a0, a1, a2, a3, a4, a5, a6, a7, .int x] [] h = Rf d 176 160 [a0, a1, a2, a3, a4, a5, a6, a7, .int x] [.int x] h := Rf_go ((stp_of c176_158).trans rfl)
theorem c176_160 : cd 176 160 = some (160, .iload_n 3, 1, []) := by decide +kernel
theorem x176_160 {d : Nat} {a0 a1 a2 a4 a5 a6 a7 a8 : Value} {s0 : Int32} {x : Int32} {h : AHp} : Rf d 176 160 [a0, a1, a2, .int x, a4, a5, a6, a7, a8] [.int s0] h = Rf d 176 161 [a0, a1, a2, .int x, a4, a5, a6, a7, a8] [.int x, .int s0] h := Rf_go ((stp_of c176_160).trans rfl)
theorem c176_161 : cd 176 161 = some (161, .if_icmp .le 8, 3, [(169, 0)]) := by decide +kernel
theorem x176_161 {d : Nat} {a0 a1 a2 a3 a4 a5 a6 a7 a8 : Value} {s0 : Int32} {s1 : Int32} {h : AHp} : Rf d 176 161 [a0, a1, a2, a3, a4, a5, a6, a7, a8] [.int s0, .int s1] h = if s0 < s1 then Rf d 176 164 [a0, a1, a2, a3, a4, a5, a6, a7, a8] [] h else Rf d 176 169 [a0, a1, a2, a3, a4, a5, a6, a7, a8] [] h := Rf_brn ((stp_of c176_161).trans rfl)
theorem c176_169 : cd 176 169 = some (169, .iload 8, 2, []) := by decide +kernel
theorem x176_169 {d : Nat} {a0 a1 a2 a3 a4 a5 a6 a7 : Value} {x : Int32} {h : AHp} : Rf d 176 169 [a0, a1, a2, a3, a4, a5, a6, a7, .int x] [] h = Rf d 176 171 [a0, a1, a2, a3, a4, a5, a6, a7, .int x] [.int x] h := Rf_go ((stp_of c176_169).trans rfl)
theorem c176_120 : cd 176 120 = some (120, .iload 7, 2, []) := by decide +kernel
theorem x176_120 {d : Nat} {a0 a1 a2 a3 a4 a5 a6 a8 : Value} {x : Int32} {h : AHp} : Rf d 176 120 [a0, a1, a2, a3, a4, a5, a6, .int x, a8] [] h = Rf d 176 122 [a0, a1, a2, a3, a4, a5, a6, .int x, a8] [.int x] h := Rf_go ((stp_of c176_120).trans rfl)
theorem c176_122 : cd 176 122 = some (122, .iload_n 3, 1, []) := by decide +kernel
theorem x176_122 {d : Nat} {a0 a1 a2 a4 a5 a6 a7 a8 : Value} {s0 : Int32} {x : Int32} {h : AHp} : Rf d 176 122 [a0, a1, a2, .int x, a4, a5, a6, a7, a8] [.int s0] h = Rf d 176 123 [a0, a1, a2, .int x, a4, a5, a6, a7, a8] [.int x, .int s0] h := Rf_go ((stp_of c176_122).trans rfl)
theorem c176_123 : cd 176 123 = some (123, .if_icmp .le 12, 3, [(135, 0)]) := by decide +kernel
theorem x176_123 {d : Nat} {a0 a1 a2 a3 a4 a5 a6 a7 a8 : Value} {s0 : Int32} {s1 : Int32} {h : AHp} : Rf d 176 123 [a0, a1, a2, a3, a4, a5, a6, a7, a8] [.int s0, .int s1] h = if s0 < s1 then Rf d 176 126 [a0, a1, a2, a3, a4, a5, a6, a7, a8] [] h else Rf d 176 135 [a0, a1, a2, a3, a4, a5, a6, a7, a8] [] h := Rf_brn ((stp_of c176_123).trans rfl)
theorem c176_135 : cd 176 135 = some (135, .iload 7, 2, []) := by decide +kernel
theorem x176_135 {d : Nat} {a0 a1 a2 a3 a4 a5 a6 a8 : Value} {x : Int32} {h : AHp} : Rf d 176 135 [a0, a1, a2, a3, a4, a5, a6, .int x, a8] [] h = Rf d 176 137 [a0, a1, a2, a3, a4, a5, a6, .int x, a8] [.int x] h := Rf_go ((stp_of c176_135).trans rfl)
theorem c176_137 : cd 176 137 = some (137, .istore 8, 2, []) := by decide +kernel
theorem x176_137 {d : Nat} {a0 a1 a2 a3 a4 a5 a6 a7 a8 : Value} {s0 : Int32} {h : AHp} : Rf d 176 137 [a0, a1, a2, a3, a4, a5, a6, a7, a8] [.int s0] h = Rf d 176 139 [a0, a1, a2, a3, a4, a5, a6, a7, .int s0] [] h := Rf_go ((stp_of c176_137).trans rfl)
theorem c176_139 : cd 176 139 = some (139, .goto 12, 3, [(151, 0)]) := by decide +kernel
theorem x176_139 {d : Nat} {a0 a1 a2 a3 a4 a5 a6 a7 a8 : Value} {h : AHp} : Rf d 176 139 [a0, a1, a2, a3, a4, a5, a6, a7, a8] [] h = Rf d 176 151 [a0, a1, a2, a3, a4, a5, a6, a7, a8] [] h := Rf_go ((stp_of c176_139).trans rfl)
theorem c176_126 : cd 176 126 = some (126, .iload 7, 2, []) := by decide +kernel
theorem x176_126 {d : Nat} {a0 a1 a2 a3 a4 a5 a6 a8 : Value} {x : Int32} {h : AHp} : Rf d 176 126 [a0, a1, a2, a3, a4, a5, a6, .int x, a8] [] h = Rf d 176 128 [a0, a1, a2, a3, a4, a5, a6, .int x, a8] [.int x] h := Rf_go ((stp_of c176_126).trans rfl)
theorem c176_128 : cd 176 128 = some (128, .iload_n 3, 1, []) := by decide +kernel
theorem x176_128 {d : Nat} {a0 a1 a2 a4 a5 a6 a7 a8 : Value} {s0 : Int32} {x : Int32} {h : AHp} : Rf d 176 128 [a0, a1, a2, .int x, a4, a5, a6, a7, a8] [.int s0] h = Rf d 176 129 [a0, a1, a2, .int x, a4, a5, a6, a7, a8] [.int x, .int s0] h := Rf_go ((stp_of c176_128).trans rfl)
theorem c176_129 : cd 176 129 = some (129, .iadd, 1, []) := by decide +kernel
theorem x176_129 {d : Nat} {a0 a1 a2 a3 a4 a5 a6 a7 a8 : Value} {s0 : Int32} {s1 : Int32} {h : AHp} : Rf d 176 129 [a0, a1, a2, a3, a4, a5, a6, a7, a8] [.int s0, .int s1] h = Rf d 176 130 [a0, a1, a2, a3, a4, a5, a6, a7, a8] [.int (s1 + s0)] h := Rf_go ((stp_of c176_129).trans rfl)
theorem c176_130 : cd 176 130 = some (130, .iconst 2, 1, []) := by decide +kernel
theorem x176_130 {d : Nat} {a0 a1 a2 a3 a4 a5 a6 a7 a8 : Value} {s0 : Int32} {h : AHp} : Rf d 176 130 [a0, a1, a2, a3, a4, a5, a6, a7, a8] [.int s0] h = Rf d 176 131 [a0, a1, a2, a3, a4, a5, a6, a7, a8] [.int 2, .int s0] h := Rf_go ((stp_of c176_130).trans rfl)
theorem c176_131 : cd 176 131 = some (131, .idiv, 1, []) := by decide +kernel
theorem x176_131 {d : Nat} {a0 a1 a2 a3 a4 a5 a6 a7 a8 : Value} {s0 : Int32} {s1 : Int32} {h : AHp} : Rf d 176 131 [a0, a1, a2, a3, a4, a5, a6, a7, a8] [.int s0, .int s1] h = if ¬ s0 = 0 then Rf d 176 132 [a0, a1, a2, a3, a4, a5, a6, a7, a8] [.int (s1 / s0)] h else Rx d 176 131 [a0, a1, a2, a3, a4, a5, a6, a7, a8] [.int s0, .int s1] h := divE c176_131 (fun _ _ _ => rfl)
theorem c176_132 : cd 176 132 = some (132, .goto 5, 3, [(137, 0)]) := by decide +kernel
theorem x176_132 {d : Nat} {a0 a1 a2 a3 a4 a5 a6 a7 a8 : Value} {s0 : Int32} {h : AHp} : Rf d 176 132 [a0, a1, a2, a3, a4, a5, a6, a7, a8] [.int s0] h = Rf d 176 137 [a0, a1, a2, a3, a4, a5, a6, a7, a8] [.int s0] h := Rf_go ((stp_of c176_132).trans rfl)
theorem c176_91 : cd 176 91 = some (91, .iload 5, 2, []) := by decide +kernel
theorem x176_91 {d : Nat} {a0 a1 a2 a3 a4 a6 a7 a8 : Value} {x : Int32} {h : AHp} : Rf d 176 91 [a0, a1, a2, a3, a4, .int x, a6, a7, a8] [] h = Rf d 176 93 [a0, a1, a2, a3, a4, .int x, a6, a7, a8] [.int x] h := Rf_go ((stp_of c176_91).trans rfl)
theorem c176_93 : cd 176 93 = some (93, .iload 6, 2, []) := by decide +kernel
theorem x176_93 {d : Nat} {a0 a1 a2 a3 a4 a5 a7 a8 : Value} {s0 : Int32} {x : Int32} {h : AHp} : Rf d 176 93 [a0, a1, a2, a3, a4, a5, .int x, a7, a8] [.int s0] h = Rf d 176 95 [a0, a1, a2, a3, a4, a5, .int x, a7, a8] [.int x, .int s0] h := Rf_go ((stp_of c176_93).trans rfl)
theorem c176_95 : cd 176 95 = some (95, .if_icmp .le 13, 3, [(108, 0)]) := by decide +kernel
theorem x176_95 {d : Nat} {a0 a1 a2 a3 a4 a5 a6 a7 a8 : Value} {s0 : Int32} {s1 : Int32} {h : AHp} : Rf d 176 95 [a0, a1, a2, a3, a4, a5, a6, a7, a8] [.int s0, .int s1] h = if s0 < s1 then Rf d 176 98 [a0, a1, a2, a3, a4, a5, a6, a7, a8] [] h else Rf d 176 108 [a0, a1, a2, a3, a4, a5, a6, a7, a8] [] h := Rf_brn ((stp_of c176_95).trans rfl)
theorem c176_108 : cd 176 108 = some (108, .iload 6, 2, []) := by decide +kernel
theorem x176_108 {d : Nat} {a0 a1 a2 a3 a4 a5 a7 a8 : Value} {x : Int32} {h : AHp} : Rf d 176 108 [a0, a1, a2, a3, a4, a5, .int x, a7, a8] [] h = Rf d 176 110 [a0, a1, a2, a3, a4, a5, .int x, a7, a8] [.int x] h := Rf_go ((stp_of c176_108).trans rfl)
theorem c176_110 : cd 176 110 = some (110, .istore 8, 2, []) := by decide +kernel
theorem x176_110 {d : Nat} {a0 a1 a2 a3 a4 a5 a6 a7 a8 : Value} {s0 : Int32} {h : AHp} : Rf d 176 110 [a0, a1, a2, a3, a4, a5, a6, a7, a8] [.int s0] h = Rf d 176 112 [a0, a1, a2, a3, a4, a5, a6, a7, .int s0] [] h := Rf_go ((stp_of c176_110).trans rfl)
theorem c176_112 : cd 176 112 = some (112, .goto 39, 3, [(151, 0)]) := by decide +kernel
theorem x176_112 {d : Nat} {a0 a1 a2 a3 a4 a5 a6 a7 a8 : Value} {h : AHp} : Rf d 176 112 [a0, a1, a2, a3, a4, a5, a6, a7, a8] [] h = Rf d 176 151 [a0, a1, a2, a3, a4, a5, a6, a7, a8] [] h := Rf_go ((stp_of c176_112).trans rfl)
theorem c176_98 : cd 176 98 = some (98, .iload 6, 2, []) := by decide +kernel
theorem x176_98 {d : Nat} {a0 a1 a2 a3 a4 a5 a7 a8 : Value} {x : Int32} {h : AHp} : Rf d 176 98 [a0, a1, a2, a3, a4, a5, .int x, a7, a8] [] h = Rf d 176 100 [a0, a1, a2, a3, a4, a5, .int x, a7, a8] [.int x] h := Rf_go ((stp_of c176_98).trans rfl)
theorem c176_100 : cd 176 100 = some (100, .iload 5, 2, []) := by decide +kernel
theorem x176_100 {d : Nat} {a0 a1 a2 a3 a4 a6 a7 a8 : Value} {s0 : Int32} {x : Int32} {h : AHp} : Rf d 176 100 [a0, a1, a2, a3, a4, .int x, a6, a7, a8] [.int s0] h = Rf d 176 102 [a0, a1, a2, a3, a4, .int x, a6, a7, a8] [.int x, .int s0] h := Rf_go ((stp_of c176_100).trans rfl)
theorem c176_102 : cd 176 102 = some (102, .iadd, 1, []) := by decide +kernel
theorem x176_102 {d : Nat} {a0 a1 a2 a3 a4 a5 a6 a7 a8 : Value} {s0 : Int32} {s1 : Int32} {h : AHp} : Rf d 176 102 [a0, a1, a2, a3, a4, a5, a6, a7, a8] [.int s0, .int s1] h = Rf d 176 103 [a0, a1, a2, a3, a4, a5, a6, a7, a8] [.int (s1 + s0)] h := Rf_go ((stp_of c176_102).trans rfl)
theorem c176_103 : cd 176 103 = some (103, .iconst 2, 1, []) := by decide +kernel
theorem x176_103 {d : Nat} {a0 a1 a2 a3 a4 a5 a6 a7 a8 : Value} {s0 : Int32} {h : AHp} : Rf d 176 103 [a0, a1, a2, a3, a4, a5, a6, a7, a8] [.int s0] h = Rf d 176 104 [a0, a1, a2, a3, a4, a5, a6, a7, a8] [.int 2, .int s0] h := Rf_go ((stp_of c176_103).trans rfl)
theorem c176_104 : cd 176 104 = some (104, .idiv, 1, []) := by decide +kernel
theorem x176_104 {d : Nat} {a0 a1 a2 a3 a4 a5 a6 a7 a8 : Value} {s0 : Int32} {s1 : Int32} {h : AHp} : Rf d 176 104 [a0, a1, a2, a3, a4, a5, a6, a7, a8] [.int s0, .int s1] h = if ¬ s0 = 0 then Rf d 176 105 [a0, a1, a2, a3, a4, a5, a6, a7, a8] [.int (s1 / s0)] h else Rx d 176 104 [a0, a1, a2, a3, a4, a5, a6, a7, a8] [.int s0, .int s1] h := divE c176_104 (fun _ _ _ => rfl)
theorem c176_105 : cd 176 105 = some (105, .goto 5, 3, [(110, 0)]) := by decide +kernel
theorem x176_105 {d : Nat} {a0 a1 a2 a3 a4 a5 a6 a7 a8 : Value} {s0 : Int32} {h : AHp} : Rf d 176 105 [a0, a1, a2, a3, a4, a5, a6, a7, a8] [.int s0] h = Rf d 176 110 [a0, a1, a2, a3, a4, a5, a6, a7, a8] [.int s0] h := Rf_go ((stp_of c176_105).trans rfl)
theorem c176_30 : cd 176 30 = some (30, .bipush (-2), 2, []) := by decide +kernel
theorem x176_30 {d : Nat} {a0 a1 a2 a3 a4 a5 a6 a7 a8 : Value} {h : AHp} : Rf d 176 30 [a0, a1, a2, a3, a4, a5, a6, a7, a8] [] h = Rf d 176 32 [a0, a1, a2, a3, a4, a5, a6, a7, a8] [.int (-2)] h := Rf_go ((stp_of c176_30).trans rfl)
theorem c176_32 : cd 176 32 = some (32, .ireturn, 1, []) := by decide +kernel
theorem x176_32 {d : Nat} {a0 a1 a2 a3 a4 a5 a6 a7 a8 : Value} {s0 : Int32} {h : AHp} : Rf d 176 32 [a0, a1, a2, a3, a4, a5, a6, a7, a8] [.int s0] h = some (some (.int s0), h) := Rf_end (by rw [stp_of c176_32]; simp only [stpI]; rw [if_pos (show retI (mH 176).2.2.1 s0 = true from retI_int)])
-- 177: X12_die
theorem c177_0 : cd 177 0 = some (0, .iload_n 1, 1, []) := by decide +kernel
theorem x177_0 {d : Nat} {a0 a2 : Value} {x : Int32} {h : AHp} : Rf d 177 0 [a0, .int x, a2] [] h = Rf d 177 1 [a0, .int x, a2] [.int x] h := Rf_go ((stp_of c177_0).trans rfl)
theorem c177_1 : cd 177 1 = some (1, .iconst 0, 1, []) := by decide +kernel
theorem x177_1 {d : Nat} {a0 a1 a2 : Value} {s0 : Int32} {h : AHp} : Rf d 177 1 [a0, a1, a2] [.int s0] h = Rf d 177 2 [a0, a1, a2] [.int 0, .int s0] h := Rf_go ((stp_of c177_1).trans rfl)
theorem c177_2 : cd 177 2 = some (2, .sipush 9999, 3, []) := by decide +kernel
theorem x177_2 {d : Nat} {a0 a1 a2 : Value} {s0 : Int32} {s1 : Int32} {h : AHp} : Rf d 177 2 [a0, a1, a2] [.int s0, .int s1] h = Rf d 177 5 [a0, a1, a2] [.int 9999, .int s0, .int s1] h := Rf_go ((stp_of c177_2).trans rfl)
theorem c177_5 : cd 177 5 = some (5, .invokestatic 31, 3, [(0, 131)]) := by decide +kernel
theorem xc177_5 {d : Nat} {a0 a1 a2 : Value} {s0 : Int32} {s1 : Int32} {s2 : Int32} {h : AHp} {h1 : AHp} {v : Int32} (hq : Rf d 131 0 [.int s2, .int s1, .int s0] [] h = some (some (.int v), h1)) : Rf (d + 1) 177 5 [a0, a1, a2] [.int s0, .int s1, .int s2] h = Rf (d + 1) 177 8 [a0, a1, a2] [.int v] h1 := clS (as := [.int s2, .int s1, .int s0]) c177_5 rfl rfl (by simp [isV]) hq
theorem c177_8 : cd 177 8 = some (8, .ifCond .ne 6, 3, [(14, 0)]) := by decide +kernel
theorem x177_8 {d : Nat} {a0 a1 a2 : Value} {s0 : Int32} {h : AHp} : Rf d 177 8 [a0, a1, a2] [.int s0] h = if s0 = 0 then Rf d 177 11 [a0, a1, a2] [] h else Rf d 177 14 [a0, a1, a2] [] h := Rf_brn ((stp_of c177_8).trans rfl)
theorem c177_14 : cd 177 14 = some (14, .aload_n 0, 1, []) := by decide +kernel
theorem x177_14 {d : Nat} {a1 a2 : Value} {x : Nat} {h : AHp} : Rf d 177 14 [.ref x, a1, a2] [] h = Rf d 177 15 [.ref x, a1, a2] [.ref x] h := Rf_go ((stp_of c177_14).trans rfl)
theorem c177_15 : cd 177 15 = some (15, .getfield 9, 3, [(12, 0)]) := by decide +kernel
theorem x177_15 {d : Nat} {a0 a1 a2 : Value} {s0 : Nat} {h : AHp} : Rf d 177 15 [a0, a1, a2] [.ref s0] h = if cls (h.1 s0) = 12 ∧ oKr (h.1 s0) 0 = true then Rf d 177 18 [a0, a1, a2] [.ref (oR (h.1 s0) 0)] h else Rx d 177 15 [a0, a1, a2] [.ref s0] h := getR c177_15
theorem c177_18 : cd 177 18 = some (18, .bipush 7, 2, []) := by decide +kernel
theorem x177_18 {d : Nat} {a0 a1 a2 : Value} {s0 : Nat} {h : AHp} : Rf d 177 18 [a0, a1, a2] [.ref s0] h = Rf d 177 20 [a0, a1, a2] [.int 7, .ref s0] h := Rf_go ((stp_of c177_18).trans rfl)
theorem c177_20 : cd 177 20 = some (20, .iaload, 1, []) := by decide +kernel
theorem x177_20 {d : Nat} {a0 a1 a2 : Value} {s0 : Int32} {s1 : Nat} {h : AHp} : Rf d 177 20 [a0, a1, a2] [.int s0, .ref s1] h = if (aT (h.1 s1) = 0 ∨ aT (h.1 s1) = 10) ∧ inB s0 (aN (h.1 s1)) = true then Rf d 177 21 [a0, a1, a2] [.int (aF (h.1 s1) s0.toNatClampNeg)] h else Rx d 177 20 [a0, a1, a2] [.int s0, .ref s1] h := ldI c177_20
theorem c177_21 : cd 177 21 = some (21, .istore_n 2, 1, []) := by decide +kernel
theorem x177_21 {d : Nat} {a0 a1 a2 : Value} {s0 : Int32} {h : AHp} : Rf d 177 21 [a0, a1, a2] [.int s0] h = Rf d 177 22 [a0, a1, .int s0] [] h := Rf_go ((stp_of c177_21).trans rfl)
theorem c177_22 : cd 177 22 = some (22, .aload_n 0, 1, []) := by decide +kernel
theorem x177_22 {d : Nat} {a1 a2 : Value} {x : Nat} {h : AHp} : Rf d 177 22 [.ref x, a1, a2] [] h = Rf d 177 23 [.ref x, a1, a2] [.ref x] h := Rf_go ((stp_of c177_22).trans rfl)
theorem c177_23 : cd 177 23 = some (23, .getfield 9, 3, [(12, 0)]) := by decide +kernel
theorem x177_23 {d : Nat} {a0 a1 a2 : Value} {s0 : Nat} {h : AHp} : Rf d 177 23 [a0, a1, a2] [.ref s0] h = if cls (h.1 s0) = 12 ∧ oKr (h.1 s0) 0 = true then Rf d 177 26 [a0, a1, a2] [.ref (oR (h.1 s0) 0)] h else Rx d 177 23 [a0, a1, a2] [.ref s0] h := getR c177_23
theorem c177_26 : cd 177 26 = some (26, .bipush 7, 2, []) := by decide +kernel
theorem x177_26 {d : Nat} {a0 a1 a2 : Value} {s0 : Nat} {h : AHp} : Rf d 177 26 [a0, a1, a2] [.ref s0] h = Rf d 177 28 [a0, a1, a2] [.int 7, .ref s0] h := Rf_go ((stp_of c177_26).trans rfl)
theorem c177_28 : cd 177 28 = some (28, .iload_n 1, 1, []) := by decide +kernel
theorem x177_28 {d : Nat} {a0 a2 : Value} {s0 : Int32} {s1 : Nat} {x : Int32} {h : AHp} : Rf d 177 28 [a0, .int x, a2] [.int s0, .ref s1] h = Rf d 177 29 [a0, .int x, a2] [.int x, .int s0, .ref s1] h := Rf_go ((stp_of c177_28).trans rfl)
theorem c177_29 : cd 177 29 = some (29, .iastore, 1, []) := by decide +kernel
theorem x177_29 {d : Nat} {a0 a1 a2 : Value} {s0 : Int32} {s1 : Int32} {s2 : Nat} {h : AHp} : Rf d 177 29 [a0, a1, a2] [.int s0, .int s1, .ref s2] h = if aT (h.1 s2) = 0 ∧ inB s1 (aN (h.1 s2)) = true then Rf d 177 30 [a0, a1, a2] [] (hset h s2 (.inl (0, aN (h.1 s2), .inl (upd (aF (h.1 s2)) s1.toNatClampNeg s0)))) else Rx d 177 29 [a0, a1, a2] [.int s0, .int s1, .ref s2] h := stI c177_29
theorem c177_30 : cd 177 30 = some (30, .iload_n 2, 1, []) := by decide +kernel
theorem x177_30 {d : Nat} {a0 a1 : Value} {x : Int32} {h : AHp} : Rf d 177 30 [a0, a1, .int x] [] h = Rf d 177 31 [a0, a1, .int x] [.int x] h := Rf_go ((stp_of c177_30).trans rfl)
theorem c177_31 : cd 177 31 = some (31, .ireturn, 1, []) := by decide +kernel
theorem x177_31 {d : Nat} {a0 a1 a2 : Value} {s0 : Int32} {h : AHp} : Rf d 177 31 [a0, a1, a2] [.int s0] h = some (some (.int s0), h) := Rf_end (by rw [stp_of c177_31]; simp only [stpI]; rw [if_pos (show retI (mH 177).2.2.1 s0 = true from retI_int)])
theorem c177_11 : cd 177 11 = some (11, .bipush (-2), 2, []) := by decide +kernel
theorem x177_11 {d : Nat} {a0 a1 a2 : Value} {h : AHp} : Rf d 177 11 [a0, a1, a2] [] h = Rf d 177 13 [a0, a1, a2] [.int (-2)] h := Rf_go ((stp_of c177_11).trans rfl)
theorem c177_13 : cd 177 13 = some (13, .ireturn, 1, []) := by decide +kernel
theorem x177_13 {d : Nat} {a0 a1 a2 : Value} {s0 : Int32} {h : AHp} : Rf d 177 13 [a0, a1, a2] [.int s0] h = some (some (.int s0), h) := Rf_end (by rw [stp_of c177_13]; simp only [stpI]; rw [if_pos (show retI (mH 177).2.2.1 s0 = true from retI_int)])
-- 178: X12_line
theorem c178_0 : cd 178 0 = some (0, .iconst 0, 1, []) := by decide +kernel
theorem x178_0 {d : Nat} {a0 a1 a2 : Value} {h : AHp} : Rf d 178 0 [a0, a1, a2] [] h = Rf d 178 1 [a0, a1, a2] [.int 0] h := Rf_go ((stp_of c178_0).trans rfl)
theorem c178_1 : cd 178 1 = some (1, .istore_n 1, 1, []) := by decide +kernel
theorem x178_1 {d : Nat} {a0 a1 a2 : Value} {s0 : Int32} {h : AHp} : Rf d 178 1 [a0, a1, a2] [.int s0] h = Rf d 178 2 [a0, .int s0, a2] [] h := Rf_go ((stp_of c178_1).trans rfl)
theorem c178_2 : cd 178 2 = some (2, .iconst 0, 1, []) := by decide +kernel
theorem x178_2 {d : Nat} {a0 a1 a2 : Value} {h : AHp} : Rf d 178 2 [a0, a1, a2] [] h = Rf d 178 3 [a0, a1, a2] [.int 0] h := Rf_go ((stp_of c178_2).trans rfl)
theorem c178_3 : cd 178 3 = some (3, .istore_n 2, 1, []) := by decide +kernel
theorem x178_3 {d : Nat} {a0 a1 a2 : Value} {s0 : Int32} {h : AHp} : Rf d 178 3 [a0, a1, a2] [.int s0] h = Rf d 178 4 [a0, a1, .int s0] [] h := Rf_go ((stp_of c178_3).trans rfl)
theorem c178_4 : cd 178 4 = some (4, .iload_n 2, 1, []) := by decide +kernel
theorem x178_4 {d : Nat} {a0 a1 : Value} {x : Int32} {h : AHp} : Rf d 178 4 [a0, a1, .int x] [] h = Rf d 178 5 [a0, a1, .int x] [.int x] h := Rf_go ((stp_of c178_4).trans rfl)
theorem c178_5 : cd 178 5 = some (5, .bipush 10, 2, []) := by decide +kernel
theorem x178_5 {d : Nat} {a0 a1 a2 : Value} {s0 : Int32} {h : AHp} : Rf d 178 5 [a0, a1, a2] [.int s0] h = Rf d 178 7 [a0, a1, a2] [.int 10, .int s0] h := Rf_go ((stp_of c178_5).trans rfl)
theorem c178_7 : cd 178 7 = some (7, .if_icmp .ge 31, 3, [(38, 0)]) := by decide +kernel
theorem x178_7 {d : Nat} {a0 a1 a2 : Value} {s0 : Int32} {s1 : Int32} {h : AHp} : Rf d 178 7 [a0, a1, a2] [.int s0, .int s1] h = if s1 < s0 then Rf d 178 10 [a0, a1, a2] [] h else Rf d 178 38 [a0, a1, a2] [] h := Rf_brn ((stp_of c178_7).trans rfl)
theorem c178_38 : cd 178 38 = some (38, .return_, 1, []) := by decide +kernel
theorem x178_38 {d : Nat} {a0 a1 a2 : Value} {h : AHp} : Rf d 178 38 [a0, a1, a2] [] h = some (none, h) := Rf_end (endV c178_38 (by decide +kernel))
theorem c178_10 : cd 178 10 = some (10, .aload_n 0, 1, []) := by decide +kernel
theorem x178_10 {d : Nat} {a1 a2 : Value} {x : Nat} {h : AHp} : Rf d 178 10 [.ref x, a1, a2] [] h = Rf d 178 11 [.ref x, a1, a2] [.ref x] h := Rf_go ((stp_of c178_10).trans rfl)
theorem c178_11 : cd 178 11 = some (11, .iload_n 2, 1, []) := by decide +kernel
theorem x178_11 {d : Nat} {a0 a1 : Value} {s0 : Nat} {x : Int32} {h : AHp} : Rf d 178 11 [a0, a1, .int x] [.ref s0] h = Rf d 178 12 [a0, a1, .int x] [.int x, .ref s0] h := Rf_go ((stp_of c178_11).trans rfl)
theorem c178_12 : cd 178 12 = some (12, .invokevirtual 136, 3, [(12, 157)]) := by decide +kernel
theorem xc178_12 {d : Nat} {a0 a1 a2 : Value} {s0 : Int32} {s1 : Nat} {h : AHp} {h1 : AHp} {v : Int32} (hr : cls (h.1 s1) = 12) (hq : Rf d 157 0 [.ref s1, .int s0, noV] [] h = some (some (.int v), h1)) : Rf (d + 1) 178 12 [a0, a1, a2] [.int s0, .ref s1] h = Rf (d + 1) 178 15 [a0, a1, a2] [.int v] h1 := clV (c := 157) (as := [.int s0]) c178_12 rfl (by simp [isV]) (by rw [hr]; rfl) hq
theorem c178_15 : cd 178 15 = some (15, .ifCond .lt 17, 3, [(32, 0)]) := by decide +kernel
theorem x178_15 {d : Nat} {a0 a1 a2 : Value} {s0 : Int32} {h : AHp} : Rf d 178 15 [a0, a1, a2] [.int s0] h = if s0 < 0 then Rf d 178 32 [a0, a1, a2] [] h else Rf d 178 18 [a0, a1, a2] [] h := Rf_brd ((stp_of c178_15).trans rfl)
theorem c178_32 : cd 178 32 = some (32, .iinc 2 1, 3, []) := by decide +kernel
theorem x178_32 {d : Nat} {a0 a1 : Value} {x : Int32} {h : AHp} : Rf d 178 32 [a0, a1, .int x] [] h = Rf d 178 35 [a0, a1, .int (x + 1)] [] h := Rf_go ((stp_of c178_32).trans rfl)
theorem c178_35 : cd 178 35 = some (35, .goto (-31), 3, [(4, 0)]) := by decide +kernel
theorem x178_35 {d : Nat} {a0 a1 a2 : Value} {h : AHp} : Rf d 178 35 [a0, a1, a2] [] h = Rf d 178 4 [a0, a1, a2] [] h := Rf_go ((stp_of c178_35).trans rfl)
theorem c178_18 : cd 178 18 = some (18, .aload_n 0, 1, []) := by decide +kernel
theorem x178_18 {d : Nat} {a1 a2 : Value} {x : Nat} {h : AHp} : Rf d 178 18 [.ref x, a1, a2] [] h = Rf d 178 19 [.ref x, a1, a2] [.ref x] h := Rf_go ((stp_of c178_18).trans rfl)
theorem c178_19 : cd 178 19 = some (19, .getfield 19, 3, [(12, 7)]) := by decide +kernel
theorem x178_19 {d : Nat} {a0 a1 a2 : Value} {s0 : Nat} {h : AHp} : Rf d 178 19 [a0, a1, a2] [.ref s0] h = if cls (h.1 s0) = 12 ∧ oKr (h.1 s0) 7 = true then Rf d 178 22 [a0, a1, a2] [.ref (oR (h.1 s0) 7)] h else Rx d 178 19 [a0, a1, a2] [.ref s0] h := getR c178_19
theorem c178_22 : cd 178 22 = some (22, .iload_n 1, 1, []) := by decide +kernel
theorem x178_22 {d : Nat} {a0 a2 : Value} {s0 : Nat} {x : Int32} {h : AHp} : Rf d 178 22 [a0, .int x, a2] [.ref s0] h = Rf d 178 23 [a0, .int x, a2] [.int x, .ref s0] h := Rf_go ((stp_of c178_22).trans rfl)
theorem c178_23 : cd 178 23 = some (23, .iinc 1 1, 3, []) := by decide +kernel
theorem x178_23 {d : Nat} {a0 a2 : Value} {s0 : Int32} {s1 : Nat} {x : Int32} {h : AHp} : Rf d 178 23 [a0, .int x, a2] [.int s0, .ref s1] h = Rf d 178 26 [a0, .int (x + 1), a2] [.int s0, .ref s1] h := Rf_go ((stp_of c178_23).trans rfl)
theorem c178_26 : cd 178 26 = some (26, .aload_n 0, 1, []) := by decide +kernel
theorem x178_26 {d : Nat} {a1 a2 : Value} {s0 : Int32} {s1 : Nat} {x : Nat} {h : AHp} : Rf d 178 26 [.ref x, a1, a2] [.int s0, .ref s1] h = Rf d 178 27 [.ref x, a1, a2] [.ref x, .int s0, .ref s1] h := Rf_go ((stp_of c178_26).trans rfl)
theorem c178_27 : cd 178 27 = some (27, .iload_n 2, 1, []) := by decide +kernel
theorem x178_27 {d : Nat} {a0 a1 : Value} {s0 : Nat} {s1 : Int32} {s2 : Nat} {x : Int32} {h : AHp} : Rf d 178 27 [a0, a1, .int x] [.ref s0, .int s1, .ref s2] h = Rf d 178 28 [a0, a1, .int x] [.int x, .ref s0, .int s1, .ref s2] h := Rf_go ((stp_of c178_27).trans rfl)
theorem c178_28 : cd 178 28 = some (28, .invokevirtual 136, 3, [(12, 157)]) := by decide +kernel
theorem xc178_28 {d : Nat} {a0 a1 a2 : Value} {s0 : Int32} {s1 : Nat} {s2 : Int32} {s3 : Nat} {h : AHp} {h1 : AHp} {v : Int32} (hr : cls (h.1 s1) = 12) (hq : Rf d 157 0 [.ref s1, .int s0, noV] [] h = some (some (.int v), h1)) : Rf (d + 1) 178 28 [a0, a1, a2] [.int s0, .ref s1, .int s2, .ref s3] h = Rf (d + 1) 178 31 [a0, a1, a2] [.int v, .int s2, .ref s3] h1 := clV (c := 157) (as := [.int s0]) c178_28 rfl (by simp [isV]) (by rw [hr]; rfl) hq
theorem c178_31 : cd 178 31 = some (31, .iastore, 1, []) := by decide +kernel
theorem x178_31 {d : Nat} {a0 a1 a2 : Value} {s0 : Int32} {s1 : Int32} {s2 : Nat} {h : AHp} : Rf d 178 31 [a0, a1, a2] [.int s0, .int s1, .ref s2] h = if aT (h.1 s2) = 0 ∧ inB s1 (aN (h.1 s2)) = true then Rf d 178 32 [a0, a1, a2] [] (hset h s2 (.inl (0, aN (h.1 s2), .inl (upd (aF (h.1 s2)) s1.toNatClampNeg s0)))) else Rx d 178 31 [a0, a1, a2] [.int s0, .int s1, .ref s2] h := stI c178_31
-- 179: X12_slip
theorem c179_0 : cd 179 0 = some (0, .iload_n 1, 1, []) := by decide +kernel
theorem x179_0 {d : Nat} {a0 a2 a3 : Value} {x : Int32} {h : AHp} : Rf d 179 0 [a0, .int x, a2, a3] [] h = Rf d 179 1 [a0, .int x, a2, a3] [.int x] h := Rf_go ((stp_of c179_0).trans rfl)
theorem c179_1 : cd 179 1 = some (1, .iconst (-1), 1, []) := by decide +kernel
theorem x179_1 {d : Nat} {a0 a1 a2 a3 : Value} {s0 : Int32} {h : AHp} : Rf d 179 1 [a0, a1, a2, a3] [.int s0] h = Rf d 179 2 [a0, a1, a2, a3] [.int (-1), .int s0] h := Rf_go ((stp_of c179_1).trans rfl)
theorem c179_2 : cd 179 2 = some (2, .aload_n 0, 1, []) := by decide +kernel
theorem x179_2 {d : Nat} {a1 a2 a3 : Value} {s0 : Int32} {s1 : Int32} {x : Nat} {h : AHp} : Rf d 179 2 [.ref x, a1, a2, a3] [.int s0, .int s1] h = Rf d 179 3 [.ref x, a1, a2, a3] [.ref x, .int s0, .int s1] h := Rf_go ((stp_of c179_2).trans rfl)
theorem c179_3 : cd 179 3 = some (3, .getfield 9, 3, [(12, 0)]) := by decide +kernel
theorem x179_3 {d : Nat} {a0 a1 a2 a3 : Value} {s0 : Nat} {s1 : Int32} {s2 : Int32} {h : AHp} : Rf d 179 3 [a0, a1, a2, a3] [.ref s0, .int s1, .int s2] h = if cls (h.1 s0) = 12 ∧ oKr (h.1 s0) 0 = true then Rf d 179 6 [a0, a1, a2, a3] [.ref (oR (h.1 s0) 0), .int s1, .int s2] h else Rx d 179 3 [a0, a1, a2, a3] [.ref s0, .int s1, .int s2] h := getR c179_3
theorem c179_6 : cd 179 6 = some (6, .iconst 0, 1, []) := by decide +kernel
theorem x179_6 {d : Nat} {a0 a1 a2 a3 : Value} {s0 : Nat} {s1 : Int32} {s2 : Int32} {h : AHp} : Rf d 179 6 [a0, a1, a2, a3] [.ref s0, .int s1, .int s2] h = Rf d 179 7 [a0, a1, a2, a3] [.int 0, .ref s0, .int s1, .int s2] h := Rf_go ((stp_of c179_6).trans rfl)
theorem c179_7 : cd 179 7 = some (7, .iaload, 1, []) := by decide +kernel
theorem x179_7 {d : Nat} {a0 a1 a2 a3 : Value} {s0 : Int32} {s1 : Nat} {s2 : Int32} {s3 : Int32} {h : AHp} : Rf d 179 7 [a0, a1, a2, a3] [.int s0, .ref s1, .int s2, .int s3] h = if (aT (h.1 s1) = 0 ∨ aT (h.1 s1) = 10) ∧ inB s0 (aN (h.1 s1)) = true then Rf d 179 8 [a0, a1, a2, a3] [.int (aF (h.1 s1) s0.toNatClampNeg), .int s2, .int s3] h else Rx d 179 7 [a0, a1, a2, a3] [.int s0, .ref s1, .int s2, .int s3] h := ldI c179_7
theorem c179_8 : cd 179 8 = some (8, .iconst 1, 1, []) := by decide +kernel
theorem x179_8 {d : Nat} {a0 a1 a2 a3 : Value} {s0 : Int32} {s1 : Int32} {s2 : Int32} {h : AHp} : Rf d 179 8 [a0, a1, a2, a3] [.int s0, .int s1, .int s2] h = Rf d 179 9 [a0, a1, a2, a3] [.int 1, .int s0, .int s1, .int s2] h := Rf_go ((stp_of c179_8).trans rfl)
theorem c179_9 : cd 179 9 = some (9, .isub, 1, []) := by decide +kernel
theorem x179_9 {d : Nat} {a0 a1 a2 a3 : Value} {s0 : Int32} {s1 : Int32} {s2 : Int32} {s3 : Int32} {h : AHp} : Rf d 179 9 [a0, a1, a2, a3] [.int s0, .int s1, .int s2, .int s3] h = Rf d 179 10 [a0, a1, a2, a3] [.int (s1 - s0), .int s2, .int s3] h := Rf_go ((stp_of c179_9).trans rfl)
theorem c179_10 : cd 179 10 = some (10, .invokestatic 31, 3, [(0, 131)]) := by decide +kernel
theorem xc179_10 {d : Nat} {a0 a1 a2 a3 : Value} {s0 : Int32} {s1 : Int32} {s2 : Int32} {h : AHp} {h1 : AHp} {v : Int32} (hq : Rf d 131 0 [.int s2, .int s1, .int s0] [] h = some (some (.int v), h1)) : Rf (d + 1) 179 10 [a0, a1, a2, a3] [.int s0, .int s1, .int s2] h = Rf (d + 1) 179 13 [a0, a1, a2, a3] [.int v] h1 := clS (as := [.int s2, .int s1, .int s0]) c179_10 rfl rfl (by simp [isV]) hq
theorem c179_13 : cd 179 13 = some (13, .ifCond .ne 5, 3, [(18, 0)]) := by decide +kernel
theorem x179_13 {d : Nat} {a0 a1 a2 a3 : Value} {s0 : Int32} {h : AHp} : Rf d 179 13 [a0, a1, a2, a3] [.int s0] h = if s0 = 0 then Rf d 179 16 [a0, a1, a2, a3] [] h else Rf d 179 18 [a0, a1, a2, a3] [] h := Rf_brn ((stp_of c179_13).trans rfl)
theorem c179_18 : cd 179 18 = some (18, .iload_n 1, 1, []) := by decide +kernel
theorem x179_18 {d : Nat} {a0 a2 a3 : Value} {x : Int32} {h : AHp} : Rf d 179 18 [a0, .int x, a2, a3] [] h = Rf d 179 19 [a0, .int x, a2, a3] [.int x] h := Rf_go ((stp_of c179_18).trans rfl)
theorem c179_19 : cd 179 19 = some (19, .ifCond .ge 12, 3, [(31, 0)]) := by decide +kernel
theorem x179_19 {d : Nat} {a0 a1 a2 a3 : Value} {s0 : Int32} {h : AHp} : Rf d 179 19 [a0, a1, a2, a3] [.int s0] h = if s0 < 0 then Rf d 179 22 [a0, a1, a2, a3] [] h else Rf d 179 31 [a0, a1, a2, a3] [] h := Rf_brn ((stp_of c179_19).trans rfl)
theorem c179_31 : cd 179 31 = some (31, .aload_n 0, 1, []) := by decide +kernel
theorem x179_31 {d : Nat} {a1 a2 a3 : Value} {x : Nat} {h : AHp} : Rf d 179 31 [.ref x, a1, a2, a3] [] h = Rf d 179 32 [.ref x, a1, a2, a3] [.ref x] h := Rf_go ((stp_of c179_31).trans rfl)
theorem c179_32 : cd 179 32 = some (32, .invokevirtual 177, 3, [(12, 178)]) := by decide +kernel
theorem xc179_32 {d : Nat} {a0 a1 a2 a3 : Value} {s0 : Nat} {h : AHp} {h1 : AHp} (hr : cls (h.1 s0) = 12) (hq : Rf d 178 0 [.ref s0, noV, noV] [] h = some (none, h1)) : Rf (d + 1) 179 32 [a0, a1, a2, a3] [.ref s0] h = Rf (d + 1) 179 35 [a0, a1, a2, a3] [] h1 := clV (c := 178) (as := []) c179_32 rfl (by simp [isV]) (by rw [hr]; rfl) hq
theorem c179_35 : cd 179 35 = some (35, .aload_n 0, 1, []) := by decide +kernel
theorem x179_35 {d : Nat} {a1 a2 a3 : Value} {x : Nat} {h : AHp} : Rf d 179 35 [.ref x, a1, a2, a3] [] h = Rf d 179 36 [.ref x, a1, a2, a3] [.ref x] h := Rf_go ((stp_of c179_35).trans rfl)
theorem c179_36 : cd 179 36 = some (36, .getfield 9, 3, [(12, 0)]) := by decide +kernel
theorem x179_36 {d : Nat} {a0 a1 a2 a3 : Value} {s0 : Nat} {h : AHp} : Rf d 179 36 [a0, a1, a2, a3] [.ref s0] h = if cls (h.1 s0) = 12 ∧ oKr (h.1 s0) 0 = true then Rf d 179 39 [a0, a1, a2, a3] [.ref (oR (h.1 s0) 0)] h else Rx d 179 36 [a0, a1, a2, a3] [.ref s0] h := getR c179_36
theorem c179_39 : cd 179 39 = some (39, .bipush 7, 2, []) := by decide +kernel
theorem x179_39 {d : Nat} {a0 a1 a2 a3 : Value} {s0 : Nat} {h : AHp} : Rf d 179 39 [a0, a1, a2, a3] [.ref s0] h = Rf d 179 41 [a0, a1, a2, a3] [.int 7, .ref s0] h := Rf_go ((stp_of c179_39).trans rfl)
theorem c179_41 : cd 179 41 = some (41, .iaload, 1, []) := by decide +kernel
theorem x179_41 {d : Nat} {a0 a1 a2 a3 : Value} {s0 : Int32} {s1 : Nat} {h : AHp} : Rf d 179 41 [a0, a1, a2, a3] [.int s0, .ref s1] h = if (aT (h.1 s1) = 0 ∨ aT (h.1 s1) = 10) ∧ inB s0 (aN (h.1 s1)) = true then Rf d 179 42 [a0, a1, a2, a3] [.int (aF (h.1 s1) s0.toNatClampNeg)] h else Rx d 179 41 [a0, a1, a2, a3] [.int s0, .ref s1] h := ldI c179_41
theorem c179_42 : cd 179 42 = some (42, .istore_n 2, 1, []) := by decide +kernel
theorem x179_42 {d : Nat} {a0 a1 a2 a3 : Value} {s0 : Int32} {h : AHp} : Rf d 179 42 [a0, a1, a2, a3] [.int s0] h = Rf d 179 43 [a0, a1, .int s0, a3] [] h := Rf_go ((stp_of c179_42).trans rfl)
theorem c179_43 : cd 179 43 = some (43, .iconst 0, 1, []) := by decide +kernel
theorem x179_43 {d : Nat} {a0 a1 a2 a3 : Value} {h : AHp} : Rf d 179 43 [a0, a1, a2, a3] [] h = Rf d 179 44 [a0, a1, a2, a3] [.int 0] h := Rf_go ((stp_of c179_43).trans rfl)
theorem c179_44 : cd 179 44 = some (44, .istore_n 3, 1, []) := by decide +kernel
theorem x179_44 {d : Nat} {a0 a1 a2 a3 : Value} {s0 : Int32} {h : AHp} : Rf d 179 44 [a0, a1, a2, a3] [.int s0] h = Rf d 179 45 [a0, a1, a2, .int s0] [] h := Rf_go ((stp_of c179_44).trans rfl)
theorem c179_45 : cd 179 45 = some (45, .iload_n 3, 1, []) := by decide +kernel
theorem x179_45 {d : Nat} {a0 a1 a2 : Value} {x : Int32} {h : AHp} : Rf d 179 45 [a0, a1, a2, .int x] [] h = Rf d 179 46 [a0, a1, a2, .int x] [.int x] h := Rf_go ((stp_of c179_45).trans rfl)
theorem c179_46 : cd 179 46 = some (46, .iload_n 1, 1, []) := by decide +kernel
theorem x179_46 {d : Nat} {a0 a2 a3 : Value} {s0 : Int32} {x : Int32} {h : AHp} : Rf d 179 46 [a0, .int x, a2, a3] [.int s0] h = Rf d 179 47 [a0, .int x, a2, a3] [.int x, .int s0] h := Rf_go ((stp_of c179_46).trans rfl)
theorem c179_47 : cd 179 47 = some (47, .if_icmp .gt 30, 3, [(77, 0)]) := by decide +kernel
theorem x179_47 {d : Nat} {a0 a1 a2 a3 : Value} {s0 : Int32} {s1 : Int32} {h : AHp} : Rf d 179 47 [a0, a1, a2, a3] [.int s0, .int s1] h = if s0 < s1 then Rf d 179 77 [a0, a1, a2, a3] [] h else Rf d 179 50 [a0, a1, a2, a3] [] h := Rf_brd ((stp_of c179_47).trans rfl)
theorem c179_77 : cd 179 77 = some (77, .iload_n 2, 1, []) := by decide +kernel
theorem x179_77 {d : Nat} {a0 a1 a3 : Value} {x : Int32} {h : AHp} : Rf d 179 77 [a0, a1, .int x, a3] [] h = Rf d 179 78 [a0, a1, .int x, a3] [.int x] h := Rf_go ((stp_of c179_77).trans rfl)
theorem c179_78 : cd 179 78 = some (78, .ireturn, 1, []) := by decide +kernel
theorem x179_78 {d : Nat} {a0 a1 a2 a3 : Value} {s0 : Int32} {h : AHp} : Rf d 179 78 [a0, a1, a2, a3] [.int s0] h = some (some (.int s0), h) := Rf_end (by rw [stp_of c179_78]; simp only [stpI]; rw [if_pos (show retI (mH 179).2.2.1 s0 = true from retI_int)])
theorem c179_50 : cd 179 50 = some (50, .iload_n 2, 1, []) := by decide +kernel
theorem x179_50 {d : Nat} {a0 a1 a3 : Value} {x : Int32} {h : AHp} : Rf d 179 50 [a0, a1, .int x, a3] [] h = Rf d 179 51 [a0, a1, .int x, a3] [.int x] h := Rf_go ((stp_of c179_50).trans rfl)
theorem c179_51 : cd 179 51 = some (51, .aload_n 0, 1, []) := by decide +kernel
theorem x179_51 {d : Nat} {a1 a2 a3 : Value} {s0 : Int32} {x : Nat} {h : AHp} : Rf d 179 51 [.ref x, a1, a2, a3] [.int s0] h = Rf d 179 52 [.ref x, a1, a2, a3] [.ref x, .int s0] h := Rf_go ((stp_of c179_51).trans rfl)
theorem c179_52 : cd 179 52 = some (52, .getfield 9, 3, [(12, 0)]) := by decide +kernel
theorem x179_52 {d : Nat} {a0 a1 a2 a3 : Value} {s0 : Nat} {s1 : Int32} {h : AHp} : Rf d 179 52 [a0, a1, a2, a3] [.ref s0, .int s1] h = if cls (h.1 s0) = 12 ∧ oKr (h.1 s0) 0 = true then Rf d 179 55 [a0, a1, a2, a3] [.ref (oR (h.1 s0) 0), .int s1] h else Rx d 179 52 [a0, a1, a2, a3] [.ref s0, .int s1] h := getR c179_52
theorem c179_55 : cd 179 55 = some (55, .bipush 20, 2, []) := by decide +kernel
theorem x179_55 {d : Nat} {a0 a1 a2 a3 : Value} {s0 : Nat} {s1 : Int32} {h : AHp} : Rf d 179 55 [a0, a1, a2, a3] [.ref s0, .int s1] h = Rf d 179 57 [a0, a1, a2, a3] [.int 20, .ref s0, .int s1] h := Rf_go ((stp_of c179_55).trans rfl)
theorem c179_57 : cd 179 57 = some (57, .aload_n 0, 1, []) := by decide +kernel
theorem x179_57 {d : Nat} {a1 a2 a3 : Value} {s0 : Int32} {s1 : Nat} {s2 : Int32} {x : Nat} {h : AHp} : Rf d 179 57 [.ref x, a1, a2, a3] [.int s0, .ref s1, .int s2] h = Rf d 179 58 [.ref x, a1, a2, a3] [.ref x, .int s0, .ref s1, .int s2] h := Rf_go ((stp_of c179_57).trans rfl)
theorem c179_58 : cd 179 58 = some (58, .getfield 19, 3, [(12, 7)]) := by decide +kernel
theorem x179_58 {d : Nat} {a0 a1 a2 a3 : Value} {s0 : Nat} {s1 : Int32} {s2 : Nat} {s3 : Int32} {h : AHp} : Rf d 179 58 [a0, a1, a2, a3] [.ref s0, .int s1, .ref s2, .int s3] h = if cls (h.1 s0) = 12 ∧ oKr (h.1 s0) 7 = true then Rf d 179 61 [a0, a1, a2, a3] [.ref (oR (h.1 s0) 7), .int s1, .ref s2, .int s3] h else Rx d 179 58 [a0, a1, a2, a3] [.ref s0, .int s1, .ref s2, .int s3] h := getR c179_58
theorem c179_61 : cd 179 61 = some (61, .iload_n 3, 1, []) := by decide +kernel
theorem x179_61 {d : Nat} {a0 a1 a2 : Value} {s0 : Nat} {s1 : Int32} {s2 : Nat} {s3 : Int32} {x : Int32} {h : AHp} : Rf d 179 61 [a0, a1, a2, .int x] [.ref s0, .int s1, .ref s2, .int s3] h = Rf d 179 62 [a0, a1, a2, .int x] [.int x, .ref s0, .int s1, .ref s2, .int s3] h := Rf_go ((stp_of c179_61).trans rfl)
theorem c179_62 : cd 179 62 = some (62, .iaload, 1, []) := by decide +kernel
theorem x179_62 {d : Nat} {a0 a1 a2 a3 : Value} {s0 : Int32} {s1 : Nat} {s2 : Int32} {s3 : Nat} {s4 : Int32} {h : AHp} : Rf d 179 62 [a0, a1, a2, a3] [.int s0, .ref s1, .int s2, .ref s3, .int s4] h = if (aT (h.1 s1) = 0 ∨ aT (h.1 s1) = 10) ∧ inB s0 (aN (h.1 s1)) = true then Rf d 179 63 [a0, a1, a2, a3] [.int (aF (h.1 s1) s0.toNatClampNeg), .int s2, .ref s3, .int s4] h else Rx d 179 62 [a0, a1, a2, a3] [.int s0, .ref s1, .int s2, .ref s3, .int s4] h := ldI c179_62
theorem c179_63 : cd 179 63 = some (63, .iadd, 1, []) := by decide +kernel
theorem x179_63 {d : Nat} {a0 a1 a2 a3 : Value} {s0 : Int32} {s1 : Int32} {s2 : Nat} {s3 : Int32} {h : AHp} : Rf d 179 63 [a0, a1, a2, a3] [.int s0, .int s1, .ref s2, .int s3] h = Rf d 179 64 [a0, a1, a2, a3] [.int (s1 + s0), .ref s2, .int s3] h := Rf_go ((stp_of c179_63).trans rfl)
theorem c179_64 : cd 179 64 = some (64, .iaload, 1, []) := by decide +kernel
theorem x179_64 {d : Nat} {a0 a1 a2 a3 : Value} {s0 : Int32} {s1 : Nat} {s2 : Int32} {h : AHp} : Rf d 179 64 [a0, a1, a2, a3] [.int s0, .ref s1, .int s2] h = if (aT (h.1 s1) = 0 ∨ aT (h.1 s1) = 10) ∧ inB s0 (aN (h.1 s1)) = true then Rf d 179 65 [a0, a1, a2, a3] [.int (aF (h.1 s1) s0.toNatClampNeg), .int s2] h else Rx d 179 64 [a0, a1, a2, a3] [.int s0, .ref s1, .int s2] h := ldI c179_64
theorem c179_65 : cd 179 65 = some (65, .iadd, 1, []) := by decide +kernel
theorem x179_65 {d : Nat} {a0 a1 a2 a3 : Value} {s0 : Int32} {s1 : Int32} {h : AHp} : Rf d 179 65 [a0, a1, a2, a3] [.int s0, .int s1] h = Rf d 179 66 [a0, a1, a2, a3] [.int (s1 + s0)] h := Rf_go ((stp_of c179_65).trans rfl)
theorem c179_66 : cd 179 66 = some (66, .sipush 10000, 3, []) := by decide +kernel
theorem x179_66 {d : Nat} {a0 a1 a2 a3 : Value} {s0 : Int32} {h : AHp} : Rf d 179 66 [a0, a1, a2, a3] [.int s0] h = Rf d 179 69 [a0, a1, a2, a3] [.int 10000, .int s0] h := Rf_go ((stp_of c179_66).trans rfl)
theorem c179_69 : cd 179 69 = some (69, .irem, 1, []) := by decide +kernel
theorem x179_69 {d : Nat} {a0 a1 a2 a3 : Value} {s0 : Int32} {s1 : Int32} {h : AHp} : Rf d 179 69 [a0, a1, a2, a3] [.int s0, .int s1] h = if ¬ s0 = 0 then Rf d 179 70 [a0, a1, a2, a3] [.int (remI s1 s0)] h else Rx d 179 69 [a0, a1, a2, a3] [.int s0, .int s1] h := divE c179_69 (fun _ _ _ => rfl)
theorem c179_70 : cd 179 70 = some (70, .istore_n 2, 1, []) := by decide +kernel
theorem x179_70 {d : Nat} {a0 a1 a2 a3 : Value} {s0 : Int32} {h : AHp} : Rf d 179 70 [a0, a1, a2, a3] [.int s0] h = Rf d 179 71 [a0, a1, .int s0, a3] [] h := Rf_go ((stp_of c179_70).trans rfl)
theorem c179_71 : cd 179 71 = some (71, .iinc 3 1, 3, []) := by decide +kernel
theorem x179_71 {d : Nat} {a0 a1 a2 : Value} {x : Int32} {h : AHp} : Rf d 179 71 [a0, a1, a2, .int x] [] h = Rf d 179 74 [a0, a1, a2, .int (x + 1)] [] h := Rf_go ((stp_of c179_71).trans rfl)
theorem c179_74 : cd 179 74 = some (74, .goto (-29), 3, [(45, 0)]) := by decide +kernel
theorem x179_74 {d : Nat} {a0 a1 a2 a3 : Value} {h : AHp} : Rf d 179 74 [a0, a1, a2, a3] [] h = Rf d 179 45 [a0, a1, a2, a3] [] h := Rf_go ((stp_of c179_74).trans rfl)
theorem c179_22 : cd 179 22 = some (22, .aload_n 0, 1, []) := by decide +kernel
theorem x179_22 {d : Nat} {a1 a2 a3 : Value} {x : Nat} {h : AHp} : Rf d 179 22 [.ref x, a1, a2, a3] [] h = Rf d 179 23 [.ref x, a1, a2, a3] [.ref x] h := Rf_go ((stp_of c179_22).trans rfl)
theorem c179_23 : cd 179 23 = some (23, .invokevirtual 133, 3, [(12, 155)]) := by decide +kernel
theorem xc179_23 {d : Nat} {a0 a1 a2 a3 : Value} {s0 : Nat} {h : AHp} {h1 : AHp} {v : Int32} (hr : cls (h.1 s0) = 12) (hq : Rf d 155 0 [.ref s0, noV, noV] [] h = some (some (.int v), h1)) : Rf (d + 1) 179 23 [a0, a1, a2, a3] [.ref s0] h = Rf (d + 1) 179 26 [a0, a1, a2, a3] [.int v] h1 := clV (c := 155) (as := []) c179_23 rfl (by simp [isV]) (by rw [hr]; rfl) hq
theorem c179_26 : cd 179 26 = some (26, .sipush 10000, 3, []) := by decide +kernel
theorem x179_26 {d : Nat} {a0 a1 a2 a3 : Value} {s0 : Int32} {h : AHp} : Rf d 179 26 [a0, a1, a2, a3] [.int s0] h = Rf d 179 29 [a0, a1, a2, a3] [.int 10000, .int s0] h := Rf_go ((stp_of c179_26).trans rfl)
theorem c179_29 : cd 179 29 = some (29, .irem, 1, []) := by decide +kernel
theorem x179_29 {d : Nat} {a0 a1 a2 a3 : Value} {s0 : Int32} {s1 : Int32} {h : AHp} : Rf d 179 29 [a0, a1, a2, a3] [.int s0, .int s1] h = if ¬ s0 = 0 then Rf d 179 30 [a0, a1, a2, a3] [.int (remI s1 s0)] h else Rx d 179 29 [a0, a1, a2, a3] [.int s0, .int s1] h := divE c179_29 (fun _ _ _ => rfl)
theorem c179_30 : cd 179 30 = some (30, .ireturn, 1, []) := by decide +kernel
theorem x179_30 {d : Nat} {a0 a1 a2 a3 : Value} {s0 : Int32} {h : AHp} : Rf d 179 30 [a0, a1, a2, a3] [.int s0] h = some (some (.int s0), h) := Rf_end (by rw [stp_of c179_30]; simp only [stpI]; rw [if_pos (show retI (mH 179).2.2.1 s0 = true from retI_int)])
theorem c179_16 : cd 179 16 = some (16, .iconst (-1), 1, []) := by decide +kernel
theorem x179_16 {d : Nat} {a0 a1 a2 a3 : Value} {h : AHp} : Rf d 179 16 [a0, a1, a2, a3] [] h = Rf d 179 17 [a0, a1, a2, a3] [.int (-1)] h := Rf_go ((stp_of c179_16).trans rfl)
theorem c179_17 : cd 179 17 = some (17, .ireturn, 1, []) := by decide +kernel
theorem x179_17 {d : Nat} {a0 a1 a2 a3 : Value} {s0 : Int32} {h : AHp} : Rf d 179 17 [a0, a1, a2, a3] [.int s0] h = some (some (.int s0), h) := Rf_end (by rw [stp_of c179_17]; simp only [stpI]; rw [if_pos (show retI (mH 179).2.2.1 s0 = true from retI_int)])
-- 180: X12_known
theorem c180_0 : cd 180 0 = some (0, .iconst 1, 1, []) := by decide +kernel
theorem x180_0 {d : Nat} {a0 a1 a2 a3 a4 a5 a6 : Value} {h : AHp} : Rf d 180 0 [a0, a1, a2, a3, a4, a5, a6] [] h = Rf d 180 1 [a0, a1, a2, a3, a4, a5, a6] [.int 1] h := Rf_go ((stp_of c180_0).trans rfl)
theorem c180_1 : cd 180 1 = some (1, .aload_n 0, 1, []) := by decide +kernel
theorem x180_1 {d : Nat} {a1 a2 a3 a4 a5 a6 : Value} {s0 : Int32} {x : Nat} {h : AHp} : Rf d 180 1 [.ref x, a1, a2, a3, a4, a5, a6] [.int s0] h = Rf d 180 2 [.ref x, a1, a2, a3, a4, a5, a6] [.ref x, .int s0] h := Rf_go ((stp_of c180_1).trans rfl)
theorem c180_2 : cd 180 2 = some (2, .getfield 9, 3, [(12, 0)]) := by decide +kernel
theorem x180_2 {d : Nat} {a0 a1 a2 a3 a4 a5 a6 : Value} {s0 : Nat} {s1 : Int32} {h : AHp} : Rf d 180 2 [a0, a1, a2, a3, a4, a5, a6] [.ref s0, .int s1] h = if cls (h.1 s0) = 12 ∧ oKr (h.1 s0) 0 = true then Rf d 180 5 [a0, a1, a2, a3, a4, a5, a6] [.ref (oR (h.1 s0) 0), .int s1] h else Rx d 180 2 [a0, a1, a2, a3, a4, a5, a6] [.ref s0, .int s1] h := getR c180_2
theorem c180_5 : cd 180 5 = some (5, .iconst 0, 1, []) := by decide +kernel
theorem x180_5 {d : Nat} {a0 a1 a2 a3 a4 a5 a6 : Value} {s0 : Nat} {s1 : Int32} {h : AHp} : Rf d 180 5 [a0, a1, a2, a3, a4, a5, a6] [.ref s0, .int s1] h = Rf d 180 6 [a0, a1, a2, a3, a4, a5, a6] [.int 0, .ref s0, .int s1] h := Rf_go ((stp_of c180_5).trans rfl)
theorem c180_6 : cd 180 6 = some (6, .iaload, 1, []) := by decide +kernel
theorem x180_6 {d : Nat} {a0 a1 a2 a3 a4 a5 a6 : Value} {s0 : Int32} {s1 : Nat} {s2 : Int32} {h : AHp} : Rf d 180 6 [a0, a1, a2, a3, a4, a5, a6] [.int s0, .ref s1, .int s2] h = if (aT (h.1 s1) = 0 ∨ aT (h.1 s1) = 10) ∧ inB s0 (aN (h.1 s1)) = true then Rf d 180 7 [a0, a1, a2, a3, a4, a5, a6] [.int (aF (h.1 s1) s0.toNatClampNeg), .int s2] h else Rx d 180 6 [a0, a1, a2, a3, a4, a5, a6] [.int s0, .ref s1, .int s2] h := ldI c180_6
theorem c180_7 : cd 180 7 = some (7, .ishl, 1, []) := by decide +kernel
theorem x180_7 {d : Nat} {a0 a1 a2 a3 a4 a5 a6 : Value} {s0 : Int32} {s1 : Int32} {h : AHp} : Rf d 180 7 [a0, a1, a2, a3, a4, a5, a6] [.int s0, .int s1] h = Rf d 180 8 [a0, a1, a2, a3, a4, a5, a6] [.int (s1 <<< (s0 &&& 31))] h := Rf_go ((stp_of c180_7).trans rfl)
theorem c180_8 : cd 180 8 = some (8, .iconst 1, 1, []) := by decide +kernel
theorem x180_8 {d : Nat} {a0 a1 a2 a3 a4 a5 a6 : Value} {s0 : Int32} {h : AHp} : Rf d 180 8 [a0, a1, a2, a3, a4, a5, a6] [.int s0] h = Rf d 180 9 [a0, a1, a2, a3, a4, a5, a6] [.int 1, .int s0] h := Rf_go ((stp_of c180_8).trans rfl)
theorem c180_9 : cd 180 9 = some (9, .isub, 1, []) := by decide +kernel
theorem x180_9 {d : Nat} {a0 a1 a2 a3 a4 a5 a6 : Value} {s0 : Int32} {s1 : Int32} {h : AHp} : Rf d 180 9 [a0, a1, a2, a3, a4, a5, a6] [.int s0, .int s1] h = Rf d 180 10 [a0, a1, a2, a3, a4, a5, a6] [.int (s1 - s0)] h := Rf_go ((stp_of c180_9).trans rfl)
theorem c180_10 : cd 180 10 = some (10, .istore_n 2, 1, []) := by decide +kernel
theorem x180_10 {d : Nat} {a0 a1 a2 a3 a4 a5 a6 : Value} {s0 : Int32} {h : AHp} : Rf d 180 10 [a0, a1, a2, a3, a4, a5, a6] [.int s0] h = Rf d 180 11 [a0, a1, .int s0, a3, a4, a5, a6] [] h := Rf_go ((stp_of c180_10).trans rfl)
theorem c180_11 : cd 180 11 = some (11, .iload_n 1, 1, []) := by decide +kernel
theorem x180_11 {d : Nat} {a0 a2 a3 a4 a5 a6 : Value} {x : Int32} {h : AHp} : Rf d 180 11 [a0, .int x, a2, a3, a4, a5, a6] [] h = Rf d 180 12 [a0, .int x, a2, a3, a4, a5, a6] [.int x] h := Rf_go ((stp_of c180_11).trans rfl)
theorem c180_12 : cd 180 12 = some (12, .iload_n 2, 1, []) := by decide +kernel
theorem x180_12 {d : Nat} {a0 a1 a3 a4 a5 a6 : Value} {s0 : Int32} {x : Int32} {h : AHp} : Rf d 180 12 [a0, a1, .int x, a3, a4, a5, a6] [.int s0] h = Rf d 180 13 [a0, a1, .int x, a3, a4, a5, a6] [.int x, .int s0] h := Rf_go ((stp_of c180_12).trans rfl)
theorem c180_13 : cd 180 13 = some (13, .iconst (-1), 1, []) := by decide +kernel
theorem x180_13 {d : Nat} {a0 a1 a2 a3 a4 a5 a6 : Value} {s0 : Int32} {s1 : Int32} {h : AHp} : Rf d 180 13 [a0, a1, a2, a3, a4, a5, a6] [.int s0, .int s1] h = Rf d 180 14 [a0, a1, a2, a3, a4, a5, a6] [.int (-1), .int s0, .int s1] h := Rf_go ((stp_of c180_13).trans rfl)
theorem c180_14 : cd 180 14 = some (14, .ixor, 1, []) := by decide +kernel
theorem x180_14 {d : Nat} {a0 a1 a2 a3 a4 a5 a6 : Value} {s0 : Int32} {s1 : Int32} {s2 : Int32} {h : AHp} : Rf d 180 14 [a0, a1, a2, a3, a4, a5, a6] [.int s0, .int s1, .int s2] h = Rf d 180 15 [a0, a1, a2, a3, a4, a5, a6] [.int (s1 ^^^ s0), .int s2] h := Rf_go ((stp_of c180_14).trans rfl)
theorem c180_15 : cd 180 15 = some (15, .iand, 1, []) := by decide +kernel
theorem x180_15 {d : Nat} {a0 a1 a2 a3 a4 a5 a6 : Value} {s0 : Int32} {s1 : Int32} {h : AHp} : Rf d 180 15 [a0, a1, a2, a3, a4, a5, a6] [.int s0, .int s1] h = Rf d 180 16 [a0, a1, a2, a3, a4, a5, a6] [.int (s1 &&& s0)] h := Rf_go ((stp_of c180_15).trans rfl)
theorem c180_16 : cd 180 16 = some (16, .ifCond .eq 6, 3, [(22, 0)]) := by decide +kernel
theorem x180_16 {d : Nat} {a0 a1 a2 a3 a4 a5 a6 : Value} {s0 : Int32} {h : AHp} : Rf d 180 16 [a0, a1, a2, a3, a4, a5, a6] [.int s0] h = if s0 = 0 then Rf d 180 22 [a0, a1, a2, a3, a4, a5, a6] [] h else Rf d 180 19 [a0, a1, a2, a3, a4, a5, a6] [] h := Rf_brd ((stp_of c180_16).trans rfl)
theorem c180_22 : cd 180 22 = some (22, .aload_n 0, 1, []) := by decide +kernel
theorem x180_22 {d : Nat} {a1 a2 a3 a4 a5 a6 : Value} {x : Nat} {h : AHp} : Rf d 180 22 [.ref x, a1, a2, a3, a4, a5, a6] [] h = Rf d 180 23 [.ref x, a1, a2, a3, a4, a5, a6] [.ref x] h := Rf_go ((stp_of c180_22).trans rfl)
theorem c180_23 : cd 180 23 = some (23, .invokevirtual 177, 3, [(12, 178)]) := by decide +kernel
theorem xc180_23 {d : Nat} {a0 a1 a2 a3 a4 a5 a6 : Value} {s0 : Nat} {h : AHp} {h1 : AHp} (hr : cls (h.1 s0) = 12) (hq : Rf d 178 0 [.ref s0, noV, noV] [] h = some (none, h1)) : Rf (d + 1) 180 23 [a0, a1, a2, a3, a4, a5, a6] [.ref s0] h = Rf (d + 1) 180 26 [a0, a1, a2, a3, a4, a5, a6] [] h1 := clV (c := 178) (as := []) c180_23 rfl (by simp [isV]) (by rw [hr]; rfl) hq
theorem c180_26 : cd 180 26 = some (26, .iconst 0, 1, []) := by decide +kernel
theorem x180_26 {d : Nat} {a0 a1 a2 a3 a4 a5 a6 : Value} {h : AHp} : Rf d 180 26 [a0, a1, a2, a3, a4, a5, a6] [] h = Rf d 180 27 [a0, a1, a2, a3, a4, a5, a6] [.int 0] h := Rf_go ((stp_of c180_26).trans rfl)
theorem c180_27 : cd 180 27 = some (27, .istore_n 3, 1, []) := by decide +kernel
theorem x180_27 {d : Nat} {a0 a1 a2 a3 a4 a5 a6 : Value} {s0 : Int32} {h : AHp} : Rf d 180 27 [a0, a1, a2, a3, a4, a5, a6] [.int s0] h = Rf d 180 28 [a0, a1, a2, .int s0, a4, a5, a6] [] h := Rf_go ((stp_of c180_27).trans rfl)
theorem c180_28 : cd 180 28 = some (28, .iconst 0, 1, []) := by decide +kernel
theorem x180_28 {d : Nat} {a0 a1 a2 a3 a4 a5 a6 : Value} {h : AHp} : Rf d 180 28 [a0, a1, a2, a3, a4, a5, a6] [] h = Rf d 180 29 [a0, a1, a2, a3, a4, a5, a6] [.int 0] h := Rf_go ((stp_of c180_28).trans rfl)
theorem c180_29 : cd 180 29 = some (29, .istore 4, 2, []) := by decide +kernel
theorem x180_29 {d : Nat} {a0 a1 a2 a3 a4 a5 a6 : Value} {s0 : Int32} {h : AHp} : Rf d 180 29 [a0, a1, a2, a3, a4, a5, a6] [.int s0] h = Rf d 180 31 [a0, a1, a2, a3, .int s0, a5, a6] [] h := Rf_go ((stp_of c180_29).trans rfl)
theorem c180_31 : cd 180 31 = some (31, .iload 4, 2, []) := by decide +kernel
theorem x180_31 {d : Nat} {a0 a1 a2 a3 a5 a6 : Value} {x : Int32} {h : AHp} : Rf d 180 31 [a0, a1, a2, a3, .int x, a5, a6] [] h = Rf d 180 33 [a0, a1, a2, a3, .int x, a5, a6] [.int x] h := Rf_go ((stp_of c180_31).trans rfl)
theorem c180_33 : cd 180 33 = some (33, .aload_n 0, 1, []) := by decide +kernel
theorem x180_33 {d : Nat} {a1 a2 a3 a4 a5 a6 : Value} {s0 : Int32} {x : Nat} {h : AHp} : Rf d 180 33 [.ref x, a1, a2, a3, a4, a5, a6] [.int s0] h = Rf d 180 34 [.ref x, a1, a2, a3, a4, a5, a6] [.ref x, .int s0] h := Rf_go ((stp_of c180_33).trans rfl)
theorem c180_34 : cd 180 34 = some (34, .getfield 9, 3, [(12, 0)]) := by decide +kernel
theorem x180_34 {d : Nat} {a0 a1 a2 a3 a4 a5 a6 : Value} {s0 : Nat} {s1 : Int32} {h : AHp} : Rf d 180 34 [a0, a1, a2, a3, a4, a5, a6] [.ref s0, .int s1] h = if cls (h.1 s0) = 12 ∧ oKr (h.1 s0) 0 = true then Rf d 180 37 [a0, a1, a2, a3, a4, a5, a6] [.ref (oR (h.1 s0) 0), .int s1] h else Rx d 180 34 [a0, a1, a2, a3, a4, a5, a6] [.ref s0, .int s1] h := getR c180_34
theorem c180_37 : cd 180 37 = some (37, .iconst 0, 1, []) := by decide +kernel
theorem x180_37 {d : Nat} {a0 a1 a2 a3 a4 a5 a6 : Value} {s0 : Nat} {s1 : Int32} {h : AHp} : Rf d 180 37 [a0, a1, a2, a3, a4, a5, a6] [.ref s0, .int s1] h = Rf d 180 38 [a0, a1, a2, a3, a4, a5, a6] [.int 0, .ref s0, .int s1] h := Rf_go ((stp_of c180_37).trans rfl)
theorem c180_38 : cd 180 38 = some (38, .iaload, 1, []) := by decide +kernel
theorem x180_38 {d : Nat} {a0 a1 a2 a3 a4 a5 a6 : Value} {s0 : Int32} {s1 : Nat} {s2 : Int32} {h : AHp} : Rf d 180 38 [a0, a1, a2, a3, a4, a5, a6] [.int s0, .ref s1, .int s2] h = if (aT (h.1 s1) = 0 ∨ aT (h.1 s1) = 10) ∧ inB s0 (aN (h.1 s1)) = true then Rf d 180 39 [a0, a1, a2, a3, a4, a5, a6] [.int (aF (h.1 s1) s0.toNatClampNeg), .int s2] h else Rx d 180 38 [a0, a1, a2, a3, a4, a5, a6] [.int s0, .ref s1, .int s2] h := ldI c180_38
theorem c180_39 : cd 180 39 = some (39, .if_icmp .ge 118, 3, [(157, 0)]) := by decide +kernel
theorem x180_39 {d : Nat} {a0 a1 a2 a3 a4 a5 a6 : Value} {s0 : Int32} {s1 : Int32} {h : AHp} : Rf d 180 39 [a0, a1, a2, a3, a4, a5, a6] [.int s0, .int s1] h = if s1 < s0 then Rf d 180 42 [a0, a1, a2, a3, a4, a5, a6] [] h else Rf d 180 157 [a0, a1, a2, a3, a4, a5, a6] [] h := Rf_brn ((stp_of c180_39).trans rfl)
theorem c180_157 : cd 180 157 = some (157, .iload_n 3, 1, []) := by decide +kernel
theorem x180_157 {d : Nat} {a0 a1 a2 a4 a5 a6 : Value} {x : Int32} {h : AHp} : Rf d 180 157 [a0, a1, a2, .int x, a4, a5, a6] [] h = Rf d 180 158 [a0, a1, a2, .int x, a4, a5, a6] [.int x] h := Rf_go ((stp_of c180_157).trans rfl)
theorem c180_158 : cd 180 158 = some (158, .ireturn, 1, []) := by decide +kernel
theorem x180_158 {d : Nat} {a0 a1 a2 a3 a4 a5 a6 : Value} {s0 : Int32} {h : AHp} : Rf d 180 158 [a0, a1, a2, a3, a4, a5, a6] [.int s0] h = some (some (.int s0), h) := Rf_end (by rw [stp_of c180_158]; simp only [stpI]; rw [if_pos (show retI (mH 180).2.2.1 s0 = true from retI_int)])
theorem c180_42 : cd 180 42 = some (42, .aload_n 0, 1, []) := by decide +kernel
theorem x180_42 {d : Nat} {a1 a2 a3 a4 a5 a6 : Value} {x : Nat} {h : AHp} : Rf d 180 42 [.ref x, a1, a2, a3, a4, a5, a6] [] h = Rf d 180 43 [.ref x, a1, a2, a3, a4, a5, a6] [.ref x] h := Rf_go ((stp_of c180_42).trans rfl)
theorem c180_43 : cd 180 43 = some (43, .getfield 19, 3, [(12, 7)]) := by decide +kernel
theorem x180_43 {d : Nat} {a0 a1 a2 a3 a4 a5 a6 : Value} {s0 : Nat} {h : AHp} : Rf d 180 43 [a0, a1, a2, a3, a4, a5, a6] [.ref s0] h = if cls (h.1 s0) = 12 ∧ oKr (h.1 s0) 7 = true then Rf d 180 46 [a0, a1, a2, a3, a4, a5, a6] [.ref (oR (h.1 s0) 7)] h else Rx d 180 43 [a0, a1, a2, a3, a4, a5, a6] [.ref s0] h := getR c180_43
theorem c180_46 : cd 180 46 = some (46, .iload 4, 2, []) := by decide +kernel
theorem x180_46 {d : Nat} {a0 a1 a2 a3 a5 a6 : Value} {s0 : Nat} {x : Int32} {h : AHp} : Rf d 180 46 [a0, a1, a2, a3, .int x, a5, a6] [.ref s0] h = Rf d 180 48 [a0, a1, a2, a3, .int x, a5, a6] [.int x, .ref s0] h := Rf_go ((stp_of c180_46).trans rfl)
theorem c180_48 : cd 180 48 = some (48, .iaload, 1, []) := by decide +kernel
theorem x180_48 {d : Nat} {a0 a1 a2 a3 a4 a5 a6 : Value} {s0 : Int32} {s1 : Nat} {h : AHp} : Rf d 180 48 [a0, a1, a2, a3, a4, a5, a6] [.int s0, .ref s1] h = if (aT (h.1 s1) = 0 ∨ aT (h.1 s1) = 10) ∧ inB s0 (aN (h.1 s1)) = true then Rf d 180 49 [a0, a1, a2, a3, a4, a5, a6] [.int (aF (h.1 s1) s0.toNatClampNeg)] h else Rx d 180 48 [a0, a1, a2, a3, a4, a5, a6] [.int s0, .ref s1] h := ldI c180_48
theorem c180_49 : cd 180 49 = some (49, .istore 5, 2, []) := by decide +kernel
theorem x180_49 {d : Nat} {a0 a1 a2 a3 a4 a5 a6 : Value} {s0 : Int32} {h : AHp} : Rf d 180 49 [a0, a1, a2, a3, a4, a5, a6] [.int s0] h = Rf d 180 51 [a0, a1, a2, a3, a4, .int s0, a6] [] h := Rf_go ((stp_of c180_49).trans rfl)
theorem c180_51 : cd 180 51 = some (51, .iload_n 1, 1, []) := by decide +kernel
theorem x180_51 {d : Nat} {a0 a2 a3 a4 a5 a6 : Value} {x : Int32} {h : AHp} : Rf d 180 51 [a0, .int x, a2, a3, a4, a5, a6] [] h = Rf d 180 52 [a0, .int x, a2, a3, a4, a5, a6] [.int x] h := Rf_go ((stp_of c180_51).trans rfl)
theorem c180_52 : cd 180 52 = some (52, .iload 5, 2, []) := by decide +kernel
theorem x180_52 {d : Nat} {a0 a1 a2 a3 a4 a6 : Value} {s0 : Int32} {x : Int32} {h : AHp} : Rf d 180 52 [a0, a1, a2, a3, a4, .int x, a6] [.int s0] h = Rf d 180 54 [a0, a1, a2, a3, a4, .int x, a6] [.int x, .int s0] h := Rf_go ((stp_of c180_52).trans rfl)
theorem c180_54 : cd 180 54 = some (54, .ishr, 1, []) := by decide +kernel
theorem x180_54 {d : Nat} {a0 a1 a2 a3 a4 a5 a6 : Value} {s0 : Int32} {s1 : Int32} {h : AHp} : Rf d 180 54 [a0, a1, a2, a3, a4, a5, a6] [.int s0, .int s1] h = Rf d 180 55 [a0, a1, a2, a3, a4, a5, a6] [.int (s1 >>> (s0 &&& 31))] h := Rf_go ((stp_of c180_54).trans rfl)
theorem c180_55 : cd 180 55 = some (55, .iconst 1, 1, []) := by decide +kernel
theorem x180_55 {d : Nat} {a0 a1 a2 a3 a4 a5 a6 : Value} {s0 : Int32} {h : AHp} : Rf d 180 55 [a0, a1, a2, a3, a4, a5, a6] [.int s0] h = Rf d 180 56 [a0, a1, a2, a3, a4, a5, a6] [.int 1, .int s0] h := Rf_go ((stp_of c180_55).trans rfl)
theorem c180_56 : cd 180 56 = some (56, .iand, 1, []) := by decide +kernel
theorem x180_56 {d : Nat} {a0 a1 a2 a3 a4 a5 a6 : Value} {s0 : Int32} {s1 : Int32} {h : AHp} : Rf d 180 56 [a0, a1, a2, a3, a4, a5, a6] [.int s0, .int s1] h = Rf d 180 57 [a0, a1, a2, a3, a4, a5, a6] [.int (s1 &&& s0)] h := Rf_go ((stp_of c180_56).trans rfl)
theorem c180_57 : cd 180 57 = some (57, .iconst 1, 1, []) := by decide +kernel
theorem x180_57 {d : Nat} {a0 a1 a2 a3 a4 a5 a6 : Value} {s0 : Int32} {h : AHp} : Rf d 180 57 [a0, a1, a2, a3, a4, a5, a6] [.int s0] h = Rf d 180 58 [a0, a1, a2, a3, a4, a5, a6] [.int 1, .int s0] h := Rf_go ((stp_of c180_57).trans rfl)
theorem c180_58 : cd 180 58 = some (58, .if_icmp .ne 6, 3, [(64, 0)]) := by decide +kernel
theorem x180_58 {d : Nat} {a0 a1 a2 a3 a4 a5 a6 : Value} {s0 : Int32} {s1 : Int32} {h : AHp} : Rf d 180 58 [a0, a1, a2, a3, a4, a5, a6] [.int s0, .int s1] h = if s1 = s0 then Rf d 180 61 [a0, a1, a2, a3, a4, a5, a6] [] h else Rf d 180 64 [a0, a1, a2, a3, a4, a5, a6] [] h := Rf_brn ((stp_of c180_58).trans rfl)
theorem c180_64 : cd 180 64 = some (64, .iload_n 1, 1, []) := by decide +kernel
theorem x180_64 {d : Nat} {a0 a2 a3 a4 a5 a6 : Value} {x : Int32} {h : AHp} : Rf d 180 64 [a0, .int x, a2, a3, a4, a5, a6] [] h = Rf d 180 65 [a0, .int x, a2, a3, a4, a5, a6] [.int x] h := Rf_go ((stp_of c180_64).trans rfl)
theorem c180_65 : cd 180 65 = some (65, .iconst 1, 1, []) := by decide +kernel
theorem x180_65 {d : Nat} {a0 a1 a2 a3 a4 a5 a6 : Value} {s0 : Int32} {h : AHp} : Rf d 180 65 [a0, a1, a2, a3, a4, a5, a6] [.int s0] h = Rf d 180 66 [a0, a1, a2, a3, a4, a5, a6] [.int 1, .int s0] h := Rf_go ((stp_of c180_65).trans rfl)
theorem c180_66 : cd 180 66 = some (66, .iload 5, 2, []) := by decide +kernel
theorem x180_66 {d : Nat} {a0 a1 a2 a3 a4 a6 : Value} {s0 : Int32} {s1 : Int32} {x : Int32} {h : AHp} : Rf d 180 66 [a0, a1, a2, a3, a4, .int x, a6] [.int s0, .int s1] h = Rf d 180 68 [a0, a1, a2, a3, a4, .int x, a6] [.int x, .int s0, .int s1] h := Rf_go ((stp_of c180_66).trans rfl)
theorem c180_68 : cd 180 68 = some (68, .ishl, 1, []) := by decide +kernel
theorem x180_68 {d : Nat} {a0 a1 a2 a3 a4 a5 a6 : Value} {s0 : Int32} {s1 : Int32} {s2 : Int32} {h : AHp} : Rf d 180 68 [a0, a1, a2, a3, a4, a5, a6] [.int s0, .int s1, .int s2] h = Rf d 180 69 [a0, a1, a2, a3, a4, a5, a6] [.int (s1 <<< (s0 &&& 31)), .int s2] h := Rf_go ((stp_of c180_68).trans rfl)
theorem c180_69 : cd 180 69 = some (69, .ior, 1, []) := by decide +kernel
theorem x180_69 {d : Nat} {a0 a1 a2 a3 a4 a5 a6 : Value} {s0 : Int32} {s1 : Int32} {h : AHp} : Rf d 180 69 [a0, a1, a2, a3, a4, a5, a6] [.int s0, .int s1] h = Rf d 180 70 [a0, a1, a2, a3, a4, a5, a6] [.int (s1 ||| s0)] h := Rf_go ((stp_of c180_69).trans rfl)
theorem c180_70 : cd 180 70 = some (70, .iload_n 2, 1, []) := by decide +kernel
theorem x180_70 {d : Nat} {a0 a1 a3 a4 a5 a6 : Value} {s0 : Int32} {x : Int32} {h : AHp} : Rf d 180 70 [a0, a1, .int x, a3, a4, a5, a6] [.int s0] h = Rf d 180 71 [a0, a1, .int x, a3, a4, a5, a6] [.int x, .int s0] h := Rf_go ((stp_of c180_70).trans rfl)
theorem c180_71 : cd 180 71 = some (71, .if_icmp .ne 7, 3, [(78, 0)]) := by decide +kernel
theorem x180_71 {d : Nat} {a0 a1 a2 a3 a4 a5 a6 : Value} {s0 : Int32} {s1 : Int32} {h : AHp} : Rf d 180 71 [a0, a1, a2, a3, a4, a5, a6] [.int s0, .int s1] h = if s1 = s0 then Rf d 180 74 [a0, a1, a2, a3, a4, a5, a6] [] h else Rf d 180 78 [a0, a1, a2, a3, a4, a5, a6] [] h := Rf_brn ((stp_of c180_71).trans rfl)
theorem c180_78 : cd 180 78 = some (78, .iconst 0, 1, []) := by decide +kernel
theorem x180_78 {d : Nat} {a0 a1 a2 a3 a4 a5 a6 : Value} {h : AHp} : Rf d 180 78 [a0, a1, a2, a3, a4, a5, a6] [] h = Rf d 180 79 [a0, a1, a2, a3, a4, a5, a6] [.int 0] h := Rf_go ((stp_of c180_78).trans rfl)
theorem c180_79 : cd 180 79 = some (79, .istore 6, 2, []) := by decide +kernel
theorem x180_79 {d : Nat} {a0 a1 a2 a3 a4 a5 a6 : Value} {s0 : Int32} {h : AHp} : Rf d 180 79 [a0, a1, a2, a3, a4, a5, a6] [.int s0] h = Rf d 180 81 [a0, a1, a2, a3, a4, a5, .int s0] [] h := Rf_go ((stp_of c180_79).trans rfl)
theorem c180_81 : cd 180 81 = some (81, .iload_n 1, 1, []) := by decide +kernel
theorem x180_81 {d : Nat} {a0 a2 a3 a4 a5 a6 : Value} {x : Int32} {h : AHp} : Rf d 180 81 [a0, .int x, a2, a3, a4, a5, a6] [] h = Rf d 180 82 [a0, .int x, a2, a3, a4, a5, a6] [.int x] h := Rf_go ((stp_of c180_81).trans rfl)
theorem c180_82 : cd 180 82 = some (82, .aload_n 0, 1, []) := by decide +kernel
theorem x180_82 {d : Nat} {a1 a2 a3 a4 a5 a6 : Value} {s0 : Int32} {x : Nat} {h : AHp} : Rf d 180 82 [.ref x, a1, a2, a3, a4, a5, a6] [.int s0] h = Rf d 180 83 [.ref x, a1, a2, a3, a4, a5, a6] [.ref x, .int s0] h := Rf_go ((stp_of c180_82).trans rfl)
theorem c180_83 : cd 180 83 = some (83, .getfield 19, 3, [(12, 7)]) := by decide +kernel
theorem x180_83 {d : Nat} {a0 a1 a2 a3 a4 a5 a6 : Value} {s0 : Nat} {s1 : Int32} {h : AHp} : Rf d 180 83 [a0, a1, a2, a3, a4, a5, a6] [.ref s0, .int s1] h = if cls (h.1 s0) = 12 ∧ oKr (h.1 s0) 7 = true then Rf d 180 86 [a0, a1, a2, a3, a4, a5, a6] [.ref (oR (h.1 s0) 7), .int s1] h else Rx d 180 83 [a0, a1, a2, a3, a4, a5, a6] [.ref s0, .int s1] h := getR c180_83
theorem c180_86 : cd 180 86 = some (86, .iload 4, 2, []) := by decide +kernel
theorem x180_86 {d : Nat} {a0 a1 a2 a3 a5 a6 : Value} {s0 : Nat} {s1 : Int32} {x : Int32} {h : AHp} : Rf d 180 86 [a0, a1, a2, a3, .int x, a5, a6] [.ref s0, .int s1] h = Rf d 180 88 [a0, a1, a2, a3, .int x, a5, a6] [.int x, .ref s0, .int s1] h := Rf_go ((stp_of c180_86).trans rfl)
theorem c180_88 : cd 180 88 = some (88, .aload_n 0, 1, []) := by decide +kernel
theorem x180_88 {d : Nat} {a1 a2 a3 a4 a5 a6 : Value} {s0 : Int32} {s1 : Nat} {s2 : Int32} {x : Nat} {h : AHp} : Rf d 180 88 [.ref x, a1, a2, a3, a4, a5, a6] [.int s0, .ref s1, .int s2] h = Rf d 180 89 [.ref x, a1, a2, a3, a4, a5, a6] [.ref x, .int s0, .ref s1, .int s2] h := Rf_go ((stp_of c180_88).trans rfl)
theorem c180_89 : cd 180 89 = some (89, .getfield 9, 3, [(12, 0)]) := by decide +kernel
theorem x180_89 {d : Nat} {a0 a1 a2 a3 a4 a5 a6 : Value} {s0 : Nat} {s1 : Int32} {s2 : Nat} {s3 : Int32} {h : AHp} : Rf d 180 89 [a0, a1, a2, a3, a4, a5, a6] [.ref s0, .int s1, .ref s2, .int s3] h = if cls (h.1 s0) = 12 ∧ oKr (h.1 s0) 0 = true then Rf d 180 92 [a0, a1, a2, a3, a4, a5, a6] [.ref (oR (h.1 s0) 0), .int s1, .ref s2, .int s3] h else Rx d 180 89 [a0, a1, a2, a3, a4, a5, a6] [.ref s0, .int s1, .ref s2, .int s3] h := getR c180_89
theorem c180_92 : cd 180 92 = some (92, .iconst 0, 1, []) := by decide +kernel
theorem x180_92 {d : Nat} {a0 a1 a2 a3 a4 a5 a6 : Value} {s0 : Nat} {s1 : Int32} {s2 : Nat} {s3 : Int32} {h : AHp} : Rf d 180 92 [a0, a1, a2, a3, a4, a5, a6] [.ref s0, .int s1, .ref s2, .int s3] h = Rf d 180 93 [a0, a1, a2, a3, a4, a5, a6] [.int 0, .ref s0, .int s1, .ref s2, .int s3] h := Rf_go ((stp_of c180_92).trans rfl)
theorem c180_93 : cd 180 93 = some (93, .iaload, 1, []) := by decide +kernel
theorem x180_93 {d : Nat} {a0 a1 a2 a3 a4 a5 a6 : Value} {s0 : Int32} {s1 : Nat} {s2 : Int32} {s3 : Nat} {s4 : Int32} {h : AHp} : Rf d 180 93 [a0, a1, a2, a3, a4, a5, a6] [.int s0, .ref s1, .int s2, .ref s3, .int s4] h = if (aT (h.1 s1) = 0 ∨ aT (h.1 s1) = 10) ∧ inB s0 (aN (h.1 s1)) = true then Rf d 180 94 [a0, a1, a2, a3, a4, a5, a6] [.int (aF (h.1 s1) s0.toNatClampNeg), .int s2, .ref s3, .int s4] h else Rx d 180 93 [a0, a1, a2, a3, a4, a5, a6] [.int s0, .ref s1, .int s2, .ref s3, .int s4] h := ldI c180_93
theorem c180_94 : cd 180 94 = some (94, .iadd, 1, []) := by decide +kernel
theorem x180_94 {d : Nat} {a0 a1 a2 a3 a4 a5 a6 : Value} {s0 : Int32} {s1 : Int32} {s2 : Nat} {s3 : Int32} {h : AHp} : Rf d 180 94 [a0, a1, a2, a3, a4, a5, a6] [.int s0, .int s1, .ref s2, .int s3] h = Rf d 180 95 [a0, a1, a2, a3, a4, a5, a6] [.int (s1 + s0), .ref s2, .int s3] h := Rf_go ((stp_of c180_94).trans rfl)
theorem c180_95 : cd 180 95 = some (95, .iconst 1, 1, []) := by decide +kernel
theorem x180_95 {d : Nat} {a0 a1 a2 a3 a4 a5 a6 : Value} {s0 : Int32} {s1 : Nat} {s2 : Int32} {h : AHp} : Rf d 180 95 [a0, a1, a2, a3, a4, a5, a6] [.int s0, .ref s1, .int s2] h = Rf d 180 96 [a0, a1, a2, a3, a4, a5, a6] [.int 1, .int s0, .ref s1, .int s2] h := Rf_go ((stp_of c180_95).trans rfl)
theorem c180_96 : cd 180 96 = some (96, .isub, 1, []) := by decide +kernel
theorem x180_96 {d : Nat} {a0 a1 a2 a3 a4 a5 a6 : Value} {s0 : Int32} {s1 : Int32} {s2 : Nat} {s3 : Int32} {h : AHp} : Rf d 180 96 [a0, a1, a2, a3, a4, a5, a6] [.int s0, .int s1, .ref s2, .int s3] h = Rf d 180 97 [a0, a1, a2, a3, a4, a5, a6] [.int (s1 - s0), .ref s2, .int s3] h := Rf_go ((stp_of c180_96).trans rfl)
theorem c180_97 : cd 180 97 = some (97, .aload_n 0, 1, []) := by decide +kernel
theorem x180_97 {d : Nat} {a1 a2 a3 a4 a5 a6 : Value} {s0 : Int32} {s1 : Nat} {s2 : Int32} {x : Nat} {h : AHp} : Rf d 180 97 [.ref x, a1, a2, a3, a4, a5, a6] [.int s0, .ref s1, .int s2] h = Rf d 180 98 [.ref x, a1, a2, a3, a4, a5, a6] [.ref x, .int s0, .ref s1, .int s2] h := Rf_go ((stp_of c180_97).trans rfl)
theorem c180_98 : cd 180 98 = some (98, .getfield 9, 3, [(12, 0)]) := by decide +kernel
theorem x180_98 {d : Nat} {a0 a1 a2 a3 a4 a5 a6 : Value} {s0 : Nat} {s1 : Int32} {s2 : Nat} {s3 : Int32} {h : AHp} : Rf d 180 98 [a0, a1, a2, a3, a4, a5, a6] [.ref s0, .int s1, .ref s2, .int s3] h = if cls (h.1 s0) = 12 ∧ oKr (h.1 s0) 0 = true then Rf d 180 101 [a0, a1, a2, a3, a4, a5, a6] [.ref (oR (h.1 s0) 0), .int s1, .ref s2, .int s3] h else Rx d 180 98 [a0, a1, a2, a3, a4, a5, a6] [.ref s0, .int s1, .ref s2, .int s3] h := getR c180_98
theorem c180_101 : cd 180 101 = some (101, .iconst 0, 1, []) := by decide +kernel
theorem x180_101 {d : Nat} {a0 a1 a2 a3 a4 a5 a6 : Value} {s0 : Nat} {s1 : Int32} {s2 : Nat} {s3 : Int32} {h : AHp} : Rf d 180 101 [a0, a1, a2, a3, a4, a5, a6] [.ref s0, .int s1, .ref s2, .int s3] h = Rf d 180 102 [a0, a1, a2, a3, a4, a5, a6] [.int 0, .ref s0, .int s1, .ref s2, .int s3] h := Rf_go ((stp_of c180_101).trans rfl)
theorem c180_102 : cd 180 102 = some (102, .iaload, 1, []) := by decide +kernel
theorem x180_102 {d : Nat} {a0 a1 a2 a3 a4 a5 a6 : Value} {s0 : Int32} {s1 : Nat} {s2 : Int32} {s3 : Nat} {s4 : Int32} {h : AHp} : Rf d 180 102 [a0, a1, a2, a3, a4, a5, a6] [.int s0, .ref s1, .int s2, .ref s3, .int s4] h = if (aT (h.1 s1) = 0 ∨ aT (h.1 s1) = 10) ∧ inB s0 (aN (h.1 s1)) = true then Rf d 180 103 [a0, a1, a2, a3, a4, a5, a6] [.int (aF (h.1 s1) s0.toNatClampNeg), .int s2, .ref s3, .int s4] h else Rx d 180 102 [a0, a1, a2, a3, a4, a5, a6] [.int s0, .ref s1, .int s2, .ref s3, .int s4] h := ldI c180_102
theorem c180_103 : cd 180 103 = some (103, .irem, 1, []) := by decide +kernel
theorem x180_103 {d : Nat} {a0 a1 a2 a3 a4 a5 a6 : Value} {s0 : Int32} {s1 : Int32} {s2 : Nat} {s3 : Int32} {h : AHp} : Rf d 180 103 [a0, a1, a2, a3, a4, a5, a6] [.int s0, .int s1, .ref s2, .int s3] h = if ¬ s0 = 0 then Rf d 180 104 [a0, a1, a2, a3, a4, a5, a6] [.int (remI s1 s0), .ref s2, .int s3] h else Rx d 180 103 [a0, a1, a2, a3, a4, a5, a6] [.int s0, .int s1, .ref s2, .int s3] h := divE c180_103 (fun _ _ _ => rfl)
theorem c180_104 : cd 180 104 = some (104, .iaload, 1, []) := by decide +kernel
theorem x180_104 {d : Nat} {a0 a1 a2 a3 a4 a5 a6 : Value} {s0 : Int32} {s1 : Nat} {s2 : Int32} {h : AHp} : Rf d 180 104 [a0, a1, a2, a3, a4, a5, a6] [.int s0, .ref s1, .int s2] h = if (aT (h.1 s1) = 0 ∨ aT (h.1 s1) = 10) ∧ inB s0 (aN (h.1 s1)) = true then Rf d 180 105 [a0, a1, a2, a3, a4, a5, a6] [.int (aF (h.1 s1) s0.toNatClampNeg), .int s2] h else Rx d 180 104 [a0, a1, a2, a3, a4, a5, a6] [.int s0, .ref s1, .int s2] h := ldI c180_104
theorem c180_105 : cd 180 105 = some (105, .ishr, 1, []) := by decide +kernel
theorem x180_105 {d : Nat} {a0 a1 a2 a3 a4 a5 a6 : Value} {s0 : Int32} {s1 : Int32} {h : AHp} : Rf d 180 105 [a0, a1, a2, a3, a4, a5, a6] [.int s0, .int s1] h = Rf d 180 106 [a0, a1, a2, a3, a4, a5, a6] [.int (s1 >>> (s0 &&& 31))] h := Rf_go ((stp_of c180_105).trans rfl)
theorem c180_106 : cd 180 106 = some (106, .iconst 1, 1, []) := by decide +kernel
theorem x180_106 {d : Nat} {a0 a1 a2 a3 a4 a5 a6 : Value} {s0 : Int32} {h : AHp} : Rf d 180 106 [a0, a1, a2, a3, a4, a5, a6] [.int s0] h = Rf d 180 107 [a0, a1, a2, a3, a4, a5, a6] [.int 1, .int s0] h := Rf_go ((stp_of c180_106).trans rfl)
theorem c180_107 : cd 180 107 = some (107, .iand, 1, []) := by decide +kernel
theorem x180_107 {d : Nat} {a0 a1 a2 a3 a4 a5 a6 : Value} {s0 : Int32} {s1 : Int32} {h : AHp} : Rf d 180 107 [a0, a1, a2, a3, a4, a5, a6] [.int s0, .int s1] h = Rf d 180 108 [a0, a1, a2, a3, a4, a5, a6] [.int (s1 &&& s0)] h := Rf_go ((stp_of c180_107).trans rfl)
theorem c180_108 : cd 180 108 = some (108, .iconst 1, 1, []) := by decide +kernel
theorem x180_108 {d : Nat} {a0 a1 a2 a3 a4 a5 a6 : Value} {s0 : Int32} {h : AHp} : Rf d 180 108 [a0, a1, a2, a3, a4, a5, a6] [.int s0] h = Rf d 180 109 [a0, a1, a2, a3, a4, a5, a6] [.int 1, .int s0] h := Rf_go ((stp_of c180_108).trans rfl)
theorem c180_109 : cd 180 109 = some (109, .if_icmp .ne 30, 3, [(139, 0)]) := by decide +kernel
theorem x180_109 {d : Nat} {a0 a1 a2 a3 a4 a5 a6 : Value} {s0 : Int32} {s1 : Int32} {h : AHp} : Rf d 180 109 [a0, a1, a2, a3, a4, a5, a6] [.int s0, .int s1] h = if s1 = s0 then Rf d 180 112 [a0, a1, a2, a3, a4, a5, a6] [] h else Rf d 180 139 [a0, a1, a2, a3, a4, a5, a6] [] h := Rf_brn ((stp_of c180_109).trans rfl)
theorem c180_139 : cd 180 139 = some (139, .iload 6, 2, []) := by decide +kernel
theorem x180_139 {d : Nat} {a0 a1 a2 a3 a4 a5 : Value} {x : Int32} {h : AHp} : Rf d 180 139 [a0, a1, a2, a3, a4, a5, .int x] [] h = Rf d 180 141 [a0, a1, a2, a3, a4, a5, .int x] [.int x] h := Rf_go ((stp_of c180_139).trans rfl)
theorem c180_141 : cd 180 141 = some (141, .ifCond .eq 10, 3, [(151, 0)]) := by decide +kernel
theorem x180_141 {d : Nat} {a0 a1 a2 a3 a4 a5 a6 : Value} {s0 : Int32} {h : AHp} : Rf d 180 141 [a0, a1, a2, a3, a4, a5, a6] [.int s0] h = if s0 = 0 then Rf d 180 151 [a0, a1, a2, a3, a4, a5, a6] [] h else Rf d 180 144 [a0, a1, a2, a3, a4, a5, a6] [] h := Rf_brd ((stp_of c180_141).trans rfl)
theorem c180_151 : cd 180 151 = some (151, .iinc 4 1, 3, []) := by decide +kernel
theorem x180_151 {d : Nat} {a0 a1 a2 a3 a5 a6 : Value} {x : Int32} {h : AHp} : Rf d 180 151 [a0, a1, a2, a3, .int x, a5, a6] [] h = Rf d 180 154 [a0, a1, a2, a3, .int (x + 1), a5, a6] [] h := Rf_go ((stp_of c180_151).trans rfl)
theorem c180_154 : cd 180 154 = some (154, .goto (-123), 3, [(31, 0)]) := by decide +kernel
theorem x180_154 {d : Nat} {a0 a1 a2 a3 a4 a5 a6 : Value} {h : AHp} : Rf d 180 154 [a0, a1, a2, a3, a4, a5, a6] [] h = Rf d 180 31 [a0, a1, a2, a3, a4, a5, a6] [] h := Rf_go ((stp_of c180_154).trans rfl)
theorem c180_144 : cd 180 144 = some (144, .iload_n 3, 1, []) := by decide +kernel
theorem x180_144 {d : Nat} {a0 a1 a2 a4 a5 a6 : Value} {x : Int32} {h : AHp} : Rf d 180 144 [a0, a1, a2, .int x, a4, a5, a6] [] h = Rf d 180 145 [a0, a1, a2, .int x, a4, a5, a6] [.int x] h := Rf_go ((stp_of c180_144).trans rfl)
theorem c180_145 : cd 180 145 = some (145, .iconst 1, 1, []) := by decide +kernel
theorem x180_145 {d : Nat} {a0 a1 a2 a3 a4 a5 a6 : Value} {s0 : Int32} {h : AHp} : Rf d 180 145 [a0, a1, a2, a3, a4, a5, a6] [.int s0] h = Rf d 180 146 [a0, a1, a2, a3, a4, a5, a6] [.int 1, .int s0] h := Rf_go ((stp_of c180_145).trans rfl)
theorem c180_146 : cd 180 146 = some (146, .iload 5, 2, []) := by decide +kernel
theorem x180_146 {d : Nat} {a0 a1 a2 a3 a4 a6 : Value} {s0 : Int32} {s1 : Int32} {x : Int32} {h : AHp} : Rf d 180 146 [a0, a1, a2, a3, a4, .int x, a6] [.int s0, .int s1] h = Rf d 180 148 [a0, a1, a2, a3, a4, .int x, a6] [.int x, .int s0, .int s1] h := Rf_go ((stp_of c180_146).trans rfl)
theorem c180_148 : cd 180 148 = some (148, .ishl, 1, []) := by decide +kernel
theorem x180_148 {d : Nat} {a0 a1 a2 a3 a4 a5 a6 : Value} {s0 : Int32} {s1 : Int32} {s2 : Int32} {h : AHp} : Rf d 180 148 [a0, a1, a2, a3, a4, a5, a6] [.int s0, .int s1, .int s2] h = Rf d 180 149 [a0, a1, a2, a3, a4, a5, a6] [.int (s1 <<< (s0 &&& 31)), .int s2] h := Rf_go ((stp_of c180_148).trans rfl)
theorem c180_149 : cd 180 149 = some (149, .ior, 1, []) := by decide +kernel
theorem x180_149 {d : Nat} {a0 a1 a2 a3 a4 a5 a6 : Value} {s0 : Int32} {s1 : Int32} {h : AHp} : Rf d 180 149 [a0, a1, a2, a3, a4, a5, a6] [.int s0, .int s1] h = Rf d 180 150 [a0, a1, a2, a3, a4, a5, a6] [.int (s1 ||| s0)] h := Rf_go ((stp_of c180_149).trans rfl)
theorem c180_150 : cd 180 150 = some (150, .istore_n 3, 1, []) := by decide +kernel
theorem x180_150 {d : Nat} {a0 a1 a2 a3 a4 a5 a6 : Value} {s0 : Int32} {h : AHp} : Rf d 180 150 [a0, a1, a2, a3, a4, a5, a6] [.int s0] h = Rf d 180 151 [a0, a1, a2, .int s0, a4, a5, a6] [] h := Rf_go ((stp_of c180_150).trans rfl)
theorem c180_112 : cd 180 112 = some (112, .iload_n 1, 1, []) := by decide +kernel
theorem x180_112 {d : Nat} {a0 a2 a3 a4 a5 a6 : Value} {x : Int32} {h : AHp} : Rf d 180 112 [a0, .int x, a2, a3, a4, a5, a6] [] h = Rf d 180 113 [a0, .int x, a2, a3, a4, a5, a6] [.int x] h := Rf_go ((stp_of c180_112).trans rfl)
theorem c180_113 : cd 180 113 = some (113, .aload_n 0, 1, []) := by decide +kernel
theorem x180_113 {d : Nat} {a1 a2 a3 a4 a5 a6 : Value} {s0 : Int32} {x : Nat} {h : AHp} : Rf d 180 113 [.ref x, a1, a2, a3, a4, a5, a6] [.int s0] h = Rf d 180 114 [.ref x, a1, a2, a3, a4, a5, a6] [.ref x, .int s0] h := Rf_go ((stp_of c180_113).trans rfl)
theorem c180_114 : cd 180 114 = some (114, .getfield 19, 3, [(12, 7)]) := by decide +kernel
theorem x180_114 {d : Nat} {a0 a1 a2 a3 a4 a5 a6 : Value} {s0 : Nat} {s1 : Int32} {h : AHp} : Rf d 180 114 [a0, a1, a2, a3, a4, a5, a6] [.ref s0, .int s1] h = if cls (h.1 s0) = 12 ∧ oKr (h.1 s0) 7 = true then Rf d 180 117 [a0, a1, a2, a3, a4, a5, a6] [.ref (oR (h.1 s0) 7), .int s1] h else Rx d 180 114 [a0, a1, a2, a3, a4, a5, a6] [.ref s0, .int s1] h := getR c180_114
theorem c180_117 : cd 180 117 = some (117, .iload 4, 2, []) := by decide +kernel
theorem x180_117 {d : Nat} {a0 a1 a2 a3 a5 a6 : Value} {s0 : Nat} {s1 : Int32} {x : Int32} {h : AHp} : Rf d 180 117 [a0, a1, a2, a3, .int x, a5, a6] [.ref s0, .int s1] h = Rf d 180 119 [a0, a1, a2, a3, .int x, a5, a6] [.int x, .ref s0, .int s1] h := Rf_go ((stp_of c180_117).trans rfl)
theorem c180_119 : cd 180 119 = some (119, .iconst 1, 1, []) := by decide +kernel
theorem x180_119 {d : Nat} {a0 a1 a2 a3 a4 a5 a6 : Value} {s0 : Int32} {s1 : Nat} {s2 : Int32} {h : AHp} : Rf d 180 119 [a0, a1, a2, a3, a4, a5, a6] [.int s0, .ref s1, .int s2] h = Rf d 180 120 [a0, a1, a2, a3, a4, a5, a6] [.int 1, .int s0, .ref s1, .int s2] h := Rf_go ((stp_of c180_119).trans rfl)
theorem c180_120 : cd 180 120 = some (120, .iadd, 1, []) := by decide +kernel
theorem x180_120 {d : Nat} {a0 a1 a2 a3 a4 a5 a6 : Value} {s0 : Int32} {s1 : Int32} {s2 : Nat} {s3 : Int32} {h : AHp} : Rf d 180 120 [a0, a1, a2, a3, a4, a5, a6] [.int s0, .int s1, .ref s2, .int s3] h = Rf d 180 121 [a0, a1, a2, a3, a4, a5, a6] [.int (s1 + s0), .ref s2, .int s3] h := Rf_go ((stp_of c180_120).trans rfl)
theorem c180_121 : cd 180 121 = some (121, .aload_n 0, 1, []) := by decide +kernel
theorem x180_121 {d : Nat} {a1 a2 a3 a4 a5 a6 : Value} {s0 : Int32} {s1 : Nat} {s2 : Int32} {x : Nat} {h : AHp} : Rf d 180 121 [.ref x, a1, a2, a3, a4, a5, a6] [.int s0, .ref s1, .int s2] h = Rf d 180 122 [.ref x, a1, a2, a3, a4, a5, a6] [.ref x, .int s0, .ref s1, .int s2] h := Rf_go ((stp_of c180_121).trans rfl)
theorem c180_122 : cd 180 122 = some (122, .getfield 9, 3, [(12, 0)]) := by decide +kernel
theorem x180_122 {d : Nat} {a0 a1 a2 a3 a4 a5 a6 : Value} {s0 : Nat} {s1 : Int32} {s2 : Nat} {s3 : Int32} {h : AHp} : Rf d 180 122 [a0, a1, a2, a3, a4, a5, a6] [.ref s0, .int s1, .ref s2, .int s3] h = if cls (h.1 s0) = 12 ∧ oKr (h.1 s0) 0 = true then Rf d 180 125 [a0, a1, a2, a3, a4, a5, a6] [.ref (oR (h.1 s0) 0), .int s1, .ref s2, .int s3] h else Rx d 180 122 [a0, a1, a2, a3, a4, a5, a6] [.ref s0, .int s1, .ref s2, .int s3] h := getR c180_122
theorem c180_125 : cd 180 125 = some (125, .iconst 0, 1, []) := by decide +kernel
theorem x180_125 {d : Nat} {a0 a1 a2 a3 a4 a5 a6 : Value} {s0 : Nat} {s1 : Int32} {s2 : Nat} {s3 : Int32} {h : AHp} : Rf d 180 125 [a0, a1, a2, a3, a4, a5, a6] [.ref s0, .int s1, .ref s2, .int s3] h = Rf d 180 126 [a0, a1, a2, a3, a4, a5, a6] [.int 0, .ref s0, .int s1, .ref s2, .int s3] h := Rf_go ((stp_of c180_125).trans rfl)
theorem c180_126 : cd 180 126 = some (126, .iaload, 1, []) := by decide +kernel
theorem x180_126 {d : Nat} {a0 a1 a2 a3 a4 a5 a6 : Value} {s0 : Int32} {s1 : Nat} {s2 : Int32} {s3 : Nat} {s4 : Int32} {h : AHp} : Rf d 180 126 [a0, a1, a2, a3, a4, a5, a6] [.int s0, .ref s1, .int s2, .ref s3, .int s4] h = if (aT (h.1 s1) = 0 ∨ aT (h.1 s1) = 10) ∧ inB s0 (aN (h.1 s1)) = true then Rf d 180 127 [a0, a1, a2, a3, a4, a5, a6] [.int (aF (h.1 s1) s0.toNatClampNeg), .int s2, .ref s3, .int s4] h else Rx d 180 126 [a0, a1, a2, a3, a4, a5, a6] [.int s0, .ref s1, .int s2, .ref s3, .int s4] h := ldI c180_126
theorem c180_127 : cd 180 127 = some (127, .irem, 1, []) := by decide +kernel
theorem x180_127 {d : Nat} {a0 a1 a2 a3 a4 a5 a6 : Value} {s0 : Int32} {s1 : Int32} {s2 : Nat} {s3 : Int32} {h : AHp} : Rf d 180 127 [a0, a1, a2, a3, a4, a5, a6] [.int s0, .int s1, .ref s2, .int s3] h = if ¬ s0 = 0 then Rf d 180 128 [a0, a1, a2, a3, a4, a5, a6] [.int (remI s1 s0), .ref s2, .int s3] h else Rx d 180 127 [a0, a1, a2, a3, a4, a5, a6] [.int s0, .int s1, .ref s2, .int s3] h := divE c180_127 (fun _ _ _ => rfl)
theorem c180_128 : cd 180 128 = some (128, .iaload, 1, []) := by decide +kernel
theorem x180_128 {d : Nat} {a0 a1 a2 a3 a4 a5 a6 : Value} {s0 : Int32} {s1 : Nat} {s2 : Int32} {h : AHp} : Rf d 180 128 [a0, a1, a2, a3, a4, a5, a6] [.int s0, .ref s1, .int s2] h = if (aT (h.1 s1) = 0 ∨ aT (h.1 s1) = 10) ∧ inB s0 (aN (h.1 s1)) = true then Rf d 180 129 [a0, a1, a2, a3, a4, a5, a6] [.int (aF (h.1 s1) s0.toNatClampNeg), .int s2] h else Rx d 180 128 [a0, a1, a2, a3, a4, a5, a6] [.int s0, .ref s1, .int s2] h := ldI c180_128
theorem c180_129 : cd 180 129 = some (129, .ishr, 1, []) := by decide +kernel
theorem x180_129 {d : Nat} {a0 a1 a2 a3 a4 a5 a6 : Value} {s0 : Int32} {s1 : Int32} {h : AHp} : Rf d 180 129 [a0, a1, a2, a3, a4, a5, a6] [.int s0, .int s1] h = Rf d 180 130 [a0, a1, a2, a3, a4, a5, a6] [.int (s1 >>> (s0 &&& 31))] h := Rf_go ((stp_of c180_129).trans rfl)
theorem c180_130 : cd 180 130 = some (130, .iconst 1, 1, []) := by decide +kernel
theorem x180_130 {d : Nat} {a0 a1 a2 a3 a4 a5 a6 : Value} {s0 : Int32} {h : AHp} : Rf d 180 130 [a0, a1, a2, a3, a4, a5, a6] [.int s0] h = Rf d 180 131 [a0, a1, a2, a3, a4, a5, a6] [.int 1, .int s0] h := Rf_go ((stp_of c180_130).trans rfl)
theorem c180_131 : cd 180 131 = some (131, .iand, 1, []) := by decide +kernel
theorem x180_131 {d : Nat} {a0 a1 a2 a3 a4 a5 a6 : Value} {s0 : Int32} {s1 : Int32} {h : AHp} : Rf d 180 131 [a0, a1, a2, a3, a4, a5, a6] [.int s0, .int s1] h = Rf d 180 132 [a0, a1, a2, a3, a4, a5, a6] [.int (s1 &&& s0)] h := Rf_go ((stp_of c180_131).trans rfl)
theorem c180_132 : cd 180 132 = some (132, .iconst 1, 1, []) := by decide +kernel
theorem x180_132 {d : Nat} {a0 a1 a2 a3 a4 a5 a6 : Value} {s0 : Int32} {h : AHp} : Rf d 180 132 [a0, a1, a2, a3, a4, a5, a6] [.int s0] h = Rf d 180 133 [a0, a1, a2, a3, a4, a5, a6] [.int 1, .int s0] h := Rf_go ((stp_of c180_132).trans rfl)
theorem c180_133 : cd 180 133 = some (133, .if_icmp .ne 6, 3, [(139, 0)]) := by decide +kernel
theorem x180_133 {d : Nat} {a0 a1 a2 a3 a4 a5 a6 : Value} {s0 : Int32} {s1 : Int32} {h : AHp} : Rf d 180 133 [a0, a1, a2, a3, a4, a5, a6] [.int s0, .int s1] h = if s1 = s0 then Rf d 180 136 [a0, a1, a2, a3, a4, a5, a6] [] h else Rf d 180 139 [a0, a1, a2, a3, a4, a5, a6] [] h := Rf_brn ((stp_of c180_133).trans rfl)
theorem c180_136 : cd 180 136 = some (136, .iconst 1, 1, []) := by decide +kernel
theorem x180_136 {d : Nat} {a0 a1 a2 a3 a4 a5 a6 : Value} {h : AHp} : Rf d 180 136 [a0, a1, a2, a3, a4, a5, a6] [] h = Rf d 180 137 [a0, a1, a2, a3, a4, a5, a6] [.int 1] h := Rf_go ((stp_of c180_136).trans rfl)
theorem c180_137 : cd 180 137 = some (137, .istore 6, 2, []) := by decide +kernel
theorem x180_137 {d : Nat} {a0 a1 a2 a3 a4 a5 a6 : Value} {s0 : Int32} {h : AHp} : Rf d 180 137 [a0, a1, a2, a3, a4, a5, a6] [.int s0] h = Rf d 180 139 [a0, a1, a2, a3, a4, a5, .int s0] [] h := Rf_go ((stp_of c180_137).trans rfl)
theorem c180_74 : cd 180 74 = some (74, .iconst 1, 1, []) := by decide +kernel
theorem x180_74 {d : Nat} {a0 a1 a2 a3 a4 a5 a6 : Value} {h : AHp} : Rf d 180 74 [a0, a1, a2, a3, a4, a5, a6] [] h = Rf d 180 75 [a0, a1, a2, a3, a4, a5, a6] [.int 1] h := Rf_go ((stp_of c180_74).trans rfl)
theorem c180_75 : cd 180 75 = some (75, .goto 4, 3, [(79, 0)]) := by decide +kernel
theorem x180_75 {d : Nat} {a0 a1 a2 a3 a4 a5 a6 : Value} {s0 : Int32} {h : AHp} : Rf d 180 75 [a0, a1, a2, a3, a4, a5, a6] [.int s0] h = Rf d 180 79 [a0, a1, a2, a3, a4, a5, a6] [.int s0] h := Rf_go ((stp_of c180_75).trans rfl)
theorem c180_61 : cd 180 61 = some (61, .goto 90, 3, [(151, 0)]) := by decide +kernel
theorem x180_61 {d : Nat} {a0 a1 a2 a3 a4 a5 a6 : Value} {h : AHp} : Rf d 180 61 [a0, a1, a2, a3, a4, a5, a6] [] h = Rf d 180 151 [a0, a1, a2, a3, a4, a5, a6] [] h := Rf_go ((stp_of c180_61).trans rfl)
theorem c180_19 : cd 180 19 = some (19, .bipush (-2), 2, []) := by decide +kernel
theorem x180_19 {d : Nat} {a0 a1 a2 a3 a4 a5 a6 : Value} {h : AHp} : Rf d 180 19 [a0, a1, a2, a3, a4, a5, a6] [] h = Rf d 180 21 [a0, a1, a2, a3, a4, a5, a6] [.int (-2)] h := Rf_go ((stp_of c180_19).trans rfl)
theorem c180_21 : cd 180 21 = some (21, .ireturn, 1, []) := by decide +kernel
theorem x180_21 {d : Nat} {a0 a1 a2 a3 a4 a5 a6 : Value} {s0 : Int32} {h : AHp} : Rf d 180 21 [a0, a1, a2, a3, a4, a5, a6] [.int s0] h = some (some (.int s0), h) := Rf_end (by rw [stp_of c180_21]; simp only [stpI]; rw [if_pos (show retI (mH 180).2.2.1 s0 = true from retI_int)])
-- 181: X12_advert
theorem c181_0 : cd 181 0 = some (0, .aload_n 0, 1, []) := by decide +kernel
theorem x181_0 {d : Nat} {a1 a2 a3 a4 : Value} {x : Nat} {h : AHp} : Rf d 181 0 [.ref x, a1, a2, a3, a4] [] h = Rf d 181 1 [.ref x, a1, a2, a3, a4] [.ref x] h := Rf_go ((stp_of c181_0).trans rfl)
theorem c181_1 : cd 181 1 = some (1, .iload_n 1, 1, []) := by decide +kernel
theorem x181_1 {d : Nat} {a0 a2 a3 a4 : Value} {s0 : Nat} {x : Int32} {h : AHp} : Rf d 181 1 [a0, .int x, a2, a3, a4] [.ref s0] h = Rf d 181 2 [a0, .int x, a2, a3, a4] [.int x, .ref s0] h := Rf_go ((stp_of c181_1).trans rfl)
theorem c181_2 : cd 181 2 = some (2, .invokevirtual 140, 3, [(12, 132)]) := by decide +kernel
theorem xc181_2 {d : Nat} {a0 a1 a2 a3 a4 : Value} {s0 : Int32} {s1 : Nat} {h : AHp} {h1 : AHp} {v : Int32} (hr : cls (h.1 s1) = 12) (hq : Rf d 132 0 [.ref s1, .int s0] [] h = some (some (.int v), h1)) : Rf (d + 1) 181 2 [a0, a1, a2, a3, a4] [.int s0, .ref s1] h = Rf (d + 1) 181 5 [a0, a1, a2, a3, a4] [.int v] h1 := clV (c := 132) (as := [.int s0]) c181_2 rfl (by simp [isV]) (by rw [hr]; rfl) hq
theorem c181_5 : cd 181 5 = some (5, .ifCond .ne 5, 3, [(10, 0)]) := by decide +kernel
theorem x181_5 {d : Nat} {a0 a1 a2 a3 a4 : Value} {s0 : Int32} {h : AHp} : Rf d 181 5 [a0, a1, a2, a3, a4] [.int s0] h = if s0 = 0 then Rf d 181 8 [a0, a1, a2, a3, a4] [] h else Rf d 181 10 [a0, a1, a2, a3, a4] [] h := Rf_brn ((stp_of c181_5).trans rfl)
theorem c181_10 : cd 181 10 = some (10, .iload_n 2, 1, []) := by decide +kernel
theorem x181_10 {d : Nat} {a0 a1 a3 a4 : Value} {x : Int32} {h : AHp} : Rf d 181 10 [a0, a1, .int x, a3, a4] [] h = Rf d 181 11 [a0, a1, .int x, a3, a4] [.int x] h := Rf_go ((stp_of c181_10).trans rfl)
theorem c181_11 : cd 181 11 = some (11, .iconst 0, 1, []) := by decide +kernel
theorem x181_11 {d : Nat} {a0 a1 a2 a3 a4 : Value} {s0 : Int32} {h : AHp} : Rf d 181 11 [a0, a1, a2, a3, a4] [.int s0] h = Rf d 181 12 [a0, a1, a2, a3, a4] [.int 0, .int s0] h := Rf_go ((stp_of c181_11).trans rfl)
theorem c181_12 : cd 181 12 = some (12, .sipush 999, 3, []) := by decide +kernel
theorem x181_12 {d : Nat} {a0 a1 a2 a3 a4 : Value} {s0 : Int32} {s1 : Int32} {h : AHp} : Rf d 181 12 [a0, a1, a2, a3, a4] [.int s0, .int s1] h = Rf d 181 15 [a0, a1, a2, a3, a4] [.int 999, .int s0, .int s1] h := Rf_go ((stp_of c181_12).trans rfl)
theorem c181_15 : cd 181 15 = some (15, .invokestatic 31, 3, [(0, 131)]) := by decide +kernel
theorem xc181_15 {d : Nat} {a0 a1 a2 a3 a4 : Value} {s0 : Int32} {s1 : Int32} {s2 : Int32} {h : AHp} {h1 : AHp} {v : Int32} (hq : Rf d 131 0 [.int s2, .int s1, .int s0] [] h = some (some (.int v), h1)) : Rf (d + 1) 181 15 [a0, a1, a2, a3, a4] [.int s0, .int s1, .int s2] h = Rf (d + 1) 181 18 [a0, a1, a2, a3, a4] [.int v] h1 := clS (as := [.int s2, .int s1, .int s0]) c181_15 rfl rfl (by simp [isV]) hq
theorem c181_18 : cd 181 18 = some (18, .ifCond .eq 19, 3, [(37, 0)]) := by decide +kernel
theorem x181_18 {d : Nat} {a0 a1 a2 a3 a4 : Value} {s0 : Int32} {h : AHp} : Rf d 181 18 [a0, a1, a2, a3, a4] [.int s0] h = if s0 = 0 then Rf d 181 37 [a0, a1, a2, a3, a4] [] h else Rf d 181 21 [a0, a1, a2, a3, a4] [] h := Rf_brd ((stp_of c181_18).trans rfl)
theorem c181_37 : cd 181 37 = some (37, .bipush (-2), 2, []) := by decide +kernel
theorem x181_37 {d : Nat} {a0 a1 a2 a3 a4 : Value} {h : AHp} : Rf d 181 37 [a0, a1, a2, a3, a4] [] h = Rf d 181 39 [a0, a1, a2, a3, a4] [.int (-2)] h := Rf_go ((stp_of c181_37).trans rfl)
theorem c181_39 : cd 181 39 = some (39, .ireturn, 1, []) := by decide +kernel
theorem x181_39 {d : Nat} {a0 a1 a2 a3 a4 : Value} {s0 : Int32} {h : AHp} : Rf d 181 39 [a0, a1, a2, a3, a4] [.int s0] h = some (some (.int s0), h) := Rf_end (by rw [stp_of c181_39]; simp only [stpI]; rw [if_pos (show retI (mH 181).2.2.1 s0 = true from retI_int)])
theorem c181_21 : cd 181 21 = some (21, .iload_n 3, 1, []) := by decide +kernel
theorem x181_21 {d : Nat} {a0 a1 a2 a4 : Value} {x : Int32} {h : AHp} : Rf d 181 21 [a0, a1, a2, .int x, a4] [] h = Rf d 181 22 [a0, a1, a2, .int x, a4] [.int x] h := Rf_go ((stp_of c181_21).trans rfl)
theorem c181_22 : cd 181 22 = some (22, .iconst 0, 1, []) := by decide +kernel
theorem x181_22 {d : Nat} {a0 a1 a2 a3 a4 : Value} {s0 : Int32} {h : AHp} : Rf d 181 22 [a0, a1, a2, a3, a4] [.int s0] h = Rf d 181 23 [a0, a1, a2, a3, a4] [.int 0, .int s0] h := Rf_go ((stp_of c181_22).trans rfl)
theorem c181_23 : cd 181 23 = some (23, .sipush 999, 3, []) := by decide +kernel
theorem x181_23 {d : Nat} {a0 a1 a2 a3 a4 : Value} {s0 : Int32} {s1 : Int32} {h : AHp} : Rf d 181 23 [a0, a1, a2, a3, a4] [.int s0, .int s1] h = Rf d 181 26 [a0, a1, a2, a3, a4] [.int 999, .int s0, .int s1] h := Rf_go ((stp_of c181_23).trans rfl)
theorem c181_26 : cd 181 26 = some (26, .invokestatic 31, 3, [(0, 131)]) := by decide +kernel
theorem xc181_26 {d : Nat} {a0 a1 a2 a3 a4 : Value} {s0 : Int32} {s1 : Int32} {s2 : Int32} {h : AHp} {h1 : AHp} {v : Int32} (hq : Rf d 131 0 [.int s2, .int s1, .int s0] [] h = some (some (.int v), h1)) : Rf (d + 1) 181 26 [a0, a1, a2, a3, a4] [.int s0, .int s1, .int s2] h = Rf (d + 1) 181 29 [a0, a1, a2, a3, a4] [.int v] h1 := clS (as := [.int s2, .int s1, .int s0]) c181_26 rfl rfl (by simp [isV]) hq
theorem c181_29 : cd 181 29 = some (29, .ifCond .eq 8, 3, [(37, 0)]) := by decide +kernel
theorem x181_29 {d : Nat} {a0 a1 a2 a3 a4 : Value} {s0 : Int32} {h : AHp} : Rf d 181 29 [a0, a1, a2, a3, a4] [.int s0] h = if s0 = 0 then Rf d 181 37 [a0, a1, a2, a3, a4] [] h else Rf d 181 32 [a0, a1, a2, a3, a4] [] h := Rf_brd ((stp_of c181_29).trans rfl)
theorem c181_32 : cd 181 32 = some (32, .iload_n 2, 1, []) := by decide +kernel
theorem x181_32 {d : Nat} {a0 a1 a3 a4 : Value} {x : Int32} {h : AHp} : Rf d 181 32 [a0, a1, .int x, a3, a4] [] h = Rf d 181 33 [a0, a1, .int x, a3, a4] [.int x] h := Rf_go ((stp_of c181_32).trans rfl)
theorem c181_33 : cd 181 33 = some (33, .iload_n 3, 1, []) := by decide +kernel
theorem x181_33 {d : Nat} {a0 a1 a2 a4 : Value} {s0 : Int32} {x : Int32} {h : AHp} : Rf d 181 33 [a0, a1, a2, .int x, a4] [.int s0] h = Rf d 181 34 [a0, a1, a2, .int x, a4] [.int x, .int s0] h := Rf_go ((stp_of c181_33).trans rfl)
theorem c181_34 : cd 181 34 = some (34, .if_icmp .le 6, 3, [(40, 0)]) := by decide +kernel
theorem x181_34 {d : Nat} {a0 a1 a2 a3 a4 : Value} {s0 : Int32} {s1 : Int32} {h : AHp} : Rf d 181 34 [a0, a1, a2, a3, a4] [.int s0, .int s1] h = if s0 < s1 then Rf d 181 37 [a0, a1, a2, a3, a4] [] h else Rf d 181 40 [a0, a1, a2, a3, a4] [] h := Rf_brn ((stp_of c181_34).trans rfl)
theorem c181_40 : cd 181 40 = some (40, .aload_n 0, 1, []) := by decide +kernel
theorem x181_40 {d : Nat} {a1 a2 a3 a4 : Value} {x : Nat} {h : AHp} : Rf d 181 40 [.ref x, a1, a2, a3, a4] [] h = Rf d 181 41 [.ref x, a1, a2, a3, a4] [.ref x] h := Rf_go ((stp_of c181_40).trans rfl)
theorem c181_41 : cd 181 41 = some (41, .getfield 9, 3, [(12, 0)]) := by decide +kernel
theorem x181_41 {d : Nat} {a0 a1 a2 a3 a4 : Value} {s0 : Nat} {h : AHp} : Rf d 181 41 [a0, a1, a2, a3, a4] [.ref s0] h = if cls (h.1 s0) = 12 ∧ oKr (h.1 s0) 0 = true then Rf d 181 44 [a0, a1, a2, a3, a4] [.ref (oR (h.1 s0) 0)] h else Rx d 181 41 [a0, a1, a2, a3, a4] [.ref s0] h := getR c181_41
theorem c181_44 : cd 181 44 = some (44, .iconst 2, 1, []) := by decide +kernel
theorem x181_44 {d : Nat} {a0 a1 a2 a3 a4 : Value} {s0 : Nat} {h : AHp} : Rf d 181 44 [a0, a1, a2, a3, a4] [.ref s0] h = Rf d 181 45 [a0, a1, a2, a3, a4] [.int 2, .ref s0] h := Rf_go ((stp_of c181_44).trans rfl)
theorem c181_45 : cd 181 45 = some (45, .iaload, 1, []) := by decide +kernel
theorem x181_45 {d : Nat} {a0 a1 a2 a3 a4 : Value} {s0 : Int32} {s1 : Nat} {h : AHp} : Rf d 181 45 [a0, a1, a2, a3, a4] [.int s0, .ref s1] h = if (aT (h.1 s1) = 0 ∨ aT (h.1 s1) = 10) ∧ inB s0 (aN (h.1 s1)) = true then Rf d 181 46 [a0, a1, a2, a3, a4] [.int (aF (h.1 s1) s0.toNatClampNeg)] h else Rx d 181 45 [a0, a1, a2, a3, a4] [.int s0, .ref s1] h := ldI c181_45
theorem c181_46 : cd 181 46 = some (46, .istore 4, 2, []) := by decide +kernel
theorem x181_46 {d : Nat} {a0 a1 a2 a3 a4 : Value} {s0 : Int32} {h : AHp} : Rf d 181 46 [a0, a1, a2, a3, a4] [.int s0] h = Rf d 181 48 [a0, a1, a2, a3, .int s0] [] h := Rf_go ((stp_of c181_46).trans rfl)
theorem c181_48 : cd 181 48 = some (48, .iload 4, 2, []) := by decide +kernel
theorem x181_48 {d : Nat} {a0 a1 a2 a3 : Value} {x : Int32} {h : AHp} : Rf d 181 48 [a0, a1, a2, a3, .int x] [] h = Rf d 181 50 [a0, a1, a2, a3, .int x] [.int x] h := Rf_go ((stp_of c181_48).trans rfl)
theorem c181_50 : cd 181 50 = some (50, .bipush 12, 2, []) := by decide +kernel
theorem x181_50 {d : Nat} {a0 a1 a2 a3 a4 : Value} {s0 : Int32} {h : AHp} : Rf d 181 50 [a0, a1, a2, a3, a4] [.int s0] h = Rf d 181 52 [a0, a1, a2, a3, a4] [.int 12, .int s0] h := Rf_go ((stp_of c181_50).trans rfl)
theorem c181_52 : cd 181 52 = some (52, .if_icmp .ne 6, 3, [(58, 0)]) := by decide +kernel
theorem x181_52 {d : Nat} {a0 a1 a2 a3 a4 : Value} {s0 : Int32} {s1 : Int32} {h : AHp} : Rf d 181 52 [a0, a1, a2, a3, a4] [.int s0, .int s1] h = if s1 = s0 then Rf d 181 55 [a0, a1, a2, a3, a4] [] h else Rf d 181 58 [a0, a1, a2, a3, a4] [] h := Rf_brn ((stp_of c181_52).trans rfl)
theorem c181_58 : cd 181 58 = some (58, .aload_n 0, 1, []) := by decide +kernel
theorem x181_58 {d : Nat} {a1 a2 a3 a4 : Value} {x : Nat} {h : AHp} : Rf d 181 58 [.ref x, a1, a2, a3, a4] [] h = Rf d 181 59 [.ref x, a1, a2, a3, a4] [.ref x] h := Rf_go ((stp_of c181_58).trans rfl)
theorem c181_59 : cd 181 59 = some (59, .getfield 9, 3, [(12, 0)]) := by decide +kernel
theorem x181_59 {d : Nat} {a0 a1 a2 a3 a4 : Value} {s0 : Nat} {h : AHp} : Rf d 181 59 [a0, a1, a2, a3, a4] [.ref s0] h = if cls (h.1 s0) = 12 ∧ oKr (h.1 s0) 0 = true then Rf d 181 62 [a0, a1, a2, a3, a4] [.ref (oR (h.1 s0) 0)] h else Rx d 181 59 [a0, a1, a2, a3, a4] [.ref s0] h := getR c181_59
theorem c181_62 : cd 181 62 = some (62, .bipush 80, 2, []) := by decide +kernel
theorem x181_62 {d : Nat} {a0 a1 a2 a3 a4 : Value} {s0 : Nat} {h : AHp} : Rf d 181 62 [a0, a1, a2, a3, a4] [.ref s0] h = Rf d 181 64 [a0, a1, a2, a3, a4] [.int 80, .ref s0] h := Rf_go ((stp_of c181_62).trans rfl)
theorem c181_64 : cd 181 64 = some (64, .iload 4, 2, []) := by decide +kernel
theorem x181_64 {d : Nat} {a0 a1 a2 a3 : Value} {s0 : Int32} {s1 : Nat} {x : Int32} {h : AHp} : Rf d 181 64 [a0, a1, a2, a3, .int x] [.int s0, .ref s1] h = Rf d 181 66 [a0, a1, a2, a3, .int x] [.int x, .int s0, .ref s1] h := Rf_go ((stp_of c181_64).trans rfl)
theorem c181_66 : cd 181 66 = some (66, .iadd, 1, []) := by decide +kernel
theorem x181_66 {d : Nat} {a0 a1 a2 a3 a4 : Value} {s0 : Int32} {s1 : Int32} {s2 : Nat} {h : AHp} : Rf d 181 66 [a0, a1, a2, a3, a4] [.int s0, .int s1, .ref s2] h = Rf d 181 67 [a0, a1, a2, a3, a4] [.int (s1 + s0), .ref s2] h := Rf_go ((stp_of c181_66).trans rfl)
theorem c181_67 : cd 181 67 = some (67, .iload_n 1, 1, []) := by decide +kernel
theorem x181_67 {d : Nat} {a0 a2 a3 a4 : Value} {s0 : Int32} {s1 : Nat} {x : Int32} {h : AHp} : Rf d 181 67 [a0, .int x, a2, a3, a4] [.int s0, .ref s1] h = Rf d 181 68 [a0, .int x, a2, a3, a4] [.int x, .int s0, .ref s1] h := Rf_go ((stp_of c181_67).trans rfl)
theorem c181_68 : cd 181 68 = some (68, .iastore, 1, []) := by decide +kernel
theorem x181_68 {d : Nat} {a0 a1 a2 a3 a4 : Value} {s0 : Int32} {s1 : Int32} {s2 : Nat} {h : AHp} : Rf d 181 68 [a0, a1, a2, a3, a4] [.int s0, .int s1, .ref s2] h = if aT (h.1 s2) = 0 ∧ inB s1 (aN (h.1 s2)) = true then Rf d 181 69 [a0, a1, a2, a3, a4] [] (hset h s2 (.inl (0, aN (h.1 s2), .inl (upd (aF (h.1 s2)) s1.toNatClampNeg s0)))) else Rx d 181 68 [a0, a1, a2, a3, a4] [.int s0, .int s1, .ref s2] h := stI c181_68
theorem c181_69 : cd 181 69 = some (69, .aload_n 0, 1, []) := by decide +kernel
theorem x181_69 {d : Nat} {a1 a2 a3 a4 : Value} {x : Nat} {h : AHp} : Rf d 181 69 [.ref x, a1, a2, a3, a4] [] h = Rf d 181 70 [.ref x, a1, a2, a3, a4] [.ref x] h := Rf_go ((stp_of c181_69).trans rfl)
theorem c181_70 : cd 181 70 = some (70, .getfield 9, 3, [(12, 0)]) := by decide +kernel
theorem x181_70 {d : Nat} {a0 a1 a2 a3 a4 : Value} {s0 : Nat} {h : AHp} : Rf d 181 70 [a0, a1, a2, a3, a4] [.ref s0] h = if cls (h.1 s0) = 12 ∧ oKr (h.1 s0) 0 = true then Rf d 181 73 [a0, a1, a2, a3, a4] [.ref (oR (h.1 s0) 0)] h else Rx d 181 70 [a0, a1, a2, a3, a4] [.ref s0] h := getR c181_70
theorem c181_73 : cd 181 73 = some (73, .bipush 92, 2, []) := by decide +kernel
theorem x181_73 {d : Nat} {a0 a1 a2 a3 a4 : Value} {s0 : Nat} {h : AHp} : Rf d 181 73 [a0, a1, a2, a3, a4] [.ref s0] h = Rf d 181 75 [a0, a1, a2, a3, a4] [.int 92, .ref s0] h := Rf_go ((stp_of c181_73).trans rfl)
theorem c181_75 : cd 181 75 = some (75, .iload 4, 2, []) := by decide +kernel
theorem x181_75 {d : Nat} {a0 a1 a2 a3 : Value} {s0 : Int32} {s1 : Nat} {x : Int32} {h : AHp} : Rf d 181 75 [a0, a1, a2, a3, .int x] [.int s0, .ref s1] h = Rf d 181 77 [a0, a1, a2, a3, .int x] [.int x, .int s0, .ref s1] h := Rf_go ((stp_of c181_75).trans rfl)
theorem c181_77 : cd 181 77 = some (77, .iadd, 1, []) := by decide +kernel
theorem x181_77 {d : Nat} {a0 a1 a2 a3 a4 : Value} {s0 : Int32} {s1 : Int32} {s2 : Nat} {h : AHp} : Rf d 181 77 [a0, a1, a2, a3, a4] [.int s0, .int s1, .ref s2] h = Rf d 181 78 [a0, a1, a2, a3, a4] [.int (s1 + s0), .ref s2] h := Rf_go ((stp_of c181_77).trans rfl)
theorem c181_78 : cd 181 78 = some (78, .iload_n 2, 1, []) := by decide +kernel
theorem x181_78 {d : Nat} {a0 a1 a3 a4 : Value} {s0 : Int32} {s1 : Nat} {x : Int32} {h : AHp} : Rf d 181 78 [a0, a1, .int x, a3, a4] [.int s0, .ref s1] h = Rf d 181 79 [a0, a1, .int x, a3, a4] [.int x, .int s0, .ref s1] h := Rf_go ((stp_of c181_78).trans rfl)
theorem c181_79 : cd 181 79 = some (79, .iastore, 1, []) := by decide +kernel
theorem x181_79 {d : Nat} {a0 a1 a2 a3 a4 : Value} {s0 : Int32} {s1 : Int32} {s2 : Nat} {h : AHp} : Rf d 181 79 [a0, a1, a2, a3, a4] [.int s0, .int s1, .ref s2] h = if aT (h.1 s2) = 0 ∧ inB s1 (aN (h.1 s2)) = true then Rf d 181 80 [a0, a1, a2, a3, a4] [] (hset h s2 (.inl (0, aN (h.1 s2), .inl (upd (aF (h.1 s2)) s1.toNatClampNeg s0)))) else Rx d 181 79 [a0, a1, a2, a3, a4] [.int s0, .int s1, .ref s2] h := stI c181_79
theorem c181_80 : cd 181 80 = some (80, .aload_n 0, 1, []) := by decide +kernel
theorem x181_80 {d : Nat} {a1 a2 a3 a4 : Value} {x : Nat} {h : AHp} : Rf d 181 80 [.ref x, a1, a2, a3, a4] [] h = Rf d 181 81 [.ref x, a1, a2, a3, a4] [.ref x] h := Rf_go ((stp_of c181_80).trans rfl)
theorem c181_81 : cd 181 81 = some (81, .getfield 9, 3, [(12, 0)]) := by decide +kernel
theorem x181_81 {d : Nat} {a0 a1 a2 a3 a4 : Value} {s0 : Nat} {h : AHp} : Rf d 181 81 [a0, a1, a2, a3, a4] [.ref s0] h = if cls (h.1 s0) = 12 ∧ oKr (h.1 s0) 0 = true then Rf d 181 84 [a0, a1, a2, a3, a4] [.ref (oR (h.1 s0) 0)] h else Rx d 181 81 [a0, a1, a2, a3, a4] [.ref s0] h := getR c181_81
theorem c181_84 : cd 181 84 = some (84, .bipush 104, 2, []) := by decide +kernel
theorem x181_84 {d : Nat} {a0 a1 a2 a3 a4 : Value} {s0 : Nat} {h : AHp} : Rf d 181 84 [a0, a1, a2, a3, a4] [.ref s0] h = Rf d 181 86 [a0, a1, a2, a3, a4] [.int 104, .ref s0] h := Rf_go ((stp_of c181_84).trans rfl)
theorem c181_86 : cd 181 86 = some (86, .iload 4, 2, []) := by decide +kernel
theorem x181_86 {d : Nat} {a0 a1 a2 a3 : Value} {s0 : Int32} {s1 : Nat} {x : Int32} {h : AHp} : Rf d 181 86 [a0, a1, a2, a3, .int x] [.int s0, .ref s1] h = Rf d 181 88 [a0, a1, a2, a3, .int x] [.int x, .int s0, .ref s1] h := Rf_go ((stp_of c181_86).trans rfl)
theorem c181_88 : cd 181 88 = some (88, .iadd, 1, []) := by decide +kernel
theorem x181_88 {d : Nat} {a0 a1 a2 a3 a4 : Value} {s0 : Int32} {s1 : Int32} {s2 : Nat} {h : AHp} : Rf d 181 88 [a0, a1, a2, a3, a4] [.int s0, .int s1, .ref s2] h = Rf d 181 89 [a0, a1, a2, a3, a4] [.int (s1 + s0), .ref s2] h := Rf_go ((stp_of c181_88).trans rfl)
theorem c181_89 : cd 181 89 = some (89, .iload_n 3, 1, []) := by decide +kernel
theorem x181_89 {d : Nat} {a0 a1 a2 a4 : Value} {s0 : Int32} {s1 : Nat} {x : Int32} {h : AHp} : Rf d 181 89 [a0, a1, a2, .int x, a4] [.int s0, .ref s1] h = Rf d 181 90 [a0, a1, a2, .int x, a4] [.int x, .int s0, .ref s1] h := Rf_go ((stp_of c181_89).trans rfl)
theorem c181_90 : cd 181 90 = some (90, .iastore, 1, []) := by decide +kernel
theorem x181_90 {d : Nat} {a0 a1 a2 a3 a4 : Value} {s0 : Int32} {s1 : Int32} {s2 : Nat} {h : AHp} : Rf d 181 90 [a0, a1, a2, a3, a4] [.int s0, .int s1, .ref s2] h = if aT (h.1 s2) = 0 ∧ inB s1 (aN (h.1 s2)) = true then Rf d 181 91 [a0, a1, a2, a3, a4] [] (hset h s2 (.inl (0, aN (h.1 s2), .inl (upd (aF (h.1 s2)) s1.toNatClampNeg s0)))) else Rx d 181 90 [a0, a1, a2, a3, a4] [.int s0, .int s1, .ref s2] h := stI c181_90
theorem c181_91 : cd 181 91 = some (91, .aload_n 0, 1, []) := by decide +kernel
theorem x181_91 {d : Nat} {a1 a2 a3 a4 : Value} {x : Nat} {h : AHp} : Rf d 181 91 [.ref x, a1, a2, a3, a4] [] h = Rf d 181 92 [.ref x, a1, a2, a3, a4] [.ref x] h := Rf_go ((stp_of c181_91).trans rfl)
theorem c181_92 : cd 181 92 = some (92, .getfield 9, 3, [(12, 0)]) := by decide +kernel
theorem x181_92 {d : Nat} {a0 a1 a2 a3 a4 : Value} {s0 : Nat} {h : AHp} : Rf d 181 92 [a0, a1, a2, a3, a4] [.ref s0] h = if cls (h.1 s0) = 12 ∧ oKr (h.1 s0) 0 = true then Rf d 181 95 [a0, a1, a2, a3, a4] [.ref (oR (h.1 s0) 0)] h else Rx d 181 92 [a0, a1, a2, a3, a4] [.ref s0] h := getR c181_92
theorem c181_95 : cd 181 95 = some (95, .iconst 2, 1, []) := by decide +kernel
theorem x181_95 {d : Nat} {a0 a1 a2 a3 a4 : Value} {s0 : Nat} {h : AHp} : Rf d 181 95 [a0, a1, a2, a3, a4] [.ref s0] h = Rf d 181 96 [a0, a1, a2, a3, a4] [.int 2, .ref s0] h := Rf_go ((stp_of c181_95).trans rfl)
theorem c181_96 : cd 181 96 = some (96, .dup2, 1, []) := by decide +kernel
theorem x181_96 {d : Nat} {a0 a1 a2 a3 a4 : Value} {s0 : Int32} {s1 : Nat} {h : AHp} : Rf d 181 96 [a0, a1, a2, a3, a4] [.int s0, .ref s1] h = Rf d 181 97 [a0, a1, a2, a3, a4] [.int s0, .ref s1, .int s0, .ref s1] h := Rf_go ((stp_of c181_96).trans rfl)
theorem c181_97 : cd 181 97 = some (97, .iaload, 1, []) := by decide +kernel
theorem x181_97 {d : Nat} {a0 a1 a2 a3 a4 : Value} {s0 : Int32} {s1 : Nat} {s2 : Int32} {s3 : Nat} {h : AHp} : Rf d 181 97 [a0, a1, a2, a3, a4] [.int s0, .ref s1, .int s2, .ref s3] h = if (aT (h.1 s1) = 0 ∨ aT (h.1 s1) = 10) ∧ inB s0 (aN (h.1 s1)) = true then Rf d 181 98 [a0, a1, a2, a3, a4] [.int (aF (h.1 s1) s0.toNatClampNeg), .int s2, .ref s3] h else Rx d 181 97 [a0, a1, a2, a3, a4] [.int s0, .ref s1, .int s2, .ref s3] h := ldI c181_97
theorem c181_98 : cd 181 98 = some (98, .iconst 1, 1, []) := by decide +kernel
theorem x181_98 {d : Nat} {a0 a1 a2 a3 a4 : Value} {s0 : Int32} {s1 : Int32} {s2 : Nat} {h : AHp} : Rf d 181 98 [a0, a1, a2, a3, a4] [.int s0, .int s1, .ref s2] h = Rf d 181 99 [a0, a1, a2, a3, a4] [.int 1, .int s0, .int s1, .ref s2] h := Rf_go ((stp_of c181_98).trans rfl)
theorem c181_99 : cd 181 99 = some (99, .iadd, 1, []) := by decide +kernel
theorem x181_99 {d : Nat} {a0 a1 a2 a3 a4 : Value} {s0 : Int32} {s1 : Int32} {s2 : Int32} {s3 : Nat} {h : AHp} : Rf d 181 99 [a0, a1, a2, a3, a4] [.int s0, .int s1, .int s2, .ref s3] h = Rf d 181 100 [a0, a1, a2, a3, a4] [.int (s1 + s0), .int s2, .ref s3] h := Rf_go ((stp_of c181_99).trans rfl)
theorem c181_100 : cd 181 100 = some (100, .dup_x2, 1, []) := by decide +kernel
theorem x181_100 {d : Nat} {a0 a1 a2 a3 a4 : Value} {s0 : Int32} {s1 : Int32} {s2 : Nat} {h : AHp} : Rf d 181 100 [a0, a1, a2, a3, a4] [.int s0, .int s1, .ref s2] h = Rf d 181 101 [a0, a1, a2, a3, a4] [.int s0, .int s1, .ref s2, .int s0] h := Rf_go ((stp_of c181_100).trans rfl)
theorem c181_101 : cd 181 101 = some (101, .iastore, 1, []) := by decide +kernel
theorem x181_101 {d : Nat} {a0 a1 a2 a3 a4 : Value} {s0 : Int32} {s1 : Int32} {s2 : Nat} {s3 : Int32} {h : AHp} : Rf d 181 101 [a0, a1, a2, a3, a4] [.int s0, .int s1, .ref s2, .int s3] h = if aT (h.1 s2) = 0 ∧ inB s1 (aN (h.1 s2)) = true then Rf d 181 102 [a0, a1, a2, a3, a4] [.int s3] (hset h s2 (.inl (0, aN (h.1 s2), .inl (upd (aF (h.1 s2)) s1.toNatClampNeg s0)))) else Rx d 181 101 [a0, a1, a2, a3, a4] [.int s0, .int s1, .ref s2, .int s3] h := stI c181_101
theorem c181_102 : cd 181 102 = some (102, .ireturn, 1, []) := by decide +kernel
theorem x181_102 {d : Nat} {a0 a1 a2 a3 a4 : Value} {s0 : Int32} {h : AHp} : Rf d 181 102 [a0, a1, a2, a3, a4] [.int s0] h = some (some (.int s0), h) := Rf_end (by rw [stp_of c181_102]; simp only [stpI]; rw [if_pos (show retI (mH 181).2.2.1 s0 = true from retI_int)])
theorem c181_55 : cd 181 55 = some (55, .bipush (-4), 2, []) := by decide +kernel
theorem x181_55 {d : Nat} {a0 a1 a2 a3 a4 : Value} {h : AHp} : Rf d 181 55 [a0, a1, a2, a3, a4] [] h = Rf d 181 57 [a0, a1, a2, a3, a4] [.int (-4)] h := Rf_go ((stp_of c181_55).trans rfl)
theorem c181_57 : cd 181 57 = some (57, .ireturn, 1, []) := by decide +kernel
theorem x181_57 {d : Nat} {a0 a1 a2 a3 a4 : Value} {s0 : Int32} {h : AHp} : Rf d 181 57 [a0, a1, a2, a3, a4] [.int s0] h = some (some (.int s0), h) := Rf_end (by rw [stp_of c181_57]; simp only [stpI]; rw [if_pos (show retI (mH 181).2.2.1 s0 = true from retI_int)])
theorem c181_8 : cd 181 8 = some (8, .iconst (-1), 1, []) := by decide +kernel
theorem x181_8 {d : Nat} {a0 a1 a2 a3 a4 : Value} {h : AHp} : Rf d 181 8 [a0, a1, a2, a3, a4] [] h = Rf d 181 9 [a0, a1, a2, a3, a4] [.int (-1)] h := Rf_go ((stp_of c181_8).trans rfl)
theorem c181_9 : cd 181 9 = some (9, .ireturn, 1, []) := by decide +kernel
theorem x181_9 {d : Nat} {a0 a1 a2 a3 a4 : Value} {s0 : Int32} {h : AHp} : Rf d 181 9 [a0, a1, a2, a3, a4] [.int s0] h = some (some (.int s0), h) := Rf_end (by rw [stp_of c181_9]; simp only [stpI]; rw [if_pos (show retI (mH 181).2.2.1 s0 = true from retI_int)])
-- 182: X12_clear
theorem c182_0 : cd 182 0 = some (0, .aload_n 0, 1, []) := by decide +kernel
theorem x182_0 {d : Nat} {a1 : Value} {x : Nat} {h : AHp} : Rf d 182 0 [.ref x, a1] [] h = Rf d 182 1 [.ref x, a1] [.ref x] h := Rf_go ((stp_of c182_0).trans rfl)
theorem c182_1 : cd 182 1 = some (1, .getfield 9, 3, [(12, 0)]) := by decide +kernel
theorem x182_1 {d : Nat} {a0 a1 : Value} {s0 : Nat} {h : AHp} : Rf d 182 1 [a0, a1] [.ref s0] h = if cls (h.1 s0) = 12 ∧ oKr (h.1 s0) 0 = true then Rf d 182 4 [a0, a1] [.ref (oR (h.1 s0) 0)] h else Rx d 182 1 [a0, a1] [.ref s0] h := getR c182_1
theorem c182_4 : cd 182 4 = some (4, .iconst 2, 1, []) := by decide +kernel
theorem x182_4 {d : Nat} {a0 a1 : Value} {s0 : Nat} {h : AHp} : Rf d 182 4 [a0, a1] [.ref s0] h = Rf d 182 5 [a0, a1] [.int 2, .ref s0] h := Rf_go ((stp_of c182_4).trans rfl)
theorem c182_5 : cd 182 5 = some (5, .iaload, 1, []) := by decide +kernel
theorem x182_5 {d : Nat} {a0 a1 : Value} {s0 : Int32} {s1 : Nat} {h : AHp} : Rf d 182 5 [a0, a1] [.int s0, .ref s1] h = if (aT (h.1 s1) = 0 ∨ aT (h.1 s1) = 10) ∧ inB s0 (aN (h.1 s1)) = true then Rf d 182 6 [a0, a1] [.int (aF (h.1 s1) s0.toNatClampNeg)] h else Rx d 182 5 [a0, a1] [.int s0, .ref s1] h := ldI c182_5
theorem c182_6 : cd 182 6 = some (6, .istore_n 1, 1, []) := by decide +kernel
theorem x182_6 {d : Nat} {a0 a1 : Value} {s0 : Int32} {h : AHp} : Rf d 182 6 [a0, a1] [.int s0] h = Rf d 182 7 [a0, .int s0] [] h := Rf_go ((stp_of c182_6).trans rfl)
theorem c182_7 : cd 182 7 = some (7, .aload_n 0, 1, []) := by decide +kernel
theorem x182_7 {d : Nat} {a1 : Value} {x : Nat} {h : AHp} : Rf d 182 7 [.ref x, a1] [] h = Rf d 182 8 [.ref x, a1] [.ref x] h := Rf_go ((stp_of c182_7).trans rfl)
theorem c182_8 : cd 182 8 = some (8, .getfield 9, 3, [(12, 0)]) := by decide +kernel
theorem x182_8 {d : Nat} {a0 a1 : Value} {s0 : Nat} {h : AHp} : Rf d 182 8 [a0, a1] [.ref s0] h = if cls (h.1 s0) = 12 ∧ oKr (h.1 s0) 0 = true then Rf d 182 11 [a0, a1] [.ref (oR (h.1 s0) 0)] h else Rx d 182 8 [a0, a1] [.ref s0] h := getR c182_8
theorem c182_11 : cd 182 11 = some (11, .iconst 2, 1, []) := by decide +kernel
theorem x182_11 {d : Nat} {a0 a1 : Value} {s0 : Nat} {h : AHp} : Rf d 182 11 [a0, a1] [.ref s0] h = Rf d 182 12 [a0, a1] [.int 2, .ref s0] h := Rf_go ((stp_of c182_11).trans rfl)
theorem c182_12 : cd 182 12 = some (12, .iconst 0, 1, []) := by decide +kernel
theorem x182_12 {d : Nat} {a0 a1 : Value} {s0 : Int32} {s1 : Nat} {h : AHp} : Rf d 182 12 [a0, a1] [.int s0, .ref s1] h = Rf d 182 13 [a0, a1] [.int 0, .int s0, .ref s1] h := Rf_go ((stp_of c182_12).trans rfl)
theorem c182_13 : cd 182 13 = some (13, .iastore, 1, []) := by decide +kernel
theorem x182_13 {d : Nat} {a0 a1 : Value} {s0 : Int32} {s1 : Int32} {s2 : Nat} {h : AHp} : Rf d 182 13 [a0, a1] [.int s0, .int s1, .ref s2] h = if aT (h.1 s2) = 0 ∧ inB s1 (aN (h.1 s2)) = true then Rf d 182 14 [a0, a1] [] (hset h s2 (.inl (0, aN (h.1 s2), .inl (upd (aF (h.1 s2)) s1.toNatClampNeg s0)))) else Rx d 182 13 [a0, a1] [.int s0, .int s1, .ref s2] h := stI c182_13
theorem c182_14 : cd 182 14 = some (14, .iload_n 1, 1, []) := by decide +kernel
theorem x182_14 {d : Nat} {a0 : Value} {x : Int32} {h : AHp} : Rf d 182 14 [a0, .int x] [] h = Rf d 182 15 [a0, .int x] [.int x] h := Rf_go ((stp_of c182_14).trans rfl)
theorem c182_15 : cd 182 15 = some (15, .ireturn, 1, []) := by decide +kernel
theorem x182_15 {d : Nat} {a0 a1 : Value} {s0 : Int32} {h : AHp} : Rf d 182 15 [a0, a1] [.int s0] h = some (some (.int s0), h) := Rf_end (by rw [stp_of c182_15]; simp only [stpI]; rw [if_pos (show retI (mH 182).2.2.1 s0 = true from retI_int)])
-- 183: X12_end
theorem c183_0 : cd 183 0 = some (0, .iconst 0, 1, []) := by decide +kernel
theorem x183_0 {d : Nat} {a0 a1 a2 a3 a4 a5 : Value} {h : AHp} : Rf d 183 0 [a0, a1, a2, a3, a4, a5] [] h = Rf d 183 1 [a0, a1, a2, a3, a4, a5] [.int 0] h := Rf_go ((stp_of c183_0).trans rfl)
theorem c183_1 : cd 183 1 = some (1, .istore_n 3, 1, []) := by decide +kernel
theorem x183_1 {d : Nat} {a0 a1 a2 a3 a4 a5 : Value} {s0 : Int32} {h : AHp} : Rf d 183 1 [a0, a1, a2, a3, a4, a5] [.int s0] h = Rf d 183 2 [a0, a1, a2, .int s0, a4, a5] [] h := Rf_go ((stp_of c183_1).trans rfl)
theorem c183_2 : cd 183 2 = some (2, .sipush 999, 3, []) := by decide +kernel
theorem x183_2 {d : Nat} {a0 a1 a2 a3 a4 a5 : Value} {h : AHp} : Rf d 183 2 [a0, a1, a2, a3, a4, a5] [] h = Rf d 183 5 [a0, a1, a2, a3, a4, a5] [.int 999] h := Rf_go ((stp_of c183_2).trans rfl)
theorem c183_5 : cd 183 5 = some (5, .istore 4, 2, []) := by decide +kernel
theorem x183_5 {d : Nat} {a0 a1 a2 a3 a4 a5 : Value} {s0 : Int32} {h : AHp} : Rf d 183 5 [a0, a1, a2, a3, a4, a5] [.int s0] h = Rf d 183 7 [a0, a1, a2, a3, .int s0, a5] [] h := Rf_go ((stp_of c183_5).trans rfl)
theorem c183_7 : cd 183 7 = some (7, .iconst 0, 1, []) := by decide +kernel
theorem x183_7 {d : Nat} {a0 a1 a2 a3 a4 a5 : Value} {h : AHp} : Rf d 183 7 [a0, a1, a2, a3, a4, a5] [] h = Rf d 183 8 [a0, a1, a2, a3, a4, a5] [.int 0] h := Rf_go ((stp_of c183_7).trans rfl)
theorem c183_8 : cd 183 8 = some (8, .istore 5, 2, []) := by decide +kernel
theorem x183_8 {d : Nat} {a0 a1 a2 a3 a4 a5 : Value} {s0 : Int32} {h : AHp} : Rf d 183 8 [a0, a1, a2, a3, a4, a5] [.int s0] h = Rf d 183 10 [a0, a1, a2, a3, a4, .int s0] [] h := Rf_go ((stp_of c183_8).trans rfl)
theorem c183_10 : cd 183 10 = some (10, .iload 5, 2, []) := by decide +kernel
theorem x183_10 {d : Nat} {a0 a1 a2 a3 a4 : Value} {x : Int32} {h : AHp} : Rf d 183 10 [a0, a1, a2, a3, a4, .int x] [] h = Rf d 183 12 [a0, a1, a2, a3, a4, .int x] [.int x] h := Rf_go ((stp_of c183_10).trans rfl)
theorem c183_12 : cd 183 12 = some (12, .aload_n 0, 1, []) := by decide +kernel
theorem x183_12 {d : Nat} {a1 a2 a3 a4 a5 : Value} {s0 : Int32} {x : Nat} {h : AHp} : Rf d 183 12 [.ref x, a1, a2, a3, a4, a5] [.int s0] h = Rf d 183 13 [.ref x, a1, a2, a3, a4, a5] [.ref x, .int s0] h := Rf_go ((stp_of c183_12).trans rfl)
theorem c183_13 : cd 183 13 = some (13, .getfield 9, 3, [(12, 0)]) := by decide +kernel
theorem x183_13 {d : Nat} {a0 a1 a2 a3 a4 a5 : Value} {s0 : Nat} {s1 : Int32} {h : AHp} : Rf d 183 13 [a0, a1, a2, a3, a4, a5] [.ref s0, .int s1] h = if cls (h.1 s0) = 12 ∧ oKr (h.1 s0) 0 = true then Rf d 183 16 [a0, a1, a2, a3, a4, a5] [.ref (oR (h.1 s0) 0), .int s1] h else Rx d 183 13 [a0, a1, a2, a3, a4, a5] [.ref s0, .int s1] h := getR c183_13
theorem c183_16 : cd 183 16 = some (16, .iconst 2, 1, []) := by decide +kernel
theorem x183_16 {d : Nat} {a0 a1 a2 a3 a4 a5 : Value} {s0 : Nat} {s1 : Int32} {h : AHp} : Rf d 183 16 [a0, a1, a2, a3, a4, a5] [.ref s0, .int s1] h = Rf d 183 17 [a0, a1, a2, a3, a4, a5] [.int 2, .ref s0, .int s1] h := Rf_go ((stp_of c183_16).trans rfl)
theorem c183_17 : cd 183 17 = some (17, .iaload, 1, []) := by decide +kernel
theorem x183_17 {d : Nat} {a0 a1 a2 a3 a4 a5 : Value} {s0 : Int32} {s1 : Nat} {s2 : Int32} {h : AHp} : Rf d 183 17 [a0, a1, a2, a3, a4, a5] [.int s0, .ref s1, .int s2] h = if (aT (h.1 s1) = 0 ∨ aT (h.1 s1) = 10) ∧ inB s0 (aN (h.1 s1)) = true then Rf d 183 18 [a0, a1, a2, a3, a4, a5] [.int (aF (h.1 s1) s0.toNatClampNeg), .int s2] h else Rx d 183 17 [a0, a1, a2, a3, a4, a5] [.int s0, .ref s1, .int s2] h := ldI c183_17
theorem c183_18 : cd 183 18 = some (18, .if_icmp .ge 58, 3, [(76, 0)]) := by decide +kernel
theorem x183_18 {d : Nat} {a0 a1 a2 a3 a4 a5 : Value} {s0 : Int32} {s1 : Int32} {h : AHp} : Rf d 183 18 [a0, a1, a2, a3, a4, a5] [.int s0, .int s1] h = if s1 < s0 then Rf d 183 21 [a0, a1, a2, a3, a4, a5] [] h else Rf d 183 76 [a0, a1, a2, a3, a4, a5] [] h := Rf_brn ((stp_of c183_18).trans rfl)
theorem c183_76 : cd 183 76 = some (76, .iload_n 3, 1, []) := by decide +kernel
theorem x183_76 {d : Nat} {a0 a1 a2 a4 a5 : Value} {x : Int32} {h : AHp} : Rf d 183 76 [a0, a1, a2, .int x, a4, a5] [] h = Rf d 183 77 [a0, a1, a2, .int x, a4, a5] [.int x] h := Rf_go ((stp_of c183_76).trans rfl)
theorem c183_77 : cd 183 77 = some (77, .iload 4, 2, []) := by decide +kernel
theorem x183_77 {d : Nat} {a0 a1 a2 a3 a5 : Value} {s0 : Int32} {x : Int32} {h : AHp} : Rf d 183 77 [a0, a1, a2, a3, .int x, a5] [.int s0] h = Rf d 183 79 [a0, a1, a2, a3, .int x, a5] [.int x, .int s0] h := Rf_go ((stp_of c183_77).trans rfl)
theorem c183_79 : cd 183 79 = some (79, .if_icmp .le 8, 3, [(87, 0)]) := by decide +kernel
theorem x183_79 {d : Nat} {a0 a1 a2 a3 a4 a5 : Value} {s0 : Int32} {s1 : Int32} {h : AHp} : Rf d 183 79 [a0, a1, a2, a3, a4, a5] [.int s0, .int s1] h = if s0 < s1 then Rf d 183 82 [a0, a1, a2, a3, a4, a5] [] h else Rf d 183 87 [a0, a1, a2, a3, a4, a5] [] h := Rf_brn ((stp_of c183_79).trans rfl)
theorem c183_87 : cd 183 87 = some (87, .iload_n 2, 1, []) := by decide +kernel
theorem x183_87 {d : Nat} {a0 a1 a3 a4 a5 : Value} {x : Int32} {h : AHp} : Rf d 183 87 [a0, a1, .int x, a3, a4, a5] [] h = Rf d 183 88 [a0, a1, .int x, a3, a4, a5] [.int x] h := Rf_go ((stp_of c183_87).trans rfl)
theorem c183_88 : cd 183 88 = some (88, .ifCond .ne 7, 3, [(95, 0)]) := by decide +kernel
theorem x183_88 {d : Nat} {a0 a1 a2 a3 a4 a5 : Value} {s0 : Int32} {h : AHp} : Rf d 183 88 [a0, a1, a2, a3, a4, a5] [.int s0] h = if s0 = 0 then Rf d 183 91 [a0, a1, a2, a3, a4, a5] [] h else Rf d 183 95 [a0, a1, a2, a3, a4, a5] [] h := Rf_brn ((stp_of c183_88).trans rfl)
theorem c183_95 : cd 183 95 = some (95, .iload 4, 2, []) := by decide +kernel
theorem x183_95 {d : Nat} {a0 a1 a2 a3 a5 : Value} {x : Int32} {h : AHp} : Rf d 183 95 [a0, a1, a2, a3, .int x, a5] [] h = Rf d 183 97 [a0, a1, a2, a3, .int x, a5] [.int x] h := Rf_go ((stp_of c183_95).trans rfl)
theorem c183_97 : cd 183 97 = some (97, .ireturn, 1, []) := by decide +kernel
theorem x183_97 {d : Nat} {a0 a1 a2 a3 a4 a5 : Value} {s0 : Int32} {h : AHp} : Rf d 183 97 [a0, a1, a2, a3, a4, a5] [.int s0] h = some (some (.int s0), h) := Rf_end (by rw [stp_of c183_97]; simp only [stpI]; rw [if_pos (show retI (mH 183).2.2.1 s0 = true from retI_int)])
theorem c183_91 : cd 183 91 = some (91, .iload_n 3, 1, []) := by decide +kernel
theorem x183_91 {d : Nat} {a0 a1 a2 a4 a5 : Value} {x : Int32} {h : AHp} : Rf d 183 91 [a0, a1, a2, .int x, a4, a5] [] h = Rf d 183 92 [a0, a1, a2, .int x, a4, a5] [.int x] h := Rf_go ((stp_of c183_91).trans rfl)
theorem c183_92 : cd 183 92 = some (92, .goto 5, 3, [(97, 0)]) := by decide +kernel
theorem x183_92 {d : Nat} {a0 a1 a2 a3 a4 a5 : Value} {s0 : Int32} {h : AHp} : Rf d 183 92 [a0, a1, a2, a3, a4, a5] [.int s0] h = Rf d 183 97 [a0, a1, a2, a3, a4, a5] [.int s0] h := Rf_go ((stp_of c183_92).trans rfl)
theorem c183_82 : cd 183 82 = some (82, .bipush (-5), 2, []) := by decide +kernel
theorem x183_82 {d : Nat} {a0 a1 a2 a3 a4 a5 : Value} {h : AHp} : Rf d 183 82 [a0, a1, a2, a3, a4, a5] [] h = Rf d 183 84 [a0, a1, a2, a3, a4, a5] [.int (-5)] h := Rf_go ((stp_of c183_82).trans rfl)
theorem c183_84 : cd 183 84 = some (84, .goto 13, 3, [(97, 0)]) := by decide +kernel
theorem x183_84 {d : Nat} {a0 a1 a2 a3 a4 a5 : Value} {s0 : Int32} {h : AHp} : Rf d 183 84 [a0, a1, a2, a3, a4, a5] [.int s0] h = Rf d 183 97 [a0, a1, a2, a3, a4, a5] [.int s0] h := Rf_go ((stp_of c183_84).trans rfl)
theorem c183_21 : cd 183 21 = some (21, .aload_n 0, 1, []) := by decide +kernel
theorem x183_21 {d : Nat} {a1 a2 a3 a4 a5 : Value} {x : Nat} {h : AHp} : Rf d 183 21 [.ref x, a1, a2, a3, a4, a5] [] h = Rf d 183 22 [.ref x, a1, a2, a3, a4, a5] [.ref x] h := Rf_go ((stp_of c183_21).trans rfl)
theorem c183_22 : cd 183 22 = some (22, .getfield 9, 3, [(12, 0)]) := by decide +kernel
theorem x183_22 {d : Nat} {a0 a1 a2 a3 a4 a5 : Value} {s0 : Nat} {h : AHp} : Rf d 183 22 [a0, a1, a2, a3, a4, a5] [.ref s0] h = if cls (h.1 s0) = 12 ∧ oKr (h.1 s0) 0 = true then Rf d 183 25 [a0, a1, a2, a3, a4, a5] [.ref (oR (h.1 s0) 0)] h else Rx d 183 22 [a0, a1, a2, a3, a4, a5] [.ref s0] h := getR c183_22
theorem c183_25 : cd 183 25 = some (25, .bipush 80, 2, []) := by decide +kernel
theorem x183_25 {d : Nat} {a0 a1 a2 a3 a4 a5 : Value} {s0 : Nat} {h : AHp} : Rf d 183 25 [a0, a1, a2, a3, a4, a5] [.ref s0] h = Rf d 183 27 [a0, a1, a2, a3, a4, a5] [.int 80, .ref s0] h := Rf_go ((stp_of c183_25).trans rfl)
theorem c183_27 : cd 183 27 = some (27, .iload 5, 2, []) := by decide +kernel
theorem x183_27 {d : Nat} {a0 a1 a2 a3 a4 : Value} {s0 : Int32} {s1 : Nat} {x : Int32} {h : AHp} : Rf d 183 27 [a0, a1, a2, a3, a4, .int x] [.int s0, .ref s1] h = Rf d 183 29 [a0, a1, a2, a3, a4, .int x] [.int x, .int s0, .ref s1] h := Rf_go ((stp_of c183_27).trans rfl)
theorem c183_29 : cd 183 29 = some (29, .iadd, 1, []) := by decide +kernel
theorem x183_29 {d : Nat} {a0 a1 a2 a3 a4 a5 : Value} {s0 : Int32} {s1 : Int32} {s2 : Nat} {h : AHp} : Rf d 183 29 [a0, a1, a2, a3, a4, a5] [.int s0, .int s1, .ref s2] h = Rf d 183 30 [a0, a1, a2, a3, a4, a5] [.int (s1 + s0), .ref s2] h := Rf_go ((stp_of c183_29).trans rfl)
theorem c183_30 : cd 183 30 = some (30, .iaload, 1, []) := by decide +kernel
theorem x183_30 {d : Nat} {a0 a1 a2 a3 a4 a5 : Value} {s0 : Int32} {s1 : Nat} {h : AHp} : Rf d 183 30 [a0, a1, a2, a3, a4, a5] [.int s0, .ref s1] h = if (aT (h.1 s1) = 0 ∨ aT (h.1 s1) = 10) ∧ inB s0 (aN (h.1 s1)) = true then Rf d 183 31 [a0, a1, a2, a3, a4, a5] [.int (aF (h.1 s1) s0.toNatClampNeg)] h else Rx d 183 30 [a0, a1, a2, a3, a4, a5] [.int s0, .ref s1] h := ldI c183_30
theorem c183_31 : cd 183 31 = some (31, .iload_n 1, 1, []) := by decide +kernel
theorem x183_31 {d : Nat} {a0 a2 a3 a4 a5 : Value} {s0 : Int32} {x : Int32} {h : AHp} : Rf d 183 31 [a0, .int x, a2, a3, a4, a5] [.int s0] h = Rf d 183 32 [a0, .int x, a2, a3, a4, a5] [.int x, .int s0] h := Rf_go ((stp_of c183_31).trans rfl)
theorem c183_32 : cd 183 32 = some (32, .if_icmp .eq 6, 3, [(38, 0)]) := by decide +kernel
theorem x183_32 {d : Nat} {a0 a1 a2 a3 a4 a5 : Value} {s0 : Int32} {s1 : Int32} {h : AHp} : Rf d 183 32 [a0, a1, a2, a3, a4, a5] [.int s0, .int s1] h = if s1 = s0 then Rf d 183 38 [a0, a1, a2, a3, a4, a5] [] h else Rf d 183 35 [a0, a1, a2, a3, a4, a5] [] h := Rf_brd ((stp_of c183_32).trans rfl)
theorem c183_38 : cd 183 38 = some (38, .iload_n 3, 1, []) := by decide +kernel
theorem x183_38 {d : Nat} {a0 a1 a2 a4 a5 : Value} {x : Int32} {h : AHp} : Rf d 183 38 [a0, a1, a2, .int x, a4, a5] [] h = Rf d 183 39 [a0, a1, a2, .int x, a4, a5] [.int x] h := Rf_go ((stp_of c183_38).trans rfl)
theorem c183_39 : cd 183 39 = some (39, .aload_n 0, 1, []) := by decide +kernel
theorem x183_39 {d : Nat} {a1 a2 a3 a4 a5 : Value} {s0 : Int32} {x : Nat} {h : AHp} : Rf d 183 39 [.ref x, a1, a2, a3, a4, a5] [.int s0] h = Rf d 183 40 [.ref x, a1, a2, a3, a4, a5] [.ref x, .int s0] h := Rf_go ((stp_of c183_39).trans rfl)
theorem c183_40 : cd 183 40 = some (40, .getfield 9, 3, [(12, 0)]) := by decide +kernel
theorem x183_40 {d : Nat} {a0 a1 a2 a3 a4 a5 : Value} {s0 : Nat} {s1 : Int32} {h : AHp} : Rf d 183 40 [a0, a1, a2, a3, a4, a5] [.ref s0, .int s1] h = if cls (h.1 s0) = 12 ∧ oKr (h.1 s0) 0 = true then Rf d 183 43 [a0, a1, a2, a3, a4, a5] [.ref (oR (h.1 s0) 0), .int s1] h else Rx d 183 40 [a0, a1, a2, a3, a4, a5] [.ref s0, .int s1] h := getR c183_40
theorem c183_43 : cd 183 43 = some (43, .bipush 92, 2, []) := by decide +kernel
theorem x183_43 {d : Nat} {a0 a1 a2 a3 a4 a5 : Value} {s0 : Nat} {s1 : Int32} {h : AHp} : Rf d 183 43 [a0, a1, a2, a3, a4, a5] [.ref s0, .int s1] h = Rf d 183 45 [a0, a1, a2, a3, a4, a5] [.int 92, .ref s0, .int s1] h := Rf_go ((stp_of c183_43).trans rfl)
theorem c183_45 : cd 183 45 = some (45, .iload 5, 2, []) := by decide +kernel
theorem x183_45 {d : Nat} {a0 a1 a2 a3 a4 : Value} {s0 : Int32} {s1 : Nat} {s2 : Int32} {x : Int32} {h : AHp} : Rf d 183 45 [a0, a1, a2, a3, a4, .int x] [.int s0, .ref s1, .int s2] h = Rf d 183 47 [a0, a1, a2, a3, a4, .int x] [.int x, .int s0, .ref s1, .int s2] h := Rf_go ((stp_of c183_45).trans rfl)
theorem c183_47 : cd 183 47 = some (47, .iadd, 1, []) := by decide +kernel
theorem x183_47 {d : Nat} {a0 a1 a2 a3 a4 a5 : Value} {s0 : Int32} {s1 : Int32} {s2 : Nat} {s3 : Int32} {h : AHp} : Rf d 183 47 [a0, a1, a2, a3, a4, a5] [.int s0, .int s1, .ref s2, .int s3] h = Rf d 183 48 [a0, a1, a2, a3, a4, a5] [.int (s1 + s0), .ref s2, .int s3] h := Rf_go ((stp_of c183_47).trans rfl)
theorem c183_48 : cd 183 48 = some (48, .iaload, 1, []) := by decide +kernel
theorem x183_48 {d : Nat} {a0 a1 a2 a3 a4 a5 : Value} {s0 : Int32} {s1 : Nat} {s2 : Int32} {h : AHp} : Rf d 183 48 [a0, a1, a2, a3, a4, a5] [.int s0, .ref s1, .int s2] h = if (aT (h.1 s1) = 0 ∨ aT (h.1 s1) = 10) ∧ inB s0 (aN (h.1 s1)) = true then Rf d 183 49 [a0, a1, a2, a3, a4, a5] [.int (aF (h.1 s1) s0.toNatClampNeg), .int s2] h else Rx d 183 48 [a0, a1, a2, a3, a4, a5] [.int s0, .ref s1, .int s2] h := ldI c183_48
theorem c183_49 : cd 183 49 = some (49, .invokestatic 118, 3, [(0, 201)]) := by decide +kernel
theorem xc183_49 {d : Nat} {a0 a1 a2 a3 a4 a5 : Value} {s0 : Int32} {s1 : Int32} {h : AHp} {h1 : AHp} {v : Int32} (hq : Rf d 201 0 [.int s1, .int s0] [] h = some (some (.int v), h1)) : Rf (d + 1) 183 49 [a0, a1, a2, a3, a4, a5] [.int s0, .int s1] h = Rf (d + 1) 183 52 [a0, a1, a2, a3, a4, a5] [.int v] h1 := clS (as := [.int s1, .int s0]) c183_49 rfl rfl (by simp [isV]) hq
theorem c183_52 : cd 183 52 = some (52, .istore_n 3, 1, []) := by decide +kernel
theorem x183_52 {d : Nat} {a0 a1 a2 a3 a4 a5 : Value} {s0 : Int32} {h : AHp} : Rf d 183 52 [a0, a1, a2, a3, a4, a5] [.int s0] h = Rf d 183 53 [a0, a1, a2, .int s0, a4, a5] [] h := Rf_go ((stp_of c183_52).trans rfl)
theorem c183_53 : cd 183 53 = some (53, .iload 4, 2, []) := by decide +kernel
theorem x183_53 {d : Nat} {a0 a1 a2 a3 a5 : Value} {x : Int32} {h : AHp} : Rf d 183 53 [a0, a1, a2, a3, .int x, a5] [] h = Rf d 183 55 [a0, a1, a2, a3, .int x, a5] [.int x] h := Rf_go ((stp_of c183_53).trans rfl)
theorem c183_55 : cd 183 55 = some (55, .aload_n 0, 1, []) := by decide +kernel
theorem x183_55 {d : Nat} {a1 a2 a3 a4 a5 : Value} {s0 : Int32} {x : Nat} {h : AHp} : Rf d 183 55 [.ref x, a1, a2, a3, a4, a5] [.int s0] h = Rf d 183 56 [.ref x, a1, a2, a3, a4, a5] [.ref x, .int s0] h := Rf_go ((stp_of c183_55).trans rfl)
theorem c183_56 : cd 183 56 = some (56, .getfield 9, 3, [(12, 0)]) := by decide +kernel
theorem x183_56 {d : Nat} {a0 a1 a2 a3 a4 a5 : Value} {s0 : Nat} {s1 : Int32} {h : AHp} : Rf d 183 56 [a0, a1, a2, a3, a4, a5] [.ref s0, .int s1] h = if cls (h.1 s0) = 12 ∧ oKr (h.1 s0) 0 = true then Rf d 183 59 [a0, a1, a2, a3, a4, a5] [.ref (oR (h.1 s0) 0), .int s1] h else Rx d 183 56 [a0, a1, a2, a3, a4, a5] [.ref s0, .int s1] h := getR c183_56
theorem c183_59 : cd 183 59 = some (59, .bipush 104, 2, []) := by decide +kernel
theorem x183_59 {d : Nat} {a0 a1 a2 a3 a4 a5 : Value} {s0 : Nat} {s1 : Int32} {h : AHp} : Rf d 183 59 [a0, a1, a2, a3, a4, a5] [.ref s0, .int s1] h = Rf d 183 61 [a0, a1, a2, a3, a4, a5] [.int 104, .ref s0, .int s1] h := Rf_go ((stp_of c183_59).trans rfl)
theorem c183_61 : cd 183 61 = some (61, .iload 5, 2, []) := by decide +kernel
theorem x183_61 {d : Nat} {a0 a1 a2 a3 a4 : Value} {s0 : Int32} {s1 : Nat} {s2 : Int32} {x : Int32} {h : AHp} : Rf d 183 61 [a0, a1, a2, a3, a4, .int x] [.int s0, .ref s1, .int s2] h = Rf d 183 63 [a0, a1, a2, a3, a4, .int x] [.int x, .int s0, .ref s1, .int s2] h := Rf_go ((stp_of c183_61).trans rfl)
theorem c183_63 : cd 183 63 = some (63, .iadd, 1, []) := by decide +kernel
theorem x183_63 {d : Nat} {a0 a1 a2 a3 a4 a5 : Value} {s0 : Int32} {s1 : Int32} {s2 : Nat} {s3 : Int32} {h : AHp} : Rf d 183 63 [a0, a1, a2, a3, a4, a5] [.int s0, .int s1, .ref s2, .int s3] h = Rf d 183 64 [a0, a1, a2, a3, a4, a5] [.int (s1 + s0), .ref s2, .int s3] h := Rf_go ((stp_of c183_63).trans rfl)
theorem c183_64 : cd 183 64 = some (64, .iaload, 1, []) := by decide +kernel
theorem x183_64 {d : Nat} {a0 a1 a2 a3 a4 a5 : Value} {s0 : Int32} {s1 : Nat} {s2 : Int32} {h : AHp} : Rf d 183 64 [a0, a1, a2, a3, a4, a5] [.int s0, .ref s1, .int s2] h = if (aT (h.1 s1) = 0 ∨ aT (h.1 s1) = 10) ∧ inB s0 (aN (h.1 s1)) = true then Rf d 183 65 [a0, a1, a2, a3, a4, a5] [.int (aF (h.1 s1) s0.toNatClampNeg), .int s2] h else Rx d 183 64 [a0, a1, a2, a3, a4, a5] [.int s0, .ref s1, .int s2] h := ldI c183_64
theorem c183_65 : cd 183 65 = some (65, .invokestatic 113, 3, [(0, 202)]) := by decide +kernel
theorem xc183_65 {d : Nat} {a0 a1 a2 a3 a4 a5 : Value} {s0 : Int32} {s1 : Int32} {h : AHp} {h1 : AHp} {v : Int32} (hq : Rf d 202 0 [.int s1, .int s0] [] h = some (some (.int v), h1)) : Rf (d + 1) 183 65 [a0, a1, a2, a3, a4, a5] [.int s0, .int s1] h = Rf (d + 1) 183 68 [a0, a1, a2, a3, a4, a5] [.int v] h1 := clS (as := [.int s1, .int s0]) c183_65 rfl rfl (by simp [isV]) hq
theorem c183_68 : cd 183 68 = some (68, .istore 4, 2, []) := by decide +kernel
theorem x183_68 {d : Nat} {a0 a1 a2 a3 a4 a5 : Value} {s0 : Int32} {h : AHp} : Rf d 183 68 [a0, a1, a2, a3, a4, a5] [.int s0] h = Rf d 183 70 [a0, a1, a2, a3, .int s0, a5] [] h := Rf_go ((stp_of c183_68).trans rfl)
theorem c183_70 : cd 183 70 = some (70, .iinc 5 1, 3, []) := by decide +kernel
theorem x183_70 {d : Nat} {a0 a1 a2 a3 a4 : Value} {x : Int32} {h : AHp} : Rf d 183 70 [a0, a1, a2, a3, a4, .int x] [] h = Rf d 183 73 [a0, a1, a2, a3, a4, .int (x + 1)] [] h := Rf_go ((stp_of c183_70).trans rfl)
theorem c183_73 : cd 183 73 = some (73, .goto (-63), 3, [(10, 0)]) := by decide +kernel
theorem x183_73 {d : Nat} {a0 a1 a2 a3 a4 a5 : Value} {h : AHp} : Rf d 183 73 [a0, a1, a2, a3, a4, a5] [] h = Rf d 183 10 [a0, a1, a2, a3, a4, a5] [] h := Rf_go ((stp_of c183_73).trans rfl)
theorem c183_35 : cd 183 35 = some (35, .goto 35, 3, [(70, 0)]) := by decide +kernel
theorem x183_35 {d : Nat} {a0 a1 a2 a3 a4 a5 : Value} {h : AHp} : Rf d 183 35 [a0, a1, a2, a3, a4, a5] [] h = Rf d 183 70 [a0, a1, a2, a3, a4, a5] [] h := Rf_go ((stp_of c183_35).trans rfl)
-- 184: X12_span
theorem c184_0 : cd 184 0 = some (0, .aload_n 0, 1, []) := by decide +kernel
theorem x184_0 {d : Nat} {a1 a2 : Value} {x : Nat} {h : AHp} : Rf d 184 0 [.ref x, a1, a2] [] h = Rf d 184 1 [.ref x, a1, a2] [.ref x] h := Rf_go ((stp_of c184_0).trans rfl)
theorem c184_1 : cd 184 1 = some (1, .iload_n 1, 1, []) := by decide +kernel
theorem x184_1 {d : Nat} {a0 a2 : Value} {s0 : Nat} {x : Int32} {h : AHp} : Rf d 184 1 [a0, .int x, a2] [.ref s0] h = Rf d 184 2 [a0, .int x, a2] [.int x, .ref s0] h := Rf_go ((stp_of c184_1).trans rfl)
theorem c184_2 : cd 184 2 = some (2, .invokevirtual 140, 3, [(12, 132)]) := by decide +kernel
theorem xc184_2 {d : Nat} {a0 a1 a2 : Value} {s0 : Int32} {s1 : Nat} {h : AHp} {h1 : AHp} {v : Int32} (hr : cls (h.1 s1) = 12) (hq : Rf d 132 0 [.ref s1, .int s0] [] h = some (some (.int v), h1)) : Rf (d + 1) 184 2 [a0, a1, a2] [.int s0, .ref s1] h = Rf (d + 1) 184 5 [a0, a1, a2] [.int v] h1 := clV (c := 132) (as := [.int s0]) c184_2 rfl (by simp [isV]) (by rw [hr]; rfl) hq
theorem c184_5 : cd 184 5 = some (5, .ifCond .eq 12, 3, [(17, 0)]) := by decide +kernel
theorem x184_5 {d : Nat} {a0 a1 a2 : Value} {s0 : Int32} {h : AHp} : Rf d 184 5 [a0, a1, a2] [.int s0] h = if s0 = 0 then Rf d 184 17 [a0, a1, a2] [] h else Rf d 184 8 [a0, a1, a2] [] h := Rf_brd ((stp_of c184_5).trans rfl)
theorem c184_17 : cd 184 17 = some (17, .iconst (-1), 1, []) := by decide +kernel
theorem x184_17 {d : Nat} {a0 a1 a2 : Value} {h : AHp} : Rf d 184 17 [a0, a1, a2] [] h = Rf d 184 18 [a0, a1, a2] [.int (-1)] h := Rf_go ((stp_of c184_17).trans rfl)
theorem c184_18 : cd 184 18 = some (18, .goto 9, 3, [(27, 0)]) := by decide +kernel
theorem x184_18 {d : Nat} {a0 a1 a2 : Value} {s0 : Int32} {h : AHp} : Rf d 184 18 [a0, a1, a2] [.int s0] h = Rf d 184 27 [a0, a1, a2] [.int s0] h := Rf_go ((stp_of c184_18).trans rfl)
theorem c184_27 : cd 184 27 = some (27, .ireturn, 1, []) := by decide +kernel
theorem x184_27 {d : Nat} {a0 a1 a2 : Value} {s0 : Int32} {h : AHp} : Rf d 184 27 [a0, a1, a2] [.int s0] h = some (some (.int s0), h) := Rf_end (by rw [stp_of c184_27]; simp only [stpI]; rw [if_pos (show retI (mH 184).2.2.1 s0 = true from retI_int)])
theorem c184_8 : cd 184 8 = some (8, .iload_n 2, 1, []) := by decide +kernel
theorem x184_8 {d : Nat} {a0 a1 : Value} {x : Int32} {h : AHp} : Rf d 184 8 [a0, a1, .int x] [] h = Rf d 184 9 [a0, a1, .int x] [.int x] h := Rf_go ((stp_of c184_8).trans rfl)
theorem c184_9 : cd 184 9 = some (9, .iconst 0, 1, []) := by decide +kernel
theorem x184_9 {d : Nat} {a0 a1 a2 : Value} {s0 : Int32} {h : AHp} : Rf d 184 9 [a0, a1, a2] [.int s0] h = Rf d 184 10 [a0, a1, a2] [.int 0, .int s0] h := Rf_go ((stp_of c184_9).trans rfl)
theorem c184_10 : cd 184 10 = some (10, .iconst 1, 1, []) := by decide +kernel
theorem x184_10 {d : Nat} {a0 a1 a2 : Value} {s0 : Int32} {s1 : Int32} {h : AHp} : Rf d 184 10 [a0, a1, a2] [.int s0, .int s1] h = Rf d 184 11 [a0, a1, a2] [.int 1, .int s0, .int s1] h := Rf_go ((stp_of c184_10).trans rfl)
theorem c184_11 : cd 184 11 = some (11, .invokestatic 31, 3, [(0, 131)]) := by decide +kernel
theorem xc184_11 {d : Nat} {a0 a1 a2 : Value} {s0 : Int32} {s1 : Int32} {s2 : Int32} {h : AHp} {h1 : AHp} {v : Int32} (hq : Rf d 131 0 [.int s2, .int s1, .int s0] [] h = some (some (.int v), h1)) : Rf (d + 1) 184 11 [a0, a1, a2] [.int s0, .int s1, .int s2] h = Rf (d + 1) 184 14 [a0, a1, a2] [.int v] h1 := clS (as := [.int s2, .int s1, .int s0]) c184_11 rfl rfl (by simp [isV]) hq
theorem c184_14 : cd 184 14 = some (14, .ifCond .ne 7, 3, [(21, 0)]) := by decide +kernel
theorem x184_14 {d : Nat} {a0 a1 a2 : Value} {s0 : Int32} {h : AHp} : Rf d 184 14 [a0, a1, a2] [.int s0] h = if s0 = 0 then Rf d 184 17 [a0, a1, a2] [] h else Rf d 184 21 [a0, a1, a2] [] h := Rf_brn ((stp_of c184_14).trans rfl)
theorem c184_21 : cd 184 21 = some (21, .aload_n 0, 1, []) := by decide +kernel
theorem x184_21 {d : Nat} {a1 a2 : Value} {x : Nat} {h : AHp} : Rf d 184 21 [.ref x, a1, a2] [] h = Rf d 184 22 [.ref x, a1, a2] [.ref x] h := Rf_go ((stp_of c184_21).trans rfl)
theorem c184_22 : cd 184 22 = some (22, .iload_n 1, 1, []) := by decide +kernel
theorem x184_22 {d : Nat} {a0 a2 : Value} {s0 : Nat} {x : Int32} {h : AHp} : Rf d 184 22 [a0, .int x, a2] [.ref s0] h = Rf d 184 23 [a0, .int x, a2] [.int x, .ref s0] h := Rf_go ((stp_of c184_22).trans rfl)
theorem c184_23 : cd 184 23 = some (23, .iload_n 2, 1, []) := by decide +kernel
theorem x184_23 {d : Nat} {a0 a1 : Value} {s0 : Int32} {s1 : Nat} {x : Int32} {h : AHp} : Rf d 184 23 [a0, a1, .int x] [.int s0, .ref s1] h = Rf d 184 24 [a0, a1, .int x] [.int x, .int s0, .ref s1] h := Rf_go ((stp_of c184_23).trans rfl)
theorem c184_24 : cd 184 24 = some (24, .invokevirtual 180, 3, [(12, 183)]) := by decide +kernel
theorem xc184_24 {d : Nat} {a0 a1 a2 : Value} {s0 : Int32} {s1 : Int32} {s2 : Nat} {h : AHp} {h1 : AHp} {v : Int32} (hr : cls (h.1 s2) = 12) (hq : Rf d 183 0 [.ref s2, .int s1, .int s0, noV, noV, noV] [] h = some (some (.int v), h1)) : Rf (d + 1) 184 24 [a0, a1, a2] [.int s0, .int s1, .ref s2] h = Rf (d + 1) 184 27 [a0, a1, a2] [.int v] h1 := clV (c := 183) (as := [.int s1, .int s0]) c184_24 rfl (by simp [isV]) (by rw [hr]; rfl) hq
-- 185: X12_can
theorem c185_0 : cd 185 0 = some (0, .iload_n 1, 1, []) := by decide +kernel
theorem x185_0 {d : Nat} {a0 a2 a3 a4 : Value} {x : Int32} {h : AHp} : Rf d 185 0 [a0, .int x, a2, a3, a4] [] h = Rf d 185 1 [a0, .int x, a2, a3, a4] [.int x] h := Rf_go ((stp_of c185_0).trans rfl)
theorem c185_1 : cd 185 1 = some (1, .iconst 0, 1, []) := by decide +kernel
theorem x185_1 {d : Nat} {a0 a1 a2 a3 a4 : Value} {s0 : Int32} {h : AHp} : Rf d 185 1 [a0, a1, a2, a3, a4] [.int s0] h = Rf d 185 2 [a0, a1, a2, a3, a4] [.int 0, .int s0] h := Rf_go ((stp_of c185_1).trans rfl)
theorem c185_2 : cd 185 2 = some (2, .iconst 1, 1, []) := by decide +kernel
theorem x185_2 {d : Nat} {a0 a1 a2 a3 a4 : Value} {s0 : Int32} {s1 : Int32} {h : AHp} : Rf d 185 2 [a0, a1, a2, a3, a4] [.int s0, .int s1] h = Rf d 185 3 [a0, a1, a2, a3, a4] [.int 1, .int s0, .int s1] h := Rf_go ((stp_of c185_2).trans rfl)
theorem c185_3 : cd 185 3 = some (3, .invokestatic 31, 3, [(0, 131)]) := by decide +kernel
theorem xc185_3 {d : Nat} {a0 a1 a2 a3 a4 : Value} {s0 : Int32} {s1 : Int32} {s2 : Int32} {h : AHp} {h1 : AHp} {v : Int32} (hq : Rf d 131 0 [.int s2, .int s1, .int s0] [] h = some (some (.int v), h1)) : Rf (d + 1) 185 3 [a0, a1, a2, a3, a4] [.int s0, .int s1, .int s2] h = Rf (d + 1) 185 6 [a0, a1, a2, a3, a4] [.int v] h1 := clS (as := [.int s2, .int s1, .int s0]) c185_3 rfl rfl (by simp [isV]) hq
theorem c185_6 : cd 185 6 = some (6, .ifCond .ne 5, 3, [(11, 0)]) := by decide +kernel
theorem x185_6 {d : Nat} {a0 a1 a2 a3 a4 : Value} {s0 : Int32} {h : AHp} : Rf d 185 6 [a0, a1, a2, a3, a4] [.int s0] h = if s0 = 0 then Rf d 185 9 [a0, a1, a2, a3, a4] [] h else Rf d 185 11 [a0, a1, a2, a3, a4] [] h := Rf_brn ((stp_of c185_6).trans rfl)
theorem c185_11 : cd 185 11 = some (11, .iconst 0, 1, []) := by decide +kernel
theorem x185_11 {d : Nat} {a0 a1 a2 a3 a4 : Value} {h : AHp} : Rf d 185 11 [a0, a1, a2, a3, a4] [] h = Rf d 185 12 [a0, a1, a2, a3, a4] [.int 0] h := Rf_go ((stp_of c185_11).trans rfl)
theorem c185_12 : cd 185 12 = some (12, .istore_n 2, 1, []) := by decide +kernel
theorem x185_12 {d : Nat} {a0 a1 a2 a3 a4 : Value} {s0 : Int32} {h : AHp} : Rf d 185 12 [a0, a1, a2, a3, a4] [.int s0] h = Rf d 185 13 [a0, a1, .int s0, a3, a4] [] h := Rf_go ((stp_of c185_12).trans rfl)
theorem c185_13 : cd 185 13 = some (13, .iconst 0, 1, []) := by decide +kernel
theorem x185_13 {d : Nat} {a0 a1 a2 a3 a4 : Value} {h : AHp} : Rf d 185 13 [a0, a1, a2, a3, a4] [] h = Rf d 185 14 [a0, a1, a2, a3, a4] [.int 0] h := Rf_go ((stp_of c185_13).trans rfl)
theorem c185_14 : cd 185 14 = some (14, .istore_n 3, 1, []) := by decide +kernel
theorem x185_14 {d : Nat} {a0 a1 a2 a3 a4 : Value} {s0 : Int32} {h : AHp} : Rf d 185 14 [a0, a1, a2, a3, a4] [.int s0] h = Rf d 185 15 [a0, a1, a2, .int s0, a4] [] h := Rf_go ((stp_of c185_14).trans rfl)
theorem c185_15 : cd 185 15 = some (15, .iload_n 3, 1, []) := by decide +kernel
theorem x185_15 {d : Nat} {a0 a1 a2 a4 : Value} {x : Int32} {h : AHp} : Rf d 185 15 [a0, a1, a2, .int x, a4] [] h = Rf d 185 16 [a0, a1, a2, .int x, a4] [.int x] h := Rf_go ((stp_of c185_15).trans rfl)
theorem c185_16 : cd 185 16 = some (16, .aload_n 0, 1, []) := by decide +kernel
theorem x185_16 {d : Nat} {a1 a2 a3 a4 : Value} {s0 : Int32} {x : Nat} {h : AHp} : Rf d 185 16 [.ref x, a1, a2, a3, a4] [.int s0] h = Rf d 185 17 [.ref x, a1, a2, a3, a4] [.ref x, .int s0] h := Rf_go ((stp_of c185_16).trans rfl)
theorem c185_17 : cd 185 17 = some (17, .getfield 9, 3, [(12, 0)]) := by decide +kernel
theorem x185_17 {d : Nat} {a0 a1 a2 a3 a4 : Value} {s0 : Nat} {s1 : Int32} {h : AHp} : Rf d 185 17 [a0, a1, a2, a3, a4] [.ref s0, .int s1] h = if cls (h.1 s0) = 12 ∧ oKr (h.1 s0) 0 = true then Rf d 185 20 [a0, a1, a2, a3, a4] [.ref (oR (h.1 s0) 0), .int s1] h else Rx d 185 17 [a0, a1, a2, a3, a4] [.ref s0, .int s1] h := getR c185_17
theorem c185_20 : cd 185 20 = some (20, .iconst 0, 1, []) := by decide +kernel
theorem x185_20 {d : Nat} {a0 a1 a2 a3 a4 : Value} {s0 : Nat} {s1 : Int32} {h : AHp} : Rf d 185 20 [a0, a1, a2, a3, a4] [.ref s0, .int s1] h = Rf d 185 21 [a0, a1, a2, a3, a4] [.int 0, .ref s0, .int s1] h := Rf_go ((stp_of c185_20).trans rfl)
theorem c185_21 : cd 185 21 = some (21, .iaload, 1, []) := by decide +kernel
theorem x185_21 {d : Nat} {a0 a1 a2 a3 a4 : Value} {s0 : Int32} {s1 : Nat} {s2 : Int32} {h : AHp} : Rf d 185 21 [a0, a1, a2, a3, a4] [.int s0, .ref s1, .int s2] h = if (aT (h.1 s1) = 0 ∨ aT (h.1 s1) = 10) ∧ inB s0 (aN (h.1 s1)) = true then Rf d 185 22 [a0, a1, a2, a3, a4] [.int (aF (h.1 s1) s0.toNatClampNeg), .int s2] h else Rx d 185 21 [a0, a1, a2, a3, a4] [.int s0, .ref s1, .int s2] h := ldI c185_21
theorem c185_22 : cd 185 22 = some (22, .if_icmp .ge 30, 3, [(52, 0)]) := by decide +kernel
theorem x185_22 {d : Nat} {a0 a1 a2 a3 a4 : Value} {s0 : Int32} {s1 : Int32} {h : AHp} : Rf d 185 22 [a0, a1, a2, a3, a4] [.int s0, .int s1] h = if s1 < s0 then Rf d 185 25 [a0, a1, a2, a3, a4] [] h else Rf d 185 52 [a0, a1, a2, a3, a4] [] h := Rf_brn ((stp_of c185_22).trans rfl)
theorem c185_52 : cd 185 52 = some (52, .aload_n 0, 1, []) := by decide +kernel
theorem x185_52 {d : Nat} {a1 a2 a3 a4 : Value} {x : Nat} {h : AHp} : Rf d 185 52 [.ref x, a1, a2, a3, a4] [] h = Rf d 185 53 [.ref x, a1, a2, a3, a4] [.ref x] h := Rf_go ((stp_of c185_52).trans rfl)
theorem c185_53 : cd 185 53 = some (53, .getfield 9, 3, [(12, 0)]) := by decide +kernel
theorem x185_53 {d : Nat} {a0 a1 a2 a3 a4 : Value} {s0 : Nat} {h : AHp} : Rf d 185 53 [a0, a1, a2, a3, a4] [.ref s0] h = if cls (h.1 s0) = 12 ∧ oKr (h.1 s0) 0 = true then Rf d 185 56 [a0, a1, a2, a3, a4] [.ref (oR (h.1 s0) 0)] h else Rx d 185 53 [a0, a1, a2, a3, a4] [.ref s0] h := getR c185_53
theorem c185_56 : cd 185 56 = some (56, .iconst 0, 1, []) := by decide +kernel
theorem x185_56 {d : Nat} {a0 a1 a2 a3 a4 : Value} {s0 : Nat} {h : AHp} : Rf d 185 56 [a0, a1, a2, a3, a4] [.ref s0] h = Rf d 185 57 [a0, a1, a2, a3, a4] [.int 0, .ref s0] h := Rf_go ((stp_of c185_56).trans rfl)
theorem c185_57 : cd 185 57 = some (57, .iaload, 1, []) := by decide +kernel
theorem x185_57 {d : Nat} {a0 a1 a2 a3 a4 : Value} {s0 : Int32} {s1 : Nat} {h : AHp} : Rf d 185 57 [a0, a1, a2, a3, a4] [.int s0, .ref s1] h = if (aT (h.1 s1) = 0 ∨ aT (h.1 s1) = 10) ∧ inB s0 (aN (h.1 s1)) = true then Rf d 185 58 [a0, a1, a2, a3, a4] [.int (aF (h.1 s1) s0.toNatClampNeg)] h else Rx d 185 57 [a0, a1, a2, a3, a4] [.int s0, .ref s1] h := ldI c185_57
theorem c185_58 : cd 185 58 = some (58, .ifCond .ne 7, 3, [(65, 0)]) := by decide +kernel
theorem x185_58 {d : Nat} {a0 a1 a2 a3 a4 : Value} {s0 : Int32} {h : AHp} : Rf d 185 58 [a0, a1, a2, a3, a4] [.int s0] h = if s0 = 0 then Rf d 185 61 [a0, a1, a2, a3, a4] [] h else Rf d 185 65 [a0, a1, a2, a3, a4] [] h := Rf_brn ((stp_of c185_58).trans rfl)
theorem c185_65 : cd 185 65 = some (65, .iload_n 2, 1, []) := by decide +kernel
theorem x185_65 {d : Nat} {a0 a1 a3 a4 : Value} {x : Int32} {h : AHp} : Rf d 185 65 [a0, a1, .int x, a3, a4] [] h = Rf d 185 66 [a0, a1, .int x, a3, a4] [.int x] h := Rf_go ((stp_of c185_65).trans rfl)
theorem c185_66 : cd 185 66 = some (66, .aload_n 0, 1, []) := by decide +kernel
theorem x185_66 {d : Nat} {a1 a2 a3 a4 : Value} {s0 : Int32} {x : Nat} {h : AHp} : Rf d 185 66 [.ref x, a1, a2, a3, a4] [.int s0] h = Rf d 185 67 [.ref x, a1, a2, a3, a4] [.ref x, .int s0] h := Rf_go ((stp_of c185_66).trans rfl)
theorem c185_67 : cd 185 67 = some (67, .getfield 9, 3, [(12, 0)]) := by decide +kernel
theorem x185_67 {d : Nat} {a0 a1 a2 a3 a4 : Value} {s0 : Nat} {s1 : Int32} {h : AHp} : Rf d 185 67 [a0, a1, a2, a3, a4] [.ref s0, .int s1] h = if cls (h.1 s0) = 12 ∧ oKr (h.1 s0) 0 = true then Rf d 185 70 [a0, a1, a2, a3, a4] [.ref (oR (h.1 s0) 0), .int s1] h else Rx d 185 67 [a0, a1, a2, a3, a4] [.ref s0, .int s1] h := getR c185_67
theorem c185_70 : cd 185 70 = some (70, .iconst 0, 1, []) := by decide +kernel
theorem x185_70 {d : Nat} {a0 a1 a2 a3 a4 : Value} {s0 : Nat} {s1 : Int32} {h : AHp} : Rf d 185 70 [a0, a1, a2, a3, a4] [.ref s0, .int s1] h = Rf d 185 71 [a0, a1, a2, a3, a4] [.int 0, .ref s0, .int s1] h := Rf_go ((stp_of c185_70).trans rfl)
theorem c185_71 : cd 185 71 = some (71, .iaload, 1, []) := by decide +kernel
theorem x185_71 {d : Nat} {a0 a1 a2 a3 a4 : Value} {s0 : Int32} {s1 : Nat} {s2 : Int32} {h : AHp} : Rf d 185 71 [a0, a1, a2, a3, a4] [.int s0, .ref s1, .int s2] h = if (aT (h.1 s1) = 0 ∨ aT (h.1 s1) = 10) ∧ inB s0 (aN (h.1 s1)) = true then Rf d 185 72 [a0, a1, a2, a3, a4] [.int (aF (h.1 s1) s0.toNatClampNeg), .int s2] h else Rx d 185 71 [a0, a1, a2, a3, a4] [.int s0, .ref s1, .int s2] h := ldI c185_71
theorem c185_72 : cd 185 72 = some (72, .idiv, 1, []) := by decide +kernel
theorem x185_72 {d : Nat} {a0 a1 a2 a3 a4 : Value} {s0 : Int32} {s1 : Int32} {h : AHp} : Rf d 185 72 [a0, a1, a2, a3, a4] [.int s0, .int s1] h = if ¬ s0 = 0 then Rf d 185 73 [a0, a1, a2, a3, a4] [.int (s1 / s0)] h else Rx d 185 72 [a0, a1, a2, a3, a4] [.int s0, .int s1] h := divE c185_72 (fun _ _ _ => rfl)
theorem c185_73 : cd 185 73 = some (73, .ireturn, 1, []) := by decide +kernel
theorem x185_73 {d : Nat} {a0 a1 a2 a3 a4 : Value} {s0 : Int32} {h : AHp} : Rf d 185 73 [a0, a1, a2, a3, a4] [.int s0] h = some (some (.int s0), h) := Rf_end (by rw [stp_of c185_73]; simp only [stpI]; rw [if_pos (show retI (mH 185).2.2.1 s0 = true from retI_int)])
theorem c185_61 : cd 185 61 = some (61, .iconst 0, 1, []) := by decide +kernel
theorem x185_61 {d : Nat} {a0 a1 a2 a3 a4 : Value} {h : AHp} : Rf d 185 61 [a0, a1, a2, a3, a4] [] h = Rf d 185 62 [a0, a1, a2, a3, a4] [.int 0] h := Rf_go ((stp_of c185_61).trans rfl)
theorem c185_62 : cd 185 62 = some (62, .goto 11, 3, [(73, 0)]) := by decide +kernel
theorem x185_62 {d : Nat} {a0 a1 a2 a3 a4 : Value} {s0 : Int32} {h : AHp} : Rf d 185 62 [a0, a1, a2, a3, a4] [.int s0] h = Rf d 185 73 [a0, a1, a2, a3, a4] [.int s0] h := Rf_go ((stp_of c185_62).trans rfl)
theorem c185_25 : cd 185 25 = some (25, .aload_n 0, 1, []) := by decide +kernel
theorem x185_25 {d : Nat} {a1 a2 a3 a4 : Value} {x : Nat} {h : AHp} : Rf d 185 25 [.ref x, a1, a2, a3, a4] [] h = Rf d 185 26 [.ref x, a1, a2, a3, a4] [.ref x] h := Rf_go ((stp_of c185_25).trans rfl)
theorem c185_26 : cd 185 26 = some (26, .iload_n 3, 1, []) := by decide +kernel
theorem x185_26 {d : Nat} {a0 a1 a2 a4 : Value} {s0 : Nat} {x : Int32} {h : AHp} : Rf d 185 26 [a0, a1, a2, .int x, a4] [.ref s0] h = Rf d 185 27 [a0, a1, a2, .int x, a4] [.int x, .ref s0] h := Rf_go ((stp_of c185_26).trans rfl)
theorem c185_27 : cd 185 27 = some (27, .iload_n 1, 1, []) := by decide +kernel
theorem x185_27 {d : Nat} {a0 a2 a3 a4 : Value} {s0 : Int32} {s1 : Nat} {x : Int32} {h : AHp} : Rf d 185 27 [a0, .int x, a2, a3, a4] [.int s0, .ref s1] h = Rf d 185 28 [a0, .int x, a2, a3, a4] [.int x, .int s0, .ref s1] h := Rf_go ((stp_of c185_27).trans rfl)
theorem c185_28 : cd 185 28 = some (28, .invokevirtual 180, 3, [(12, 183)]) := by decide +kernel
theorem xc185_28 {d : Nat} {a0 a1 a2 a3 a4 : Value} {s0 : Int32} {s1 : Int32} {s2 : Nat} {h : AHp} {h1 : AHp} {v : Int32} (hr : cls (h.1 s2) = 12) (hq : Rf d 183 0 [.ref s2, .int s1, .int s0, noV, noV, noV] [] h = some (some (.int v), h1)) : Rf (d + 1) 185 28 [a0, a1, a2, a3, a4] [.int s0, .int s1, .ref s2] h = Rf (d + 1) 185 31 [a0, a1, a2, a3, a4] [.int v] h1 := clV (c := 183) (as := [.int s1, .int s0]) c185_28 rfl (by simp [isV]) (by rw [hr]; rfl) hq
theorem c185_31 : cd 185 31 = some (31, .istore 4, 2, []) := by decide +kernel
theorem x185_31 {d : Nat} {a0 a1 a2 a3 a4 : Value} {s0 : Int32} {h : AHp} : Rf d 185 31 [a0, a1, a2, a3, a4] [.int s0] h = Rf d 185 33 [a0, a1, a2, a3, .int s0] [] h := Rf_go ((stp_of c185_31).trans rfl)
theorem c185_33 : cd 185 33 = some (33, .iload 4, 2, []) := by decide +kernel
theorem x185_33 {d : Nat} {a0 a1 a2 a3 : Value} {x : Int32} {h : AHp} : Rf d 185 33 [a0, a1, a2, a3, .int x] [] h = Rf d 185 35 [a0, a1, a2, a3, .int x] [.int x] h := Rf_go ((stp_of c185_33).trans rfl)
theorem c185_35 : cd 185 35 = some (35, .ifCond .ge 6, 3, [(41, 0)]) := by decide +kernel
theorem x185_35 {d : Nat} {a0 a1 a2 a3 a4 : Value} {s0 : Int32} {h : AHp} : Rf d 185 35 [a0, a1, a2, a3, a4] [.int s0] h = if s0 < 0 then Rf d 185 38 [a0, a1, a2, a3, a4] [] h else Rf d 185 41 [a0, a1, a2, a3, a4] [] h := Rf_brn ((stp_of c185_35).trans rfl)
theorem c185_41 : cd 185 41 = some (41, .iload_n 2, 1, []) := by decide +kernel
theorem x185_41 {d : Nat} {a0 a1 a3 a4 : Value} {x : Int32} {h : AHp} : Rf d 185 41 [a0, a1, .int x, a3, a4] [] h = Rf d 185 42 [a0, a1, .int x, a3, a4] [.int x] h := Rf_go ((stp_of c185_41).trans rfl)
theorem c185_42 : cd 185 42 = some (42, .iload 4, 2, []) := by decide +kernel
theorem x185_42 {d : Nat} {a0 a1 a2 a3 : Value} {s0 : Int32} {x : Int32} {h : AHp} : Rf d 185 42 [a0, a1, a2, a3, .int x] [.int s0] h = Rf d 185 44 [a0, a1, a2, a3, .int x] [.int x, .int s0] h := Rf_go ((stp_of c185_42).trans rfl)
theorem c185_44 : cd 185 44 = some (44, .iadd, 1, []) := by decide +kernel
theorem x185_44 {d : Nat} {a0 a1 a2 a3 a4 : Value} {s0 : Int32} {s1 : Int32} {h : AHp} : Rf d 185 44 [a0, a1, a2, a3, a4] [.int s0, .int s1] h = Rf d 185 45 [a0, a1, a2, a3, a4] [.int (s1 + s0)] h := Rf_go ((stp_of c185_44).trans rfl)
theorem c185_45 : cd 185 45 = some (45, .istore_n 2, 1, []) := by decide +kernel
theorem x185_45 {d : Nat} {a0 a1 a2 a3 a4 : Value} {s0 : Int32} {h : AHp} : Rf d 185 45 [a0, a1, a2, a3, a4] [.int s0] h = Rf d 185 46 [a0, a1, .int s0, a3, a4] [] h := Rf_go ((stp_of c185_45).trans rfl)
theorem c185_46 : cd 185 46 = some (46, .iinc 3 1, 3, []) := by decide +kernel
theorem x185_46 {d : Nat} {a0 a1 a2 a4 : Value} {x : Int32} {h : AHp} : Rf d 185 46 [a0, a1, a2, .int x, a4] [] h = Rf d 185 49 [a0, a1, a2, .int (x + 1), a4] [] h := Rf_go ((stp_of c185_46).trans rfl)
theorem c185_49 : cd 185 49 = some (49, .goto (-34), 3, [(15, 0)]) := by decide +kernel
theorem x185_49 {d : Nat} {a0 a1 a2 a3 a4 : Value} {h : AHp} : Rf d 185 49 [a0, a1, a2, a3, a4] [] h = Rf d 185 15 [a0, a1, a2, a3, a4] [] h := Rf_go ((stp_of c185_49).trans rfl)
theorem c185_38 : cd 185 38 = some (38, .bipush (-5), 2, []) := by decide +kernel
theorem x185_38 {d : Nat} {a0 a1 a2 a3 a4 : Value} {h : AHp} : Rf d 185 38 [a0, a1, a2, a3, a4] [] h = Rf d 185 40 [a0, a1, a2, a3, a4] [.int (-5)] h := Rf_go ((stp_of c185_38).trans rfl)
theorem c185_40 : cd 185 40 = some (40, .ireturn, 1, []) := by decide +kernel
theorem x185_40 {d : Nat} {a0 a1 a2 a3 a4 : Value} {s0 : Int32} {h : AHp} : Rf d 185 40 [a0, a1, a2, a3, a4] [.int s0] h = some (some (.int s0), h) := Rf_end (by rw [stp_of c185_40]; simp only [stpI]; rw [if_pos (show retI (mH 185).2.2.1 s0 = true from retI_int)])
theorem c185_9 : cd 185 9 = some (9, .iconst (-1), 1, []) := by decide +kernel
theorem x185_9 {d : Nat} {a0 a1 a2 a3 a4 : Value} {h : AHp} : Rf d 185 9 [a0, a1, a2, a3, a4] [] h = Rf d 185 10 [a0, a1, a2, a3, a4] [.int (-1)] h := Rf_go ((stp_of c185_9).trans rfl)
theorem c185_10 : cd 185 10 = some (10, .ireturn, 1, []) := by decide +kernel
theorem x185_10 {d : Nat} {a0 a1 a2 a3 a4 : Value} {s0 : Int32} {h : AHp} : Rf d 185 10 [a0, a1, a2, a3, a4] [.int s0] h = some (some (.int s0), h) := Rf_end (by rw [stp_of c185_10]; simp only [stpI]; rw [if_pos (show retI (mH 185).2.2.1 s0 = true from retI_int)])
-- 186: X12_list
theorem c186_0 : cd 186 0 = some (0, .iload_n 1, 1, []) := by decide +kernel
theorem x186_0 {d : Nat} {a0 : Value} {x : Int32} {h : AHp} : Rf d 186 0 [a0, .int x] [] h = Rf d 186 1 [a0, .int x] [.int x] h := Rf_go ((stp_of c186_0).trans rfl)
theorem c186_1 : cd 186 1 = some (1, .iconst (-1), 1, []) := by decide +kernel
theorem x186_1 {d : Nat} {a0 a1 : Value} {s0 : Int32} {h : AHp} : Rf d 186 1 [a0, a1] [.int s0] h = Rf d 186 2 [a0, a1] [.int (-1), .int s0] h := Rf_go ((stp_of c186_1).trans rfl)
theorem c186_2 : cd 186 2 = some (2, .sipush 999, 3, []) := by decide +kernel
theorem x186_2 {d : Nat} {a0 a1 : Value} {s0 : Int32} {s1 : Int32} {h : AHp} : Rf d 186 2 [a0, a1] [.int s0, .int s1] h = Rf d 186 5 [a0, a1] [.int 999, .int s0, .int s1] h := Rf_go ((stp_of c186_2).trans rfl)
theorem c186_5 : cd 186 5 = some (5, .invokestatic 31, 3, [(0, 131)]) := by decide +kernel
theorem xc186_5 {d : Nat} {a0 a1 : Value} {s0 : Int32} {s1 : Int32} {s2 : Int32} {h : AHp} {h1 : AHp} {v : Int32} (hq : Rf d 131 0 [.int s2, .int s1, .int s0] [] h = some (some (.int v), h1)) : Rf (d + 1) 186 5 [a0, a1] [.int s0, .int s1, .int s2] h = Rf (d + 1) 186 8 [a0, a1] [.int v] h1 := clS (as := [.int s2, .int s1, .int s0]) c186_5 rfl rfl (by simp [isV]) hq
theorem c186_8 : cd 186 8 = some (8, .ifCond .ne 6, 3, [(14, 0)]) := by decide +kernel
theorem x186_8 {d : Nat} {a0 a1 : Value} {s0 : Int32} {h : AHp} : Rf d 186 8 [a0, a1] [.int s0] h = if s0 = 0 then Rf d 186 11 [a0, a1] [] h else Rf d 186 14 [a0, a1] [] h := Rf_brn ((stp_of c186_8).trans rfl)
theorem c186_14 : cd 186 14 = some (14, .iload_n 1, 1, []) := by decide +kernel
theorem x186_14 {d : Nat} {a0 : Value} {x : Int32} {h : AHp} : Rf d 186 14 [a0, .int x] [] h = Rf d 186 15 [a0, .int x] [.int x] h := Rf_go ((stp_of c186_14).trans rfl)
theorem c186_15 : cd 186 15 = some (15, .ifCond .ge 12, 3, [(27, 0)]) := by decide +kernel
theorem x186_15 {d : Nat} {a0 a1 : Value} {s0 : Int32} {h : AHp} : Rf d 186 15 [a0, a1] [.int s0] h = if s0 < 0 then Rf d 186 18 [a0, a1] [] h else Rf d 186 27 [a0, a1] [] h := Rf_brn ((stp_of c186_15).trans rfl)
theorem c186_27 : cd 186 27 = some (27, .aload_n 0, 1, []) := by decide +kernel
theorem x186_27 {d : Nat} {a1 : Value} {x : Nat} {h : AHp} : Rf d 186 27 [.ref x, a1] [] h = Rf d 186 28 [.ref x, a1] [.ref x] h := Rf_go ((stp_of c186_27).trans rfl)
theorem c186_28 : cd 186 28 = some (28, .getfield 9, 3, [(12, 0)]) := by decide +kernel
theorem x186_28 {d : Nat} {a0 a1 : Value} {s0 : Nat} {h : AHp} : Rf d 186 28 [a0, a1] [.ref s0] h = if cls (h.1 s0) = 12 ∧ oKr (h.1 s0) 0 = true then Rf d 186 31 [a0, a1] [.ref (oR (h.1 s0) 0)] h else Rx d 186 28 [a0, a1] [.ref s0] h := getR c186_28
theorem c186_31 : cd 186 31 = some (31, .iconst 3, 1, []) := by decide +kernel
theorem x186_31 {d : Nat} {a0 a1 : Value} {s0 : Nat} {h : AHp} : Rf d 186 31 [a0, a1] [.ref s0] h = Rf d 186 32 [a0, a1] [.int 3, .ref s0] h := Rf_go ((stp_of c186_31).trans rfl)
theorem c186_32 : cd 186 32 = some (32, .iaload, 1, []) := by decide +kernel
theorem x186_32 {d : Nat} {a0 a1 : Value} {s0 : Int32} {s1 : Nat} {h : AHp} : Rf d 186 32 [a0, a1] [.int s0, .ref s1] h = if (aT (h.1 s1) = 0 ∨ aT (h.1 s1) = 10) ∧ inB s0 (aN (h.1 s1)) = true then Rf d 186 33 [a0, a1] [.int (aF (h.1 s1) s0.toNatClampNeg)] h else Rx d 186 32 [a0, a1] [.int s0, .ref s1] h := ldI c186_32
theorem c186_33 : cd 186 33 = some (33, .bipush 10, 2, []) := by decide +kernel
theorem x186_33 {d : Nat} {a0 a1 : Value} {s0 : Int32} {h : AHp} : Rf d 186 33 [a0, a1] [.int s0] h = Rf d 186 35 [a0, a1] [.int 10, .int s0] h := Rf_go ((stp_of c186_33).trans rfl)
theorem c186_35 : cd 186 35 = some (35, .if_icmp .ne 6, 3, [(41, 0)]) := by decide +kernel
theorem x186_35 {d : Nat} {a0 a1 : Value} {s0 : Int32} {s1 : Int32} {h : AHp} : Rf d 186 35 [a0, a1] [.int s0, .int s1] h = if s1 = s0 then Rf d 186 38 [a0, a1] [] h else Rf d 186 41 [a0, a1] [] h := Rf_brn ((stp_of c186_35).trans rfl)
theorem c186_41 : cd 186 41 = some (41, .aload_n 0, 1, []) := by decide +kernel
theorem x186_41 {d : Nat} {a1 : Value} {x : Nat} {h : AHp} : Rf d 186 41 [.ref x, a1] [] h = Rf d 186 42 [.ref x, a1] [.ref x] h := Rf_go ((stp_of c186_41).trans rfl)
theorem c186_42 : cd 186 42 = some (42, .getfield 9, 3, [(12, 0)]) := by decide +kernel
theorem x186_42 {d : Nat} {a0 a1 : Value} {s0 : Nat} {h : AHp} : Rf d 186 42 [a0, a1] [.ref s0] h = if cls (h.1 s0) = 12 ∧ oKr (h.1 s0) 0 = true then Rf d 186 45 [a0, a1] [.ref (oR (h.1 s0) 0)] h else Rx d 186 42 [a0, a1] [.ref s0] h := getR c186_42
theorem c186_45 : cd 186 45 = some (45, .bipush 116, 2, []) := by decide +kernel
theorem x186_45 {d : Nat} {a0 a1 : Value} {s0 : Nat} {h : AHp} : Rf d 186 45 [a0, a1] [.ref s0] h = Rf d 186 47 [a0, a1] [.int 116, .ref s0] h := Rf_go ((stp_of c186_45).trans rfl)
theorem c186_47 : cd 186 47 = some (47, .aload_n 0, 1, []) := by decide +kernel
theorem x186_47 {d : Nat} {a1 : Value} {s0 : Int32} {s1 : Nat} {x : Nat} {h : AHp} : Rf d 186 47 [.ref x, a1] [.int s0, .ref s1] h = Rf d 186 48 [.ref x, a1] [.ref x, .int s0, .ref s1] h := Rf_go ((stp_of c186_47).trans rfl)
theorem c186_48 : cd 186 48 = some (48, .getfield 9, 3, [(12, 0)]) := by decide +kernel
theorem x186_48 {d : Nat} {a0 a1 : Value} {s0 : Nat} {s1 : Int32} {s2 : Nat} {h : AHp} : Rf d 186 48 [a0, a1] [.ref s0, .int s1, .ref s2] h = if cls (h.1 s0) = 12 ∧ oKr (h.1 s0) 0 = true then Rf d 186 51 [a0, a1] [.ref (oR (h.1 s0) 0), .int s1, .ref s2] h else Rx d 186 48 [a0, a1] [.ref s0, .int s1, .ref s2] h := getR c186_48
theorem c186_51 : cd 186 51 = some (51, .iconst 3, 1, []) := by decide +kernel
theorem x186_51 {d : Nat} {a0 a1 : Value} {s0 : Nat} {s1 : Int32} {s2 : Nat} {h : AHp} : Rf d 186 51 [a0, a1] [.ref s0, .int s1, .ref s2] h = Rf d 186 52 [a0, a1] [.int 3, .ref s0, .int s1, .ref s2] h := Rf_go ((stp_of c186_51).trans rfl)
theorem c186_52 : cd 186 52 = some (52, .iaload, 1, []) := by decide +kernel
theorem x186_52 {d : Nat} {a0 a1 : Value} {s0 : Int32} {s1 : Nat} {s2 : Int32} {s3 : Nat} {h : AHp} : Rf d 186 52 [a0, a1] [.int s0, .ref s1, .int s2, .ref s3] h = if (aT (h.1 s1) = 0 ∨ aT (h.1 s1) = 10) ∧ inB s0 (aN (h.1 s1)) = true then Rf d 186 53 [a0, a1] [.int (aF (h.1 s1) s0.toNatClampNeg), .int s2, .ref s3] h else Rx d 186 52 [a0, a1] [.int s0, .ref s1, .int s2, .ref s3] h := ldI c186_52
theorem c186_53 : cd 186 53 = some (53, .iadd, 1, []) := by decide +kernel
theorem x186_53 {d : Nat} {a0 a1 : Value} {s0 : Int32} {s1 : Int32} {s2 : Nat} {h : AHp} : Rf d 186 53 [a0, a1] [.int s0, .int s1, .ref s2] h = Rf d 186 54 [a0, a1] [.int (s1 + s0), .ref s2] h := Rf_go ((stp_of c186_53).trans rfl)
theorem c186_54 : cd 186 54 = some (54, .iload_n 1, 1, []) := by decide +kernel
theorem x186_54 {d : Nat} {a0 : Value} {s0 : Int32} {s1 : Nat} {x : Int32} {h : AHp} : Rf d 186 54 [a0, .int x] [.int s0, .ref s1] h = Rf d 186 55 [a0, .int x] [.int x, .int s0, .ref s1] h := Rf_go ((stp_of c186_54).trans rfl)
theorem c186_55 : cd 186 55 = some (55, .iastore, 1, []) := by decide +kernel
theorem x186_55 {d : Nat} {a0 a1 : Value} {s0 : Int32} {s1 : Int32} {s2 : Nat} {h : AHp} : Rf d 186 55 [a0, a1] [.int s0, .int s1, .ref s2] h = if aT (h.1 s2) = 0 ∧ inB s1 (aN (h.1 s2)) = true then Rf d 186 56 [a0, a1] [] (hset h s2 (.inl (0, aN (h.1 s2), .inl (upd (aF (h.1 s2)) s1.toNatClampNeg s0)))) else Rx d 186 55 [a0, a1] [.int s0, .int s1, .ref s2] h := stI c186_55
theorem c186_56 : cd 186 56 = some (56, .aload_n 0, 1, []) := by decide +kernel
theorem x186_56 {d : Nat} {a1 : Value} {x : Nat} {h : AHp} : Rf d 186 56 [.ref x, a1] [] h = Rf d 186 57 [.ref x, a1] [.ref x] h := Rf_go ((stp_of c186_56).trans rfl)
theorem c186_57 : cd 186 57 = some (57, .getfield 9, 3, [(12, 0)]) := by decide +kernel
theorem x186_57 {d : Nat} {a0 a1 : Value} {s0 : Nat} {h : AHp} : Rf d 186 57 [a0, a1] [.ref s0] h = if cls (h.1 s0) = 12 ∧ oKr (h.1 s0) 0 = true then Rf d 186 60 [a0, a1] [.ref (oR (h.1 s0) 0)] h else Rx d 186 57 [a0, a1] [.ref s0] h := getR c186_57
theorem c186_60 : cd 186 60 = some (60, .iconst 3, 1, []) := by decide +kernel
theorem x186_60 {d : Nat} {a0 a1 : Value} {s0 : Nat} {h : AHp} : Rf d 186 60 [a0, a1] [.ref s0] h = Rf d 186 61 [a0, a1] [.int 3, .ref s0] h := Rf_go ((stp_of c186_60).trans rfl)
theorem c186_61 : cd 186 61 = some (61, .dup2, 1, []) := by decide +kernel
theorem x186_61 {d : Nat} {a0 a1 : Value} {s0 : Int32} {s1 : Nat} {h : AHp} : Rf d 186 61 [a0, a1] [.int s0, .ref s1] h = Rf d 186 62 [a0, a1] [.int s0, .ref s1, .int s0, .ref s1] h := Rf_go ((stp_of c186_61).trans rfl)
theorem c186_62 : cd 186 62 = some (62, .iaload, 1, []) := by decide +kernel
theorem x186_62 {d : Nat} {a0 a1 : Value} {s0 : Int32} {s1 : Nat} {s2 : Int32} {s3 : Nat} {h : AHp} : Rf d 186 62 [a0, a1] [.int s0, .ref s1, .int s2, .ref s3] h = if (aT (h.1 s1) = 0 ∨ aT (h.1 s1) = 10) ∧ inB s0 (aN (h.1 s1)) = true then Rf d 186 63 [a0, a1] [.int (aF (h.1 s1) s0.toNatClampNeg), .int s2, .ref s3] h else Rx d 186 62 [a0, a1] [.int s0, .ref s1, .int s2, .ref s3] h := ldI c186_62
theorem c186_63 : cd 186 63 = some (63, .iconst 1, 1, []) := by decide +kernel
theorem x186_63 {d : Nat} {a0 a1 : Value} {s0 : Int32} {s1 : Int32} {s2 : Nat} {h : AHp} : Rf d 186 63 [a0, a1] [.int s0, .int s1, .ref s2] h = Rf d 186 64 [a0, a1] [.int 1, .int s0, .int s1, .ref s2] h := Rf_go ((stp_of c186_63).trans rfl)
theorem c186_64 : cd 186 64 = some (64, .iadd, 1, []) := by decide +kernel
theorem x186_64 {d : Nat} {a0 a1 : Value} {s0 : Int32} {s1 : Int32} {s2 : Int32} {s3 : Nat} {h : AHp} : Rf d 186 64 [a0, a1] [.int s0, .int s1, .int s2, .ref s3] h = Rf d 186 65 [a0, a1] [.int (s1 + s0), .int s2, .ref s3] h := Rf_go ((stp_of c186_64).trans rfl)
theorem c186_65 : cd 186 65 = some (65, .dup_x2, 1, []) := by decide +kernel
theorem x186_65 {d : Nat} {a0 a1 : Value} {s0 : Int32} {s1 : Int32} {s2 : Nat} {h : AHp} : Rf d 186 65 [a0, a1] [.int s0, .int s1, .ref s2] h = Rf d 186 66 [a0, a1] [.int s0, .int s1, .ref s2, .int s0] h := Rf_go ((stp_of c186_65).trans rfl)
theorem c186_66 : cd 186 66 = some (66, .iastore, 1, []) := by decide +kernel
theorem x186_66 {d : Nat} {a0 a1 : Value} {s0 : Int32} {s1 : Int32} {s2 : Nat} {s3 : Int32} {h : AHp} : Rf d 186 66 [a0, a1] [.int s0, .int s1, .ref s2, .int s3] h = if aT (h.1 s2) = 0 ∧ inB s1 (aN (h.1 s2)) = true then Rf d 186 67 [a0, a1] [.int s3] (hset h s2 (.inl (0, aN (h.1 s2), .inl (upd (aF (h.1 s2)) s1.toNatClampNeg s0)))) else Rx d 186 66 [a0, a1] [.int s0, .int s1, .ref s2, .int s3] h := stI c186_66
theorem c186_67 : cd 186 67 = some (67, .ireturn, 1, []) := by decide +kernel
theorem x186_67 {d : Nat} {a0 a1 : Value} {s0 : Int32} {h : AHp} : Rf d 186 67 [a0, a1] [.int s0] h = some (some (.int s0), h) := Rf_end (by rw [stp_of c186_67]; simp only [stpI]; rw [if_pos (show retI (mH 186).2.2.1 s0 = true from retI_int)])
theorem c186_38 : cd 186 38 = some (38, .bipush (-4), 2, []) := by decide +kernel
theorem x186_38 {d : Nat} {a0 a1 : Value} {h : AHp} : Rf d 186 38 [a0, a1] [] h = Rf d 186 40 [a0, a1] [.int (-4)] h := Rf_go ((stp_of c186_38).trans rfl)
theorem c186_40 : cd 186 40 = some (40, .ireturn, 1, []) := by decide +kernel
theorem x186_40 {d : Nat} {a0 a1 : Value} {s0 : Int32} {h : AHp} : Rf d 186 40 [a0, a1] [.int s0] h = some (some (.int s0), h) := Rf_end (by rw [stp_of c186_40]; simp only [stpI]; rw [if_pos (show retI (mH 186).2.2.1 s0 = true from retI_int)])
theorem c186_18 : cd 186 18 = some (18, .aload_n 0, 1, []) := by decide +kernel
theorem x186_18 {d : Nat} {a1 : Value} {x : Nat} {h : AHp} : Rf d 186 18 [.ref x, a1] [] h = Rf d 186 19 [.ref x, a1] [.ref x] h := Rf_go ((stp_of c186_18).trans rfl)
theorem c186_19 : cd 186 19 = some (19, .getfield 9, 3, [(12, 0)]) := by decide +kernel
theorem x186_19 {d : Nat} {a0 a1 : Value} {s0 : Nat} {h : AHp} : Rf d 186 19 [a0, a1] [.ref s0] h = if cls (h.1 s0) = 12 ∧ oKr (h.1 s0) 0 = true then Rf d 186 22 [a0, a1] [.ref (oR (h.1 s0) 0)] h else Rx d 186 19 [a0, a1] [.ref s0] h := getR c186_19
theorem c186_22 : cd 186 22 = some (22, .iconst 3, 1, []) := by decide +kernel
theorem x186_22 {d : Nat} {a0 a1 : Value} {s0 : Nat} {h : AHp} : Rf d 186 22 [a0, a1] [.ref s0] h = Rf d 186 23 [a0, a1] [.int 3, .ref s0] h := Rf_go ((stp_of c186_22).trans rfl)
theorem c186_23 : cd 186 23 = some (23, .iconst 0, 1, []) := by decide +kernel
theorem x186_23 {d : Nat} {a0 a1 : Value} {s0 : Int32} {s1 : Nat} {h : AHp} : Rf d 186 23 [a0, a1] [.int s0, .ref s1] h = Rf d 186 24 [a0, a1] [.int 0, .int s0, .ref s1] h := Rf_go ((stp_of c186_23).trans rfl)
theorem c186_24 : cd 186 24 = some (24, .iastore, 1, []) := by decide +kernel
theorem x186_24 {d : Nat} {a0 a1 : Value} {s0 : Int32} {s1 : Int32} {s2 : Nat} {h : AHp} : Rf d 186 24 [a0, a1] [.int s0, .int s1, .ref s2] h = if aT (h.1 s2) = 0 ∧ inB s1 (aN (h.1 s2)) = true then Rf d 186 25 [a0, a1] [] (hset h s2 (.inl (0, aN (h.1 s2), .inl (upd (aF (h.1 s2)) s1.toNatClampNeg s0)))) else Rx d 186 24 [a0, a1] [.int s0, .int s1, .ref s2] h := stI c186_24
theorem c186_25 : cd 186 25 = some (25, .iconst 0, 1, []) := by decide +kernel
theorem x186_25 {d : Nat} {a0 a1 : Value} {h : AHp} : Rf d 186 25 [a0, a1] [] h = Rf d 186 26 [a0, a1] [.int 0] h := Rf_go ((stp_of c186_25).trans rfl)
theorem c186_26 : cd 186 26 = some (26, .ireturn, 1, []) := by decide +kernel
theorem x186_26 {d : Nat} {a0 a1 : Value} {s0 : Int32} {h : AHp} : Rf d 186 26 [a0, a1] [.int s0] h = some (some (.int s0), h) := Rf_end (by rw [stp_of c186_26]; simp only [stpI]; rw [if_pos (show retI (mH 186).2.2.1 s0 = true from retI_int)])
theorem c186_11 : cd 186 11 = some (11, .bipush (-2), 2, []) := by decide +kernel
theorem x186_11 {d : Nat} {a0 a1 : Value} {h : AHp} : Rf d 186 11 [a0, a1] [] h = Rf d 186 13 [a0, a1] [.int (-2)] h := Rf_go ((stp_of c186_11).trans rfl)
theorem c186_13 : cd 186 13 = some (13, .ireturn, 1, []) := by decide +kernel
theorem x186_13 {d : Nat} {a0 a1 : Value} {s0 : Int32} {h : AHp} : Rf d 186 13 [a0, a1] [.int s0] h = some (some (.int s0), h) := Rf_end (by rw [stp_of c186_13]; simp only [stpI]; rw [if_pos (show retI (mH 186).2.2.1 s0 = true from retI_int)])
-- 187: X12_looked
theorem c187_0 : cd 187 0 = some (0, .iload_n 1, 1, []) := by decide +kernel
theorem x187_0 {d : Nat} {a0 a2 a3 a4 a5 : Value} {x : Int32} {h : AHp} : Rf d 187 0 [a0, .int x, a2, a3, a4, a5] [] h = Rf d 187 1 [a0, .int x, a2, a3, a4, a5] [.int x] h := Rf_go ((stp_of c187_0).trans rfl)
theorem c187_1 : cd 187 1 = some (1, .iconst 0, 1, []) := by decide +kernel
theorem x187_1 {d : Nat} {a0 a1 a2 a3 a4 a5 : Value} {s0 : Int32} {h : AHp} : Rf d 187 1 [a0, a1, a2, a3, a4, a5] [.int s0] h = Rf d 187 2 [a0, a1, a2, a3, a4, a5] [.int 0, .int s0] h := Rf_go ((stp_of c187_1).trans rfl)
theorem c187_2 : cd 187 2 = some (2, .iconst 2, 1, []) := by decide +kernel
theorem x187_2 {d : Nat} {a0 a1 a2 a3 a4 a5 : Value} {s0 : Int32} {s1 : Int32} {h : AHp} : Rf d 187 2 [a0, a1, a2, a3, a4, a5] [.int s0, .int s1] h = Rf d 187 3 [a0, a1, a2, a3, a4, a5] [.int 2, .int s0, .int s1] h := Rf_go ((stp_of c187_2).trans rfl)
theorem c187_3 : cd 187 3 = some (3, .invokestatic 31, 3, [(0, 131)]) := by decide +kernel
theorem xc187_3 {d : Nat} {a0 a1 a2 a3 a4 a5 : Value} {s0 : Int32} {s1 : Int32} {s2 : Int32} {h : AHp} {h1 : AHp} {v : Int32} (hq : Rf d 131 0 [.int s2, .int s1, .int s0] [] h = some (some (.int v), h1)) : Rf (d + 1) 187 3 [a0, a1, a2, a3, a4, a5] [.int s0, .int s1, .int s2] h = Rf (d + 1) 187 6 [a0, a1, a2, a3, a4, a5] [.int v] h1 := clS (as := [.int s2, .int s1, .int s0]) c187_3 rfl rfl (by simp [isV]) hq
theorem c187_6 : cd 187 6 = some (6, .ifCond .ne 5, 3, [(11, 0)]) := by decide +kernel
theorem x187_6 {d : Nat} {a0 a1 a2 a3 a4 a5 : Value} {s0 : Int32} {h : AHp} : Rf d 187 6 [a0, a1, a2, a3, a4, a5] [.int s0] h = if s0 = 0 then Rf d 187 9 [a0, a1, a2, a3, a4, a5] [] h else Rf d 187 11 [a0, a1, a2, a3, a4, a5] [] h := Rf_brn ((stp_of c187_6).trans rfl)
theorem c187_11 : cd 187 11 = some (11, .bipush (-5), 2, []) := by decide +kernel
theorem x187_11 {d : Nat} {a0 a1 a2 a3 a4 a5 : Value} {h : AHp} : Rf d 187 11 [a0, a1, a2, a3, a4, a5] [] h = Rf d 187 13 [a0, a1, a2, a3, a4, a5] [.int (-5)] h := Rf_go ((stp_of c187_11).trans rfl)
theorem c187_13 : cd 187 13 = some (13, .istore_n 2, 1, []) := by decide +kernel
theorem x187_13 {d : Nat} {a0 a1 a2 a3 a4 a5 : Value} {s0 : Int32} {h : AHp} : Rf d 187 13 [a0, a1, a2, a3, a4, a5] [.int s0] h = Rf d 187 14 [a0, a1, .int s0, a3, a4, a5] [] h := Rf_go ((stp_of c187_13).trans rfl)
theorem c187_14 : cd 187 14 = some (14, .iconst 0, 1, []) := by decide +kernel
theorem x187_14 {d : Nat} {a0 a1 a2 a3 a4 a5 : Value} {h : AHp} : Rf d 187 14 [a0, a1, a2, a3, a4, a5] [] h = Rf d 187 15 [a0, a1, a2, a3, a4, a5] [.int 0] h := Rf_go ((stp_of c187_14).trans rfl)
theorem c187_15 : cd 187 15 = some (15, .istore_n 3, 1, []) := by decide +kernel
theorem x187_15 {d : Nat} {a0 a1 a2 a3 a4 a5 : Value} {s0 : Int32} {h : AHp} : Rf d 187 15 [a0, a1, a2, a3, a4, a5] [.int s0] h = Rf d 187 16 [a0, a1, a2, .int s0, a4, a5] [] h := Rf_go ((stp_of c187_15).trans rfl)
theorem c187_16 : cd 187 16 = some (16, .iconst 0, 1, []) := by decide +kernel
theorem x187_16 {d : Nat} {a0 a1 a2 a3 a4 a5 : Value} {h : AHp} : Rf d 187 16 [a0, a1, a2, a3, a4, a5] [] h = Rf d 187 17 [a0, a1, a2, a3, a4, a5] [.int 0] h := Rf_go ((stp_of c187_16).trans rfl)
theorem c187_17 : cd 187 17 = some (17, .istore 4, 2, []) := by decide +kernel
theorem x187_17 {d : Nat} {a0 a1 a2 a3 a4 a5 : Value} {s0 : Int32} {h : AHp} : Rf d 187 17 [a0, a1, a2, a3, a4, a5] [.int s0] h = Rf d 187 19 [a0, a1, a2, a3, .int s0, a5] [] h := Rf_go ((stp_of c187_17).trans rfl)
theorem c187_19 : cd 187 19 = some (19, .iconst 0, 1, []) := by decide +kernel
theorem x187_19 {d : Nat} {a0 a1 a2 a3 a4 a5 : Value} {h : AHp} : Rf d 187 19 [a0, a1, a2, a3, a4, a5] [] h = Rf d 187 20 [a0, a1, a2, a3, a4, a5] [.int 0] h := Rf_go ((stp_of c187_19).trans rfl)
theorem c187_20 : cd 187 20 = some (20, .istore 5, 2, []) := by decide +kernel
theorem x187_20 {d : Nat} {a0 a1 a2 a3 a4 a5 : Value} {s0 : Int32} {h : AHp} : Rf d 187 20 [a0, a1, a2, a3, a4, a5] [.int s0] h = Rf d 187 22 [a0, a1, a2, a3, a4, .int s0] [] h := Rf_go ((stp_of c187_20).trans rfl)
theorem c187_22 : cd 187 22 = some (22, .iload 5, 2, []) := by decide +kernel
theorem x187_22 {d : Nat} {a0 a1 a2 a3 a4 : Value} {x : Int32} {h : AHp} : Rf d 187 22 [a0, a1, a2, a3, a4, .int x] [] h = Rf d 187 24 [a0, a1, a2, a3, a4, .int x] [.int x] h := Rf_go ((stp_of c187_22).trans rfl)
theorem c187_24 : cd 187 24 = some (24, .aload_n 0, 1, []) := by decide +kernel
theorem x187_24 {d : Nat} {a1 a2 a3 a4 a5 : Value} {s0 : Int32} {x : Nat} {h : AHp} : Rf d 187 24 [.ref x, a1, a2, a3, a4, a5] [.int s0] h = Rf d 187 25 [.ref x, a1, a2, a3, a4, a5] [.ref x, .int s0] h := Rf_go ((stp_of c187_24).trans rfl)
theorem c187_25 : cd 187 25 = some (25, .getfield 9, 3, [(12, 0)]) := by decide +kernel
theorem x187_25 {d : Nat} {a0 a1 a2 a3 a4 a5 : Value} {s0 : Nat} {s1 : Int32} {h : AHp} : Rf d 187 25 [a0, a1, a2, a3, a4, a5] [.ref s0, .int s1] h = if cls (h.1 s0) = 12 ∧ oKr (h.1 s0) 0 = true then Rf d 187 28 [a0, a1, a2, a3, a4, a5] [.ref (oR (h.1 s0) 0), .int s1] h else Rx d 187 25 [a0, a1, a2, a3, a4, a5] [.ref s0, .int s1] h := getR c187_25
theorem c187_28 : cd 187 28 = some (28, .iconst 0, 1, []) := by decide +kernel
theorem x187_28 {d : Nat} {a0 a1 a2 a3 a4 a5 : Value} {s0 : Nat} {s1 : Int32} {h : AHp} : Rf d 187 28 [a0, a1, a2, a3, a4, a5] [.ref s0, .int s1] h = Rf d 187 29 [a0, a1, a2, a3, a4, a5] [.int 0, .ref s0, .int s1] h := Rf_go ((stp_of c187_28).trans rfl)
theorem c187_29 : cd 187 29 = some (29, .iaload, 1, []) := by decide +kernel
theorem x187_29 {d : Nat} {a0 a1 a2 a3 a4 a5 : Value} {s0 : Int32} {s1 : Nat} {s2 : Int32} {h : AHp} : Rf d 187 29 [a0, a1, a2, a3, a4, a5] [.int s0, .ref s1, .int s2] h = if (aT (h.1 s1) = 0 ∨ aT (h.1 s1) = 10) ∧ inB s0 (aN (h.1 s1)) = true then Rf d 187 30 [a0, a1, a2, a3, a4, a5] [.int (aF (h.1 s1) s0.toNatClampNeg), .int s2] h else Rx d 187 29 [a0, a1, a2, a3, a4, a5] [.int s0, .ref s1, .int s2] h := ldI c187_29
theorem c187_30 : cd 187 30 = some (30, .if_icmp .ge 85, 3, [(115, 0)]) := by decide +kernel
theorem x187_30 {d : Nat} {a0 a1 a2 a3 a4 a5 : Value} {s0 : Int32} {s1 : Int32} {h : AHp} : Rf d 187 30 [a0, a1, a2, a3, a4, a5] [.int s0, .int s1] h = if s1 < s0 then Rf d 187 33 [a0, a1, a2, a3, a4, a5] [] h else Rf d 187 115 [a0, a1, a2, a3, a4, a5] [] h := Rf_brn ((stp_of c187_30).trans rfl)
theorem c187_115 : cd 187 115 = some (115, .iload_n 1, 1, []) := by decide +kernel
theorem x187_115 {d : Nat} {a0 a2 a3 a4 a5 : Value} {x : Int32} {h : AHp} : Rf d 187 115 [a0, .int x, a2, a3, a4, a5] [] h = Rf d 187 116 [a0, .int x, a2, a3, a4, a5] [.int x] h := Rf_go ((stp_of c187_115).trans rfl)
theorem c187_116 : cd 187 116 = some (116, .ifCond .ne 7, 3, [(123, 0)]) := by decide +kernel
theorem x187_116 {d : Nat} {a0 a1 a2 a3 a4 a5 : Value} {s0 : Int32} {h : AHp} : Rf d 187 116 [a0, a1, a2, a3, a4, a5] [.int s0] h = if s0 = 0 then Rf d 187 119 [a0, a1, a2, a3, a4, a5] [] h else Rf d 187 123 [a0, a1, a2, a3, a4, a5] [] h := Rf_brn ((stp_of c187_116).trans rfl)
theorem c187_123 : cd 187 123 = some (123, .iload_n 1, 1, []) := by decide +kernel
theorem x187_123 {d : Nat} {a0 a2 a3 a4 a5 : Value} {x : Int32} {h : AHp} : Rf d 187 123 [a0, .int x, a2, a3, a4, a5] [] h = Rf d 187 124 [a0, .int x, a2, a3, a4, a5] [.int x] h := Rf_go ((stp_of c187_123).trans rfl)
theorem c187_124 : cd 187 124 = some (124, .iconst 1, 1, []) := by decide +kernel
theorem x187_124 {d : Nat} {a0 a1 a2 a3 a4 a5 : Value} {s0 : Int32} {h : AHp} : Rf d 187 124 [a0, a1, a2, a3, a4, a5] [.int s0] h = Rf d 187 125 [a0, a1, a2, a3, a4, a5] [.int 1, .int s0] h := Rf_go ((stp_of c187_124).trans rfl)
theorem c187_125 : cd 187 125 = some (125, .if_icmp .ne 7, 3, [(132, 0)]) := by decide +kernel
theorem x187_125 {d : Nat} {a0 a1 a2 a3 a4 a5 : Value} {s0 : Int32} {s1 : Int32} {h : AHp} : Rf d 187 125 [a0, a1, a2, a3, a4, a5] [.int s0, .int s1] h = if s1 = s0 then Rf d 187 128 [a0, a1, a2, a3, a4, a5] [] h else Rf d 187 132 [a0, a1, a2, a3, a4, a5] [] h := Rf_brn ((stp_of c187_125).trans rfl)
theorem c187_132 : cd 187 132 = some (132, .iload 4, 2, []) := by decide +kernel
theorem x187_132 {d : Nat} {a0 a1 a2 a3 a5 : Value} {x : Int32} {h : AHp} : Rf d 187 132 [a0, a1, a2, a3, .int x, a5] [] h = Rf d 187 134 [a0, a1, a2, a3, .int x, a5] [.int x] h := Rf_go ((stp_of c187_132).trans rfl)
theorem c187_134 : cd 187 134 = some (134, .ireturn, 1, []) := by decide +kernel
theorem x187_134 {d : Nat} {a0 a1 a2 a3 a4 a5 : Value} {s0 : Int32} {h : AHp} : Rf d 187 134 [a0, a1, a2, a3, a4, a5] [.int s0] h = some (some (.int s0), h) := Rf_end (by rw [stp_of c187_134]; simp only [stpI]; rw [if_pos (show retI (mH 187).2.2.1 s0 = true from retI_int)])
theorem c187_128 : cd 187 128 = some (128, .iload_n 3, 1, []) := by decide +kernel
theorem x187_128 {d : Nat} {a0 a1 a2 a4 a5 : Value} {x : Int32} {h : AHp} : Rf d 187 128 [a0, a1, a2, .int x, a4, a5] [] h = Rf d 187 129 [a0, a1, a2, .int x, a4, a5] [.int x] h := Rf_go ((stp_of c187_128).trans rfl)
theorem c187_129 : cd 187 129 = some (129, .goto 5, 3, [(134, 0)]) := by decide +kernel
theorem x187_129 {d : Nat} {a0 a1 a2 a3 a4 a5 : Value} {s0 : Int32} {h : AHp} : Rf d 187 129 [a0, a1, a2, a3, a4, a5] [.int s0] h = Rf d 187 134 [a0, a1, a2, a3, a4, a5] [.int s0] h := Rf_go ((stp_of c187_129).trans rfl)
theorem c187_119 : cd 187 119 = some (119, .iload_n 2, 1, []) := by decide +kernel
theorem x187_119 {d : Nat} {a0 a1 a3 a4 a5 : Value} {x : Int32} {h : AHp} : Rf d 187 119 [a0, a1, .int x, a3, a4, a5] [] h = Rf d 187 120 [a0, a1, .int x, a3, a4, a5] [.int x] h := Rf_go ((stp_of c187_119).trans rfl)
theorem c187_120 : cd 187 120 = some (120, .goto 14, 3, [(134, 0)]) := by decide +kernel
theorem x187_120 {d : Nat} {a0 a1 a2 a3 a4 a5 : Value} {s0 : Int32} {h : AHp} : Rf d 187 120 [a0, a1, a2, a3, a4, a5] [.int s0] h = Rf d 187 134 [a0, a1, a2, a3, a4, a5] [.int s0] h := Rf_go ((stp_of c187_120).trans rfl)
theorem c187_33 : cd 187 33 = some (33, .iload 5, 2, []) := by decide +kernel
theorem x187_33 {d : Nat} {a0 a1 a2 a3 a4 : Value} {x : Int32} {h : AHp} : Rf d 187 33 [a0, a1, a2, a3, a4, .int x] [] h = Rf d 187 35 [a0, a1, a2, a3, a4, .int x] [.int x] h := Rf_go ((stp_of c187_33).trans rfl)
theorem c187_35 : cd 187 35 = some (35, .aload_n 0, 1, []) := by decide +kernel
theorem x187_35 {d : Nat} {a1 a2 a3 a4 a5 : Value} {s0 : Int32} {x : Nat} {h : AHp} : Rf d 187 35 [.ref x, a1, a2, a3, a4, a5] [.int s0] h = Rf d 187 36 [.ref x, a1, a2, a3, a4, a5] [.ref x, .int s0] h := Rf_go ((stp_of c187_35).trans rfl)
theorem c187_36 : cd 187 36 = some (36, .getfield 9, 3, [(12, 0)]) := by decide +kernel
theorem x187_36 {d : Nat} {a0 a1 a2 a3 a4 a5 : Value} {s0 : Nat} {s1 : Int32} {h : AHp} : Rf d 187 36 [a0, a1, a2, a3, a4, a5] [.ref s0, .int s1] h = if cls (h.1 s0) = 12 ∧ oKr (h.1 s0) 0 = true then Rf d 187 39 [a0, a1, a2, a3, a4, a5] [.ref (oR (h.1 s0) 0), .int s1] h else Rx d 187 36 [a0, a1, a2, a3, a4, a5] [.ref s0, .int s1] h := getR c187_36
theorem c187_39 : cd 187 39 = some (39, .iconst 3, 1, []) := by decide +kernel
theorem x187_39 {d : Nat} {a0 a1 a2 a3 a4 a5 : Value} {s0 : Nat} {s1 : Int32} {h : AHp} : Rf d 187 39 [a0, a1, a2, a3, a4, a5] [.ref s0, .int s1] h = Rf d 187 40 [a0, a1, a2, a3, a4, a5] [.int 3, .ref s0, .int s1] h := Rf_go ((stp_of c187_39).trans rfl)
theorem c187_40 : cd 187 40 = some (40, .iaload, 1, []) := by decide +kernel
theorem x187_40 {d : Nat} {a0 a1 a2 a3 a4 a5 : Value} {s0 : Int32} {s1 : Nat} {s2 : Int32} {h : AHp} : Rf d 187 40 [a0, a1, a2, a3, a4, a5] [.int s0, .ref s1, .int s2] h = if (aT (h.1 s1) = 0 ∨ aT (h.1 s1) = 10) ∧ inB s0 (aN (h.1 s1)) = true then Rf d 187 41 [a0, a1, a2, a3, a4, a5] [.int (aF (h.1 s1) s0.toNatClampNeg), .int s2] h else Rx d 187 40 [a0, a1, a2, a3, a4, a5] [.int s0, .ref s1, .int s2] h := ldI c187_40
theorem c187_41 : cd 187 41 = some (41, .if_icmp .ge 74, 3, [(115, 0)]) := by decide +kernel
theorem x187_41 {d : Nat} {a0 a1 a2 a3 a4 a5 : Value} {s0 : Int32} {s1 : Int32} {h : AHp} : Rf d 187 41 [a0, a1, a2, a3, a4, a5] [.int s0, .int s1] h = if s1 < s0 then Rf d 187 44 [a0, a1, a2, a3, a4, a5] [] h else Rf d 187 115 [a0, a1, a2, a3, a4, a5] [] h := Rf_brn ((stp_of c187_41).trans rfl)
theorem c187_44 : cd 187 44 = some (44, .aload_n 0, 1, []) := by decide +kernel
theorem x187_44 {d : Nat} {a1 a2 a3 a4 a5 : Value} {x : Nat} {h : AHp} : Rf d 187 44 [.ref x, a1, a2, a3, a4, a5] [] h = Rf d 187 45 [.ref x, a1, a2, a3, a4, a5] [.ref x] h := Rf_go ((stp_of c187_44).trans rfl)
theorem c187_45 : cd 187 45 = some (45, .getfield 9, 3, [(12, 0)]) := by decide +kernel
theorem x187_45 {d : Nat} {a0 a1 a2 a3 a4 a5 : Value} {s0 : Nat} {h : AHp} : Rf d 187 45 [a0, a1, a2, a3, a4, a5] [.ref s0] h = if cls (h.1 s0) = 12 ∧ oKr (h.1 s0) 0 = true then Rf d 187 48 [a0, a1, a2, a3, a4, a5] [.ref (oR (h.1 s0) 0)] h else Rx d 187 45 [a0, a1, a2, a3, a4, a5] [.ref s0] h := getR c187_45
theorem c187_48 : cd 187 48 = some (48, .bipush 20, 2, []) := by decide +kernel
theorem x187_48 {d : Nat} {a0 a1 a2 a3 a4 a5 : Value} {s0 : Nat} {h : AHp} : Rf d 187 48 [a0, a1, a2, a3, a4, a5] [.ref s0] h = Rf d 187 50 [a0, a1, a2, a3, a4, a5] [.int 20, .ref s0] h := Rf_go ((stp_of c187_48).trans rfl)
theorem c187_50 : cd 187 50 = some (50, .iload 5, 2, []) := by decide +kernel
theorem x187_50 {d : Nat} {a0 a1 a2 a3 a4 : Value} {s0 : Int32} {s1 : Nat} {x : Int32} {h : AHp} : Rf d 187 50 [a0, a1, a2, a3, a4, .int x] [.int s0, .ref s1] h = Rf d 187 52 [a0, a1, a2, a3, a4, .int x] [.int x, .int s0, .ref s1] h := Rf_go ((stp_of c187_50).trans rfl)
theorem c187_52 : cd 187 52 = some (52, .iadd, 1, []) := by decide +kernel
theorem x187_52 {d : Nat} {a0 a1 a2 a3 a4 a5 : Value} {s0 : Int32} {s1 : Int32} {s2 : Nat} {h : AHp} : Rf d 187 52 [a0, a1, a2, a3, a4, a5] [.int s0, .int s1, .ref s2] h = Rf d 187 53 [a0, a1, a2, a3, a4, a5] [.int (s1 + s0), .ref s2] h := Rf_go ((stp_of c187_52).trans rfl)
theorem c187_53 : cd 187 53 = some (53, .iaload, 1, []) := by decide +kernel
theorem x187_53 {d : Nat} {a0 a1 a2 a3 a4 a5 : Value} {s0 : Int32} {s1 : Nat} {h : AHp} : Rf d 187 53 [a0, a1, a2, a3, a4, a5] [.int s0, .ref s1] h = if (aT (h.1 s1) = 0 ∨ aT (h.1 s1) = 10) ∧ inB s0 (aN (h.1 s1)) = true then Rf d 187 54 [a0, a1, a2, a3, a4, a5] [.int (aF (h.1 s1) s0.toNatClampNeg)] h else Rx d 187 53 [a0, a1, a2, a3, a4, a5] [.int s0, .ref s1] h := ldI c187_53
theorem c187_54 : cd 187 54 = some (54, .aload_n 0, 1, []) := by decide +kernel
theorem x187_54 {d : Nat} {a1 a2 a3 a4 a5 : Value} {s0 : Int32} {x : Nat} {h : AHp} : Rf d 187 54 [.ref x, a1, a2, a3, a4, a5] [.int s0] h = Rf d 187 55 [.ref x, a1, a2, a3, a4, a5] [.ref x, .int s0] h := Rf_go ((stp_of c187_54).trans rfl)
theorem c187_55 : cd 187 55 = some (55, .getfield 9, 3, [(12, 0)]) := by decide +kernel
theorem x187_55 {d : Nat} {a0 a1 a2 a3 a4 a5 : Value} {s0 : Nat} {s1 : Int32} {h : AHp} : Rf d 187 55 [a0, a1, a2, a3, a4, a5] [.ref s0, .int s1] h = if cls (h.1 s0) = 12 ∧ oKr (h.1 s0) 0 = true then Rf d 187 58 [a0, a1, a2, a3, a4, a5] [.ref (oR (h.1 s0) 0), .int s1] h else Rx d 187 55 [a0, a1, a2, a3, a4, a5] [.ref s0, .int s1] h := getR c187_55
theorem c187_58 : cd 187 58 = some (58, .bipush 116, 2, []) := by decide +kernel
theorem x187_58 {d : Nat} {a0 a1 a2 a3 a4 a5 : Value} {s0 : Nat} {s1 : Int32} {h : AHp} : Rf d 187 58 [a0, a1, a2, a3, a4, a5] [.ref s0, .int s1] h = Rf d 187 60 [a0, a1, a2, a3, a4, a5] [.int 116, .ref s0, .int s1] h := Rf_go ((stp_of c187_58).trans rfl)
theorem c187_60 : cd 187 60 = some (60, .iload 5, 2, []) := by decide +kernel
theorem x187_60 {d : Nat} {a0 a1 a2 a3 a4 : Value} {s0 : Int32} {s1 : Nat} {s2 : Int32} {x : Int32} {h : AHp} : Rf d 187 60 [a0, a1, a2, a3, a4, .int x] [.int s0, .ref s1, .int s2] h = Rf d 187 62 [a0, a1, a2, a3, a4, .int x] [.int x, .int s0, .ref s1, .int s2] h := Rf_go ((stp_of c187_60).trans rfl)
theorem c187_62 : cd 187 62 = some (62, .iadd, 1, []) := by decide +kernel
theorem x187_62 {d : Nat} {a0 a1 a2 a3 a4 a5 : Value} {s0 : Int32} {s1 : Int32} {s2 : Nat} {s3 : Int32} {h : AHp} : Rf d 187 62 [a0, a1, a2, a3, a4, a5] [.int s0, .int s1, .ref s2, .int s3] h = Rf d 187 63 [a0, a1, a2, a3, a4, a5] [.int (s1 + s0), .ref s2, .int s3] h := Rf_go ((stp_of c187_62).trans rfl)
theorem c187_63 : cd 187 63 = some (63, .iaload, 1, []) := by decide +kernel
theorem x187_63 {d : Nat} {a0 a1 a2 a3 a4 a5 : Value} {s0 : Int32} {s1 : Nat} {s2 : Int32} {h : AHp} : Rf d 187 63 [a0, a1, a2, a3, a4, a5] [.int s0, .ref s1, .int s2] h = if (aT (h.1 s1) = 0 ∨ aT (h.1 s1) = 10) ∧ inB s0 (aN (h.1 s1)) = true then Rf d 187 64 [a0, a1, a2, a3, a4, a5] [.int (aF (h.1 s1) s0.toNatClampNeg), .int s2] h else Rx d 187 63 [a0, a1, a2, a3, a4, a5] [.int s0, .ref s1, .int s2] h := ldI c187_63
theorem c187_64 : cd 187 64 = some (64, .if_icmp .ne 6, 3, [(70, 0)]) := by decide +kernel
theorem x187_64 {d : Nat} {a0 a1 a2 a3 a4 a5 : Value} {s0 : Int32} {s1 : Int32} {h : AHp} : Rf d 187 64 [a0, a1, a2, a3, a4, a5] [.int s0, .int s1] h = if s1 = s0 then Rf d 187 67 [a0, a1, a2, a3, a4, a5] [] h else Rf d 187 70 [a0, a1, a2, a3, a4, a5] [] h := Rf_brn ((stp_of c187_64).trans rfl)
theorem c187_70 : cd 187 70 = some (70, .iload_n 2, 1, []) := by decide +kernel
theorem x187_70 {d : Nat} {a0 a1 a3 a4 a5 : Value} {x : Int32} {h : AHp} : Rf d 187 70 [a0, a1, .int x, a3, a4, a5] [] h = Rf d 187 71 [a0, a1, .int x, a3, a4, a5] [.int x] h := Rf_go ((stp_of c187_70).trans rfl)
theorem c187_71 : cd 187 71 = some (71, .ifCond .ge 6, 3, [(77, 0)]) := by decide +kernel
theorem x187_71 {d : Nat} {a0 a1 a2 a3 a4 a5 : Value} {s0 : Int32} {h : AHp} : Rf d 187 71 [a0, a1, a2, a3, a4, a5] [.int s0] h = if s0 < 0 then Rf d 187 74 [a0, a1, a2, a3, a4, a5] [] h else Rf d 187 77 [a0, a1, a2, a3, a4, a5] [] h := Rf_brn ((stp_of c187_71).trans rfl)
theorem c187_77 : cd 187 77 = some (77, .aload_n 0, 1, []) := by decide +kernel
theorem x187_77 {d : Nat} {a1 a2 a3 a4 a5 : Value} {x : Nat} {h : AHp} : Rf d 187 77 [.ref x, a1, a2, a3, a4, a5] [] h = Rf d 187 78 [.ref x, a1, a2, a3, a4, a5] [.ref x] h := Rf_go ((stp_of c187_77).trans rfl)
theorem c187_78 : cd 187 78 = some (78, .getfield 9, 3, [(12, 0)]) := by decide +kernel
theorem x187_78 {d : Nat} {a0 a1 a2 a3 a4 a5 : Value} {s0 : Nat} {h : AHp} : Rf d 187 78 [a0, a1, a2, a3, a4, a5] [.ref s0] h = if cls (h.1 s0) = 12 ∧ oKr (h.1 s0) 0 = true then Rf d 187 81 [a0, a1, a2, a3, a4, a5] [.ref (oR (h.1 s0) 0)] h else Rx d 187 78 [a0, a1, a2, a3, a4, a5] [.ref s0] h := getR c187_78
theorem c187_81 : cd 187 81 = some (81, .bipush 20, 2, []) := by decide +kernel
theorem x187_81 {d : Nat} {a0 a1 a2 a3 a4 a5 : Value} {s0 : Nat} {h : AHp} : Rf d 187 81 [a0, a1, a2, a3, a4, a5] [.ref s0] h = Rf d 187 83 [a0, a1, a2, a3, a4, a5] [.int 20, .ref s0] h := Rf_go ((stp_of c187_81).trans rfl)
theorem c187_83 : cd 187 83 = some (83, .iload 5, 2, []) := by decide +kernel
theorem x187_83 {d : Nat} {a0 a1 a2 a3 a4 : Value} {s0 : Int32} {s1 : Nat} {x : Int32} {h : AHp} : Rf d 187 83 [a0, a1, a2, a3, a4, .int x] [.int s0, .ref s1] h = Rf d 187 85 [a0, a1, a2, a3, a4, .int x] [.int x, .int s0, .ref s1] h := Rf_go ((stp_of c187_83).trans rfl)
theorem c187_85 : cd 187 85 = some (85, .iadd, 1, []) := by decide +kernel
theorem x187_85 {d : Nat} {a0 a1 a2 a3 a4 a5 : Value} {s0 : Int32} {s1 : Int32} {s2 : Nat} {h : AHp} : Rf d 187 85 [a0, a1, a2, a3, a4, a5] [.int s0, .int s1, .ref s2] h = Rf d 187 86 [a0, a1, a2, a3, a4, a5] [.int (s1 + s0), .ref s2] h := Rf_go ((stp_of c187_85).trans rfl)
theorem c187_86 : cd 187 86 = some (86, .iaload, 1, []) := by decide +kernel
theorem x187_86 {d : Nat} {a0 a1 a2 a3 a4 a5 : Value} {s0 : Int32} {s1 : Nat} {h : AHp} : Rf d 187 86 [a0, a1, a2, a3, a4, a5] [.int s0, .ref s1] h = if (aT (h.1 s1) = 0 ∨ aT (h.1 s1) = 10) ∧ inB s0 (aN (h.1 s1)) = true then Rf d 187 87 [a0, a1, a2, a3, a4, a5] [.int (aF (h.1 s1) s0.toNatClampNeg)] h else Rx d 187 86 [a0, a1, a2, a3, a4, a5] [.int s0, .ref s1] h := ldI c187_86
theorem c187_87 : cd 187 87 = some (87, .aload_n 0, 1, []) := by decide +kernel
theorem x187_87 {d : Nat} {a1 a2 a3 a4 a5 : Value} {s0 : Int32} {x : Nat} {h : AHp} : Rf d 187 87 [.ref x, a1, a2, a3, a4, a5] [.int s0] h = Rf d 187 88 [.ref x, a1, a2, a3, a4, a5] [.ref x, .int s0] h := Rf_go ((stp_of c187_87).trans rfl)
theorem c187_88 : cd 187 88 = some (88, .getfield 9, 3, [(12, 0)]) := by decide +kernel
theorem x187_88 {d : Nat} {a0 a1 a2 a3 a4 a5 : Value} {s0 : Nat} {s1 : Int32} {h : AHp} : Rf d 187 88 [a0, a1, a2, a3, a4, a5] [.ref s0, .int s1] h = if cls (h.1 s0) = 12 ∧ oKr (h.1 s0) 0 = true then Rf d 187 91 [a0, a1, a2, a3, a4, a5] [.ref (oR (h.1 s0) 0), .int s1] h else Rx d 187 88 [a0, a1, a2, a3, a4, a5] [.ref s0, .int s1] h := getR c187_88
theorem c187_91 : cd 187 91 = some (91, .bipush 116, 2, []) := by decide +kernel
theorem x187_91 {d : Nat} {a0 a1 a2 a3 a4 a5 : Value} {s0 : Nat} {s1 : Int32} {h : AHp} : Rf d 187 91 [a0, a1, a2, a3, a4, a5] [.ref s0, .int s1] h = Rf d 187 93 [a0, a1, a2, a3, a4, a5] [.int 116, .ref s0, .int s1] h := Rf_go ((stp_of c187_91).trans rfl)
theorem c187_93 : cd 187 93 = some (93, .iload 5, 2, []) := by decide +kernel
theorem x187_93 {d : Nat} {a0 a1 a2 a3 a4 : Value} {s0 : Int32} {s1 : Nat} {s2 : Int32} {x : Int32} {h : AHp} : Rf d 187 93 [a0, a1, a2, a3, a4, .int x] [.int s0, .ref s1, .int s2] h = Rf d 187 95 [a0, a1, a2, a3, a4, .int x] [.int x, .int s0, .ref s1, .int s2] h := Rf_go ((stp_of c187_93).trans rfl)
theorem c187_95 : cd 187 95 = some (95, .iadd, 1, []) := by decide +kernel
theorem x187_95 {d : Nat} {a0 a1 a2 a3 a4 a5 : Value} {s0 : Int32} {s1 : Int32} {s2 : Nat} {s3 : Int32} {h : AHp} : Rf d 187 95 [a0, a1, a2, a3, a4, a5] [.int s0, .int s1, .ref s2, .int s3] h = Rf d 187 96 [a0, a1, a2, a3, a4, a5] [.int (s1 + s0), .ref s2, .int s3] h := Rf_go ((stp_of c187_95).trans rfl)
theorem c187_96 : cd 187 96 = some (96, .iaload, 1, []) := by decide +kernel
theorem x187_96 {d : Nat} {a0 a1 a2 a3 a4 a5 : Value} {s0 : Int32} {s1 : Nat} {s2 : Int32} {h : AHp} : Rf d 187 96 [a0, a1, a2, a3, a4, a5] [.int s0, .ref s1, .int s2] h = if (aT (h.1 s1) = 0 ∨ aT (h.1 s1) = 10) ∧ inB s0 (aN (h.1 s1)) = true then Rf d 187 97 [a0, a1, a2, a3, a4, a5] [.int (aF (h.1 s1) s0.toNatClampNeg), .int s2] h else Rx d 187 96 [a0, a1, a2, a3, a4, a5] [.int s0, .ref s1, .int s2] h := ldI c187_96
theorem c187_97 : cd 187 97 = some (97, .if_icmp .ge 9, 3, [(106, 0)]) := by decide +kernel
theorem x187_97 {d : Nat} {a0 a1 a2 a3 a4 a5 : Value} {s0 : Int32} {s1 : Int32} {h : AHp} : Rf d 187 97 [a0, a1, a2, a3, a4, a5] [.int s0, .int s1] h = if s1 < s0 then Rf d 187 100 [a0, a1, a2, a3, a4, a5] [] h else Rf d 187 106 [a0, a1, a2, a3, a4, a5] [] h := Rf_brn ((stp_of c187_97).trans rfl)
theorem c187_106 : cd 187 106 = some (106, .iinc 4 1, 3, []) := by decide +kernel
theorem x187_106 {d : Nat} {a0 a1 a2 a3 a5 : Value} {x : Int32} {h : AHp} : Rf d 187 106 [a0, a1, a2, a3, .int x, a5] [] h = Rf d 187 109 [a0, a1, a2, a3, .int (x + 1), a5] [] h := Rf_go ((stp_of c187_106).trans rfl)
theorem c187_109 : cd 187 109 = some (109, .iinc 5 1, 3, []) := by decide +kernel
theorem x187_109 {d : Nat} {a0 a1 a2 a3 a4 : Value} {x : Int32} {h : AHp} : Rf d 187 109 [a0, a1, a2, a3, a4, .int x] [] h = Rf d 187 112 [a0, a1, a2, a3, a4, .int (x + 1)] [] h := Rf_go ((stp_of c187_109).trans rfl)
theorem c187_112 : cd 187 112 = some (112, .goto (-90), 3, [(22, 0)]) := by decide +kernel
theorem x187_112 {d : Nat} {a0 a1 a2 a3 a4 a5 : Value} {h : AHp} : Rf d 187 112 [a0, a1, a2, a3, a4, a5] [] h = Rf d 187 22 [a0, a1, a2, a3, a4, a5] [] h := Rf_go ((stp_of c187_112).trans rfl)
theorem c187_100 : cd 187 100 = some (100, .iinc 3 1, 3, []) := by decide +kernel
theorem x187_100 {d : Nat} {a0 a1 a2 a4 a5 : Value} {x : Int32} {h : AHp} : Rf d 187 100 [a0, a1, a2, .int x, a4, a5] [] h = Rf d 187 103 [a0, a1, a2, .int (x + 1), a4, a5] [] h := Rf_go ((stp_of c187_100).trans rfl)
theorem c187_103 : cd 187 103 = some (103, .goto 6, 3, [(109, 0)]) := by decide +kernel
theorem x187_103 {d : Nat} {a0 a1 a2 a3 a4 a5 : Value} {h : AHp} : Rf d 187 103 [a0, a1, a2, a3, a4, a5] [] h = Rf d 187 109 [a0, a1, a2, a3, a4, a5] [] h := Rf_go ((stp_of c187_103).trans rfl)
theorem c187_74 : cd 187 74 = some (74, .iload 5, 2, []) := by decide +kernel
theorem x187_74 {d : Nat} {a0 a1 a2 a3 a4 : Value} {x : Int32} {h : AHp} : Rf d 187 74 [a0, a1, a2, a3, a4, .int x] [] h = Rf d 187 76 [a0, a1, a2, a3, a4, .int x] [.int x] h := Rf_go ((stp_of c187_74).trans rfl)
theorem c187_76 : cd 187 76 = some (76, .istore_n 2, 1, []) := by decide +kernel
theorem x187_76 {d : Nat} {a0 a1 a2 a3 a4 a5 : Value} {s0 : Int32} {h : AHp} : Rf d 187 76 [a0, a1, a2, a3, a4, a5] [.int s0] h = Rf d 187 77 [a0, a1, .int s0, a3, a4, a5] [] h := Rf_go ((stp_of c187_76).trans rfl)
theorem c187_67 : cd 187 67 = some (67, .goto 42, 3, [(109, 0)]) := by decide +kernel
theorem x187_67 {d : Nat} {a0 a1 a2 a3 a4 a5 : Value} {h : AHp} : Rf d 187 67 [a0, a1, a2, a3, a4, a5] [] h = Rf d 187 109 [a0, a1, a2, a3, a4, a5] [] h := Rf_go ((stp_of c187_67).trans rfl)
theorem c187_9 : cd 187 9 = some (9, .iconst (-1), 1, []) := by decide +kernel
theorem x187_9 {d : Nat} {a0 a1 a2 a3 a4 a5 : Value} {h : AHp} : Rf d 187 9 [a0, a1, a2, a3, a4, a5] [] h = Rf d 187 10 [a0, a1, a2, a3, a4, a5] [.int (-1)] h := Rf_go ((stp_of c187_9).trans rfl)
theorem c187_10 : cd 187 10 = some (10, .ireturn, 1, []) := by decide +kernel
theorem x187_10 {d : Nat} {a0 a1 a2 a3 a4 a5 : Value} {s0 : Int32} {h : AHp} : Rf d 187 10 [a0, a1, a2, a3, a4, a5] [.int s0] h = some (some (.int s0), h) := Rf_end (by rw [stp_of c187_10]; simp only [stpI]; rw [if_pos (show retI (mH 187).2.2.1 s0 = true from retI_int)])
-- 188: X12_above
theorem c188_0 : cd 188 0 = some (0, .iload_n 0, 1, []) := by decide +kernel
theorem x188_0 {d : Nat} {x : Int32} {h : AHp} : Rf d 188 0 [.int x] [] h = Rf d 188 1 [.int x] [.int x] h := Rf_go ((stp_of c188_0).trans rfl)
theorem c188_1 : cd 188 1 = some (1, .iconst 4, 1, []) := by decide +kernel
theorem x188_1 {d : Nat} {a0 : Value} {s0 : Int32} {h : AHp} : Rf d 188 1 [a0] [.int s0] h = Rf d 188 2 [a0] [.int 4, .int s0] h := Rf_go ((stp_of c188_1).trans rfl)
theorem c188_2 : cd 188 2 = some (2, .if_icmp .ge 7, 3, [(9, 0)]) := by decide +kernel
theorem x188_2 {d : Nat} {a0 : Value} {s0 : Int32} {s1 : Int32} {h : AHp} : Rf d 188 2 [a0] [.int s0, .int s1] h = if s1 < s0 then Rf d 188 5 [a0] [] h else Rf d 188 9 [a0] [] h := Rf_brn ((stp_of c188_2).trans rfl)
theorem c188_9 : cd 188 9 = some (9, .iload_n 0, 1, []) := by decide +kernel
theorem x188_9 {d : Nat} {x : Int32} {h : AHp} : Rf d 188 9 [.int x] [] h = Rf d 188 10 [.int x] [.int x] h := Rf_go ((stp_of c188_9).trans rfl)
theorem c188_10 : cd 188 10 = some (10, .iconst 3, 1, []) := by decide +kernel
theorem x188_10 {d : Nat} {a0 : Value} {s0 : Int32} {h : AHp} : Rf d 188 10 [a0] [.int s0] h = Rf d 188 11 [a0] [.int 3, .int s0] h := Rf_go ((stp_of c188_10).trans rfl)
theorem c188_11 : cd 188 11 = some (11, .isub, 1, []) := by decide +kernel
theorem x188_11 {d : Nat} {a0 : Value} {s0 : Int32} {s1 : Int32} {h : AHp} : Rf d 188 11 [a0] [.int s0, .int s1] h = Rf d 188 12 [a0] [.int (s1 - s0)] h := Rf_go ((stp_of c188_11).trans rfl)
theorem c188_12 : cd 188 12 = some (12, .ireturn, 1, []) := by decide +kernel
theorem x188_12 {d : Nat} {a0 : Value} {s0 : Int32} {h : AHp} : Rf d 188 12 [a0] [.int s0] h = some (some (.int s0), h) := Rf_end (by rw [stp_of c188_12]; simp only [stpI]; rw [if_pos (show retI (mH 188).2.2.1 s0 = true from retI_int)])
theorem c188_5 : cd 188 5 = some (5, .iconst 0, 1, []) := by decide +kernel
theorem x188_5 {d : Nat} {a0 : Value} {h : AHp} : Rf d 188 5 [a0] [] h = Rf d 188 6 [a0] [.int 0] h := Rf_go ((stp_of c188_5).trans rfl)
theorem c188_6 : cd 188 6 = some (6, .goto 6, 3, [(12, 0)]) := by decide +kernel
theorem x188_6 {d : Nat} {a0 : Value} {s0 : Int32} {h : AHp} : Rf d 188 6 [a0] [.int s0] h = Rf d 188 12 [a0] [.int s0] h := Rf_go ((stp_of c188_6).trans rfl)
-- 189: X12_begin
theorem c189_0 : cd 189 0 = some (0, .aload_n 0, 1, []) := by decide +kernel
theorem x189_0 {d : Nat} {a1 : Value} {x : Nat} {h : AHp} : Rf d 189 0 [.ref x, a1] [] h = Rf d 189 1 [.ref x, a1] [.ref x] h := Rf_go ((stp_of c189_0).trans rfl)
theorem c189_1 : cd 189 1 = some (1, .getfield 183, 3, [(12, 10)]) := by decide +kernel
theorem x189_1 {d : Nat} {a0 a1 : Value} {s0 : Nat} {h : AHp} : Rf d 189 1 [a0, a1] [.ref s0] h = if cls (h.1 s0) = 12 ∧ oKi (h.1 s0) 10 = true then Rf d 189 4 [a0, a1] [.int (oN (h.1 s0) 10)] h else Rx d 189 1 [a0, a1] [.ref s0] h := getI c189_1
theorem c189_4 : cd 189 4 = some (4, .bipush 20, 2, []) := by decide +kernel
theorem x189_4 {d : Nat} {a0 a1 : Value} {s0 : Int32} {h : AHp} : Rf d 189 4 [a0, a1] [.int s0] h = Rf d 189 6 [a0, a1] [.int 20, .int s0] h := Rf_go ((stp_of c189_4).trans rfl)
theorem c189_6 : cd 189 6 = some (6, .if_icmp .ge 13, 3, [(19, 0)]) := by decide +kernel
theorem x189_6 {d : Nat} {a0 a1 : Value} {s0 : Int32} {s1 : Int32} {h : AHp} : Rf d 189 6 [a0, a1] [.int s0, .int s1] h = if s1 < s0 then Rf d 189 9 [a0, a1] [] h else Rf d 189 19 [a0, a1] [] h := Rf_brn ((stp_of c189_6).trans rfl)
theorem c189_19 : cd 189 19 = some (19, .aload_n 0, 1, []) := by decide +kernel
theorem x189_19 {d : Nat} {a1 : Value} {x : Nat} {h : AHp} : Rf d 189 19 [.ref x, a1] [] h = Rf d 189 20 [.ref x, a1] [.ref x] h := Rf_go ((stp_of c189_19).trans rfl)
theorem c189_20 : cd 189 20 = some (20, .dup, 1, []) := by decide +kernel
theorem x189_20 {d : Nat} {a0 a1 : Value} {s0 : Nat} {h : AHp} : Rf d 189 20 [a0, a1] [.ref s0] h = Rf d 189 21 [a0, a1] [.ref s0, .ref s0] h := Rf_go ((stp_of c189_20).trans rfl)
theorem c189_21 : cd 189 21 = some (21, .getfield 183, 3, [(12, 10)]) := by decide +kernel
theorem x189_21 {d : Nat} {a0 a1 : Value} {s0 : Nat} {s1 : Nat} {h : AHp} : Rf d 189 21 [a0, a1] [.ref s0, .ref s1] h = if cls (h.1 s0) = 12 ∧ oKi (h.1 s0) 10 = true then Rf d 189 24 [a0, a1] [.int (oN (h.1 s0) 10), .ref s1] h else Rx d 189 21 [a0, a1] [.ref s0, .ref s1] h := getI c189_21
theorem c189_24 : cd 189 24 = some (24, .iconst 1, 1, []) := by decide +kernel
theorem x189_24 {d : Nat} {a0 a1 : Value} {s0 : Int32} {s1 : Nat} {h : AHp} : Rf d 189 24 [a0, a1] [.int s0, .ref s1] h = Rf d 189 25 [a0, a1] [.int 1, .int s0, .ref s1] h := Rf_go ((stp_of c189_24).trans rfl)
theorem c189_25 : cd 189 25 = some (25, .iadd, 1, []) := by decide +kernel
theorem x189_25 {d : Nat} {a0 a1 : Value} {s0 : Int32} {s1 : Int32} {s2 : Nat} {h : AHp} : Rf d 189 25 [a0, a1] [.int s0, .int s1, .ref s2] h = Rf d 189 26 [a0, a1] [.int (s1 + s0), .ref s2] h := Rf_go ((stp_of c189_25).trans rfl)
theorem c189_26 : cd 189 26 = some (26, .putfield 183, 3, [(12, 10)]) := by decide +kernel
theorem x189_26 {d : Nat} {a0 a1 : Value} {s0 : Int32} {s1 : Nat} {h : AHp} : Rf d 189 26 [a0, a1] [.int s0, .ref s1] h = if cls (h.1 s1) = 12 ∧ oL (h.1 s1) = 12 then Rf d 189 29 [a0, a1] [] (hset h s1 (oSet (h.1 s1) 10 (.int s0))) else Rx d 189 26 [a0, a1] [.int s0, .ref s1] h := putV c189_26 rfl (fMay_i (by decide +kernel))
theorem c189_29 : cd 189 29 = some (29, .return_, 1, []) := by decide +kernel
theorem x189_29 {d : Nat} {a0 a1 : Value} {h : AHp} : Rf d 189 29 [a0, a1] [] h = some (none, h) := Rf_end (endV c189_29 (by decide +kernel))
theorem c189_9 : cd 189 9 = some (9, .aload_n 0, 1, []) := by decide +kernel
theorem x189_9 {d : Nat} {a1 : Value} {x : Nat} {h : AHp} : Rf d 189 9 [.ref x, a1] [] h = Rf d 189 10 [.ref x, a1] [.ref x] h := Rf_go ((stp_of c189_9).trans rfl)
theorem c189_10 : cd 189 10 = some (10, .getfield 28, 3, [(12, 11)]) := by decide +kernel
theorem x189_10 {d : Nat} {a0 a1 : Value} {s0 : Nat} {h : AHp} : Rf d 189 10 [a0, a1] [.ref s0] h = if cls (h.1 s0) = 12 ∧ oKr (h.1 s0) 11 = true then Rf d 189 13 [a0, a1] [.ref (oR (h.1 s0) 11)] h else Rx d 189 10 [a0, a1] [.ref s0] h := getR c189_10
theorem c189_13 : cd 189 13 = some (13, .aload_n 0, 1, []) := by decide +kernel
theorem x189_13 {d : Nat} {a1 : Value} {s0 : Nat} {x : Nat} {h : AHp} : Rf d 189 13 [.ref x, a1] [.ref s0] h = Rf d 189 14 [.ref x, a1] [.ref x, .ref s0] h := Rf_go ((stp_of c189_13).trans rfl)
theorem c189_14 : cd 189 14 = some (14, .getfield 183, 3, [(12, 10)]) := by decide +kernel
theorem x189_14 {d : Nat} {a0 a1 : Value} {s0 : Nat} {s1 : Nat} {h : AHp} : Rf d 189 14 [a0, a1] [.ref s0, .ref s1] h = if cls (h.1 s0) = 12 ∧ oKi (h.1 s0) 10 = true then Rf d 189 17 [a0, a1] [.int (oN (h.1 s0) 10), .ref s1] h else Rx d 189 14 [a0, a1] [.ref s0, .ref s1] h := getI c189_14
theorem c189_17 : cd 189 17 = some (17, .iload_n 1, 1, []) := by decide +kernel
theorem x189_17 {d : Nat} {a0 : Value} {s0 : Int32} {s1 : Nat} {x : Int32} {h : AHp} : Rf d 189 17 [a0, .int x] [.int s0, .ref s1] h = Rf d 189 18 [a0, .int x] [.int x, .int s0, .ref s1] h := Rf_go ((stp_of c189_17).trans rfl)
theorem c189_18 : cd 189 18 = some (18, .iastore, 1, []) := by decide +kernel
theorem x189_18 {d : Nat} {a0 a1 : Value} {s0 : Int32} {s1 : Int32} {s2 : Nat} {h : AHp} : Rf d 189 18 [a0, a1] [.int s0, .int s1, .ref s2] h = if aT (h.1 s2) = 0 ∧ inB s1 (aN (h.1 s2)) = true then Rf d 189 19 [a0, a1] [] (hset h s2 (.inl (0, aN (h.1 s2), .inl (upd (aF (h.1 s2)) s1.toNatClampNeg s0)))) else Rx d 189 18 [a0, a1] [.int s0, .int s1, .ref s2] h := stI c189_18
-- 190: X12_has
theorem c190_0 : cd 190 0 = some (0, .iload_n 1, 1, []) := by decide +kernel
theorem x190_0 {d : Nat} {a0 a2 a3 : Value} {x : Int32} {h : AHp} : Rf d 190 0 [a0, .int x, a2, a3] [] h = Rf d 190 1 [a0, .int x, a2, a3] [.int x] h := Rf_go ((stp_of c190_0).trans rfl)
theorem c190_1 : cd 190 1 = some (1, .iconst 5, 1, []) := by decide +kernel
theorem x190_1 {d : Nat} {a0 a1 a2 a3 : Value} {s0 : Int32} {h : AHp} : Rf d 190 1 [a0, a1, a2, a3] [.int s0] h = Rf d 190 2 [a0, a1, a2, a3] [.int 5, .int s0] h := Rf_go ((stp_of c190_1).trans rfl)
theorem c190_2 : cd 190 2 = some (2, .if_icmp .ne 19, 3, [(21, 0)]) := by decide +kernel
theorem x190_2 {d : Nat} {a0 a1 a2 a3 : Value} {s0 : Int32} {s1 : Int32} {h : AHp} : Rf d 190 2 [a0, a1, a2, a3] [.int s0, .int s1] h = if s1 = s0 then Rf d 190 5 [a0, a1, a2, a3] [] h else Rf d 190 21 [a0, a1, a2, a3] [] h := Rf_brn ((stp_of c190_2).trans rfl)
theorem c190_21 : cd 190 21 = some (21, .iload_n 1, 1, []) := by decide +kernel
theorem x190_21 {d : Nat} {a0 a2 a3 : Value} {x : Int32} {h : AHp} : Rf d 190 21 [a0, .int x, a2, a3] [] h = Rf d 190 22 [a0, .int x, a2, a3] [.int x] h := Rf_go ((stp_of c190_21).trans rfl)
theorem c190_22 : cd 190 22 = some (22, .iconst 1, 1, []) := by decide +kernel
theorem x190_22 {d : Nat} {a0 a1 a2 a3 : Value} {s0 : Int32} {h : AHp} : Rf d 190 22 [a0, a1, a2, a3] [.int s0] h = Rf d 190 23 [a0, a1, a2, a3] [.int 1, .int s0] h := Rf_go ((stp_of c190_22).trans rfl)
theorem c190_23 : cd 190 23 = some (23, .if_icmp .ne 19, 3, [(42, 0)]) := by decide +kernel
theorem x190_23 {d : Nat} {a0 a1 a2 a3 : Value} {s0 : Int32} {s1 : Int32} {h : AHp} : Rf d 190 23 [a0, a1, a2, a3] [.int s0, .int s1] h = if s1 = s0 then Rf d 190 26 [a0, a1, a2, a3] [] h else Rf d 190 42 [a0, a1, a2, a3] [] h := Rf_brn ((stp_of c190_23).trans rfl)
theorem c190_42 : cd 190 42 = some (42, .iload_n 1, 1, []) := by decide +kernel
theorem x190_42 {d : Nat} {a0 a2 a3 : Value} {x : Int32} {h : AHp} : Rf d 190 42 [a0, .int x, a2, a3] [] h = Rf d 190 43 [a0, .int x, a2, a3] [.int x] h := Rf_go ((stp_of c190_42).trans rfl)
theorem c190_43 : cd 190 43 = some (43, .ifCond .le 14, 3, [(57, 0)]) := by decide +kernel
theorem x190_43 {d : Nat} {a0 a1 a2 a3 : Value} {s0 : Int32} {h : AHp} : Rf d 190 43 [a0, a1, a2, a3] [.int s0] h = if 0 < s0 then Rf d 190 46 [a0, a1, a2, a3] [] h else Rf d 190 57 [a0, a1, a2, a3] [] h := Rf_brn ((stp_of c190_43).trans rfl)
theorem c190_57 : cd 190 57 = some (57, .aload_n 0, 1, []) := by decide +kernel
theorem x190_57 {d : Nat} {a1 a2 a3 : Value} {x : Nat} {h : AHp} : Rf d 190 57 [.ref x, a1, a2, a3] [] h = Rf d 190 58 [.ref x, a1, a2, a3] [.ref x] h := Rf_go ((stp_of c190_57).trans rfl)
theorem c190_58 : cd 190 58 = some (58, .iconst 1, 1, []) := by decide +kernel
theorem x190_58 {d : Nat} {a0 a1 a2 a3 : Value} {s0 : Nat} {h : AHp} : Rf d 190 58 [a0, a1, a2, a3] [.ref s0] h = Rf d 190 59 [a0, a1, a2, a3] [.int 1, .ref s0] h := Rf_go ((stp_of c190_58).trans rfl)
theorem c190_59 : cd 190 59 = some (59, .invokevirtual 186, 3, [(12, 189)]) := by decide +kernel
theorem xc190_59 {d : Nat} {a0 a1 a2 a3 : Value} {s0 : Int32} {s1 : Nat} {h : AHp} {h1 : AHp} (hr : cls (h.1 s1) = 12) (hq : Rf d 189 0 [.ref s1, .int s0] [] h = some (none, h1)) : Rf (d + 1) 190 59 [a0, a1, a2, a3] [.int s0, .ref s1] h = Rf (d + 1) 190 62 [a0, a1, a2, a3] [] h1 := clV (c := 189) (as := [.int s0]) c190_59 rfl (by simp [isV]) (by rw [hr]; rfl) hq
theorem c190_62 : cd 190 62 = some (62, .iload_n 3, 1, []) := by decide +kernel
theorem x190_62 {d : Nat} {a0 a1 a2 : Value} {x : Int32} {h : AHp} : Rf d 190 62 [a0, a1, a2, .int x] [] h = Rf d 190 63 [a0, a1, a2, .int x] [.int x] h := Rf_go ((stp_of c190_62).trans rfl)
theorem c190_63 : cd 190 63 = some (63, .iload_n 2, 1, []) := by decide +kernel
theorem x190_63 {d : Nat} {a0 a1 a3 : Value} {s0 : Int32} {x : Int32} {h : AHp} : Rf d 190 63 [a0, a1, .int x, a3] [.int s0] h = Rf d 190 64 [a0, a1, .int x, a3] [.int x, .int s0] h := Rf_go ((stp_of c190_63).trans rfl)
theorem c190_64 : cd 190 64 = some (64, .iadd, 1, []) := by decide +kernel
theorem x190_64 {d : Nat} {a0 a1 a2 a3 : Value} {s0 : Int32} {s1 : Int32} {h : AHp} : Rf d 190 64 [a0, a1, a2, a3] [.int s0, .int s1] h = Rf d 190 65 [a0, a1, a2, a3] [.int (s1 + s0)] h := Rf_go ((stp_of c190_64).trans rfl)
theorem c190_65 : cd 190 65 = some (65, .ireturn, 1, []) := by decide +kernel
theorem x190_65 {d : Nat} {a0 a1 a2 a3 : Value} {s0 : Int32} {h : AHp} : Rf d 190 65 [a0, a1, a2, a3] [.int s0] h = some (some (.int s0), h) := Rf_end (by rw [stp_of c190_65]; simp only [stpI]; rw [if_pos (show retI (mH 190).2.2.1 s0 = true from retI_int)])
theorem c190_46 : cd 190 46 = some (46, .aload_n 0, 1, []) := by decide +kernel
theorem x190_46 {d : Nat} {a1 a2 a3 : Value} {x : Nat} {h : AHp} : Rf d 190 46 [.ref x, a1, a2, a3] [] h = Rf d 190 47 [.ref x, a1, a2, a3] [.ref x] h := Rf_go ((stp_of c190_46).trans rfl)
theorem c190_47 : cd 190 47 = some (47, .iload_n 1, 1, []) := by decide +kernel
theorem x190_47 {d : Nat} {a0 a2 a3 : Value} {s0 : Nat} {x : Int32} {h : AHp} : Rf d 190 47 [a0, .int x, a2, a3] [.ref s0] h = Rf d 190 48 [a0, .int x, a2, a3] [.int x, .ref s0] h := Rf_go ((stp_of c190_47).trans rfl)
theorem c190_48 : cd 190 48 = some (48, .invokestatic 192, 3, [(0, 188)]) := by decide +kernel
theorem xc190_48 {d : Nat} {a0 a1 a2 a3 : Value} {s0 : Int32} {s1 : Nat} {h : AHp} {h1 : AHp} {v : Int32} (hq : Rf d 188 0 [.int s0] [] h = some (some (.int v), h1)) : Rf (d + 1) 190 48 [a0, a1, a2, a3] [.int s0, .ref s1] h = Rf (d + 1) 190 51 [a0, a1, a2, a3] [.int v, .ref s1] h1 := clS (as := [.int s0]) c190_48 rfl rfl (by simp [isV]) hq
theorem c190_51 : cd 190 51 = some (51, .iload_n 2, 1, []) := by decide +kernel
theorem x190_51 {d : Nat} {a0 a1 a3 : Value} {s0 : Int32} {s1 : Nat} {x : Int32} {h : AHp} : Rf d 190 51 [a0, a1, .int x, a3] [.int s0, .ref s1] h = Rf d 190 52 [a0, a1, .int x, a3] [.int x, .int s0, .ref s1] h := Rf_go ((stp_of c190_51).trans rfl)
theorem c190_52 : cd 190 52 = some (52, .iload_n 3, 1, []) := by decide +kernel
theorem x190_52 {d : Nat} {a0 a1 a2 : Value} {s0 : Int32} {s1 : Int32} {s2 : Nat} {x : Int32} {h : AHp} : Rf d 190 52 [a0, a1, a2, .int x] [.int s0, .int s1, .ref s2] h = Rf d 190 53 [a0, a1, a2, .int x] [.int x, .int s0, .int s1, .ref s2] h := Rf_go ((stp_of c190_52).trans rfl)
theorem c190_53 : cd 190 53 = some (53, .invokevirtual 189, 3, [(12, 190)]) := by decide +kernel
theorem xc190_53 {d : Nat} {a0 a1 a2 a3 : Value} {s0 : Int32} {s1 : Int32} {s2 : Int32} {s3 : Nat} {h : AHp} {h1 : AHp} {v : Int32} (hr : cls (h.1 s3) = 12) (hq : Rf d 190 0 [.ref s3, .int s2, .int s1, .int s0] [] h = some (some (.int v), h1)) : Rf (d + 1) 190 53 [a0, a1, a2, a3] [.int s0, .int s1, .int s2, .ref s3] h = Rf (d + 1) 190 56 [a0, a1, a2, a3] [.int v] h1 := clV (c := 190) (as := [.int s2, .int s1, .int s0]) c190_53 rfl (by simp [isV]) (by rw [hr]; rfl) hq
theorem c190_56 : cd 190 56 = some (56, .ireturn, 1, []) := by decide +kernel
theorem x190_56 {d : Nat} {a0 a1 a2 a3 : Value} {s0 : Int32} {h : AHp} : Rf d 190 56 [a0, a1, a2, a3] [.int s0] h = some (some (.int s0), h) := Rf_end (by rw [stp_of c190_56]; simp only [stpI]; rw [if_pos (show retI (mH 190).2.2.1 s0 = true from retI_int)])
theorem c190_26 : cd 190 26 = some (26, .aload_n 0, 1, []) := by decide +kernel
theorem x190_26 {d : Nat} {a1 a2 a3 : Value} {x : Nat} {h : AHp} : Rf d 190 26 [.ref x, a1, a2, a3] [] h = Rf d 190 27 [.ref x, a1, a2, a3] [.ref x] h := Rf_go ((stp_of c190_26).trans rfl)
theorem c190_27 : cd 190 27 = some (27, .bipush 11, 2, []) := by decide +kernel
theorem x190_27 {d : Nat} {a0 a1 a2 a3 : Value} {s0 : Nat} {h : AHp} : Rf d 190 27 [a0, a1, a2, a3] [.ref s0] h = Rf d 190 29 [a0, a1, a2, a3] [.int 11, .ref s0] h := Rf_go ((stp_of c190_27).trans rfl)
theorem c190_29 : cd 190 29 = some (29, .invokevirtual 186, 3, [(12, 189)]) := by decide +kernel
theorem xc190_29 {d : Nat} {a0 a1 a2 a3 : Value} {s0 : Int32} {s1 : Nat} {h : AHp} {h1 : AHp} (hr : cls (h.1 s1) = 12) (hq : Rf d 189 0 [.ref s1, .int s0] [] h = some (none, h1)) : Rf (d + 1) 190 29 [a0, a1, a2, a3] [.int s0, .ref s1] h = Rf (d + 1) 190 32 [a0, a1, a2, a3] [] h1 := clV (c := 189) (as := [.int s0]) c190_29 rfl (by simp [isV]) (by rw [hr]; rfl) hq
theorem c190_32 : cd 190 32 = some (32, .aload_n 0, 1, []) := by decide +kernel
theorem x190_32 {d : Nat} {a1 a2 a3 : Value} {x : Nat} {h : AHp} : Rf d 190 32 [.ref x, a1, a2, a3] [] h = Rf d 190 33 [.ref x, a1, a2, a3] [.ref x] h := Rf_go ((stp_of c190_32).trans rfl)
theorem c190_33 : cd 190 33 = some (33, .iconst 0, 1, []) := by decide +kernel
theorem x190_33 {d : Nat} {a0 a1 a2 a3 : Value} {s0 : Nat} {h : AHp} : Rf d 190 33 [a0, a1, a2, a3] [.ref s0] h = Rf d 190 34 [a0, a1, a2, a3] [.int 0, .ref s0] h := Rf_go ((stp_of c190_33).trans rfl)
theorem c190_34 : cd 190 34 = some (34, .iload_n 2, 1, []) := by decide +kernel
theorem x190_34 {d : Nat} {a0 a1 a3 : Value} {s0 : Int32} {s1 : Nat} {x : Int32} {h : AHp} : Rf d 190 34 [a0, a1, .int x, a3] [.int s0, .ref s1] h = Rf d 190 35 [a0, a1, .int x, a3] [.int x, .int s0, .ref s1] h := Rf_go ((stp_of c190_34).trans rfl)
theorem c190_35 : cd 190 35 = some (35, .iload_n 3, 1, []) := by decide +kernel
theorem x190_35 {d : Nat} {a0 a1 a2 : Value} {s0 : Int32} {s1 : Int32} {s2 : Nat} {x : Int32} {h : AHp} : Rf d 190 35 [a0, a1, a2, .int x] [.int s0, .int s1, .ref s2] h = Rf d 190 36 [a0, a1, a2, .int x] [.int x, .int s0, .int s1, .ref s2] h := Rf_go ((stp_of c190_35).trans rfl)
theorem c190_36 : cd 190 36 = some (36, .iconst 3, 1, []) := by decide +kernel
theorem x190_36 {d : Nat} {a0 a1 a2 a3 : Value} {s0 : Int32} {s1 : Int32} {s2 : Int32} {s3 : Nat} {h : AHp} : Rf d 190 36 [a0, a1, a2, a3] [.int s0, .int s1, .int s2, .ref s3] h = Rf d 190 37 [a0, a1, a2, a3] [.int 3, .int s0, .int s1, .int s2, .ref s3] h := Rf_go ((stp_of c190_36).trans rfl)
theorem c190_37 : cd 190 37 = some (37, .imul, 1, []) := by decide +kernel
theorem x190_37 {d : Nat} {a0 a1 a2 a3 : Value} {s0 : Int32} {s1 : Int32} {s2 : Int32} {s3 : Int32} {s4 : Nat} {h : AHp} : Rf d 190 37 [a0, a1, a2, a3] [.int s0, .int s1, .int s2, .int s3, .ref s4] h = Rf d 190 38 [a0, a1, a2, a3] [.int (s1 * s0), .int s2, .int s3, .ref s4] h := Rf_go ((stp_of c190_37).trans rfl)
theorem c190_38 : cd 190 38 = some (38, .invokevirtual 189, 3, [(12, 190)]) := by decide +kernel
theorem xc190_38 {d : Nat} {a0 a1 a2 a3 : Value} {s0 : Int32} {s1 : Int32} {s2 : Int32} {s3 : Nat} {h : AHp} {h1 : AHp} {v : Int32} (hr : cls (h.1 s3) = 12) (hq : Rf d 190 0 [.ref s3, .int s2, .int s1, .int s0] [] h = some (some (.int v), h1)) : Rf (d + 1) 190 38 [a0, a1, a2, a3] [.int s0, .int s1, .int s2, .ref s3] h = Rf (d + 1) 190 41 [a0, a1, a2, a3] [.int v] h1 := clV (c := 190) (as := [.int s2, .int s1, .int s0]) c190_38 rfl (by simp [isV]) (by rw [hr]; rfl) hq
theorem c190_41 : cd 190 41 = some (41, .ireturn, 1, []) := by decide +kernel
theorem x190_41 {d : Nat} {a0 a1 a2 a3 : Value} {s0 : Int32} {h : AHp} : Rf d 190 41 [a0, a1, a2, a3] [.int s0] h = some (some (.int s0), h) := Rf_end (by rw [stp_of c190_41]; simp only [stpI]; rw [if_pos (show retI (mH 190).2.2.1 s0 = true from retI_int)])
theorem c190_5 : cd 190 5 = some (5, .aload_n 0, 1, []) := by decide +kernel
theorem x190_5 {d : Nat} {a1 a2 a3 : Value} {x : Nat} {h : AHp} : Rf d 190 5 [.ref x, a1, a2, a3] [] h = Rf d 190 6 [.ref x, a1, a2, a3] [.ref x] h := Rf_go ((stp_of c190_5).trans rfl)
theorem c190_6 : cd 190 6 = some (6, .bipush 51, 2, []) := by decide +kernel
theorem x190_6 {d : Nat} {a0 a1 a2 a3 : Value} {s0 : Nat} {h : AHp} : Rf d 190 6 [a0, a1, a2, a3] [.ref s0] h = Rf d 190 8 [a0, a1, a2, a3] [.int 51, .ref s0] h := Rf_go ((stp_of c190_6).trans rfl)
theorem c190_8 : cd 190 8 = some (8, .invokevirtual 186, 3, [(12, 189)]) := by decide +kernel
theorem xc190_8 {d : Nat} {a0 a1 a2 a3 : Value} {s0 : Int32} {s1 : Nat} {h : AHp} {h1 : AHp} (hr : cls (h.1 s1) = 12) (hq : Rf d 189 0 [.ref s1, .int s0] [] h = some (none, h1)) : Rf (d + 1) 190 8 [a0, a1, a2, a3] [.int s0, .ref s1] h = Rf (d + 1) 190 11 [a0, a1, a2, a3] [] h1 := clV (c := 189) (as := [.int s0]) c190_8 rfl (by simp [isV]) (by rw [hr]; rfl) hq
theorem c190_11 : cd 190 11 = some (11, .aload_n 0, 1, []) := by decide +kernel
theorem x190_11 {d : Nat} {a1 a2 a3 : Value} {x : Nat} {h : AHp} : Rf d 190 11 [.ref x, a1, a2, a3] [] h = Rf d 190 12 [.ref x, a1, a2, a3] [.ref x] h := Rf_go ((stp_of c190_11).trans rfl)
theorem c190_12 : cd 190 12 = some (12, .iconst 2, 1, []) := by decide +kernel
theorem x190_12 {d : Nat} {a0 a1 a2 a3 : Value} {s0 : Nat} {h : AHp} : Rf d 190 12 [a0, a1, a2, a3] [.ref s0] h = Rf d 190 13 [a0, a1, a2, a3] [.int 2, .ref s0] h := Rf_go ((stp_of c190_12).trans rfl)
theorem c190_13 : cd 190 13 = some (13, .iload_n 2, 1, []) := by decide +kernel
theorem x190_13 {d : Nat} {a0 a1 a3 : Value} {s0 : Int32} {s1 : Nat} {x : Int32} {h : AHp} : Rf d 190 13 [a0, a1, .int x, a3] [.int s0, .ref s1] h = Rf d 190 14 [a0, a1, .int x, a3] [.int x, .int s0, .ref s1] h := Rf_go ((stp_of c190_13).trans rfl)
theorem c190_14 : cd 190 14 = some (14, .iload_n 3, 1, []) := by decide +kernel
theorem x190_14 {d : Nat} {a0 a1 a2 : Value} {s0 : Int32} {s1 : Int32} {s2 : Nat} {x : Int32} {h : AHp} : Rf d 190 14 [a0, a1, a2, .int x] [.int s0, .int s1, .ref s2] h = Rf d 190 15 [a0, a1, a2, .int x] [.int x, .int s0, .int s1, .ref s2] h := Rf_go ((stp_of c190_14).trans rfl)
theorem c190_15 : cd 190 15 = some (15, .invokevirtual 189, 3, [(12, 190)]) := by decide +kernel
theorem xc190_15 {d : Nat} {a0 a1 a2 a3 : Value} {s0 : Int32} {s1 : Int32} {s2 : Int32} {s3 : Nat} {h : AHp} {h1 : AHp} {v : Int32} (hr : cls (h.1 s3) = 12) (hq : Rf d 190 0 [.ref s3, .int s2, .int s1, .int s0] [] h = some (some (.int v), h1)) : Rf (d + 1) 190 15 [a0, a1, a2, a3] [.int s0, .int s1, .int s2, .ref s3] h = Rf (d + 1) 190 18 [a0, a1, a2, a3] [.int v] h1 := clV (c := 190) (as := [.int s2, .int s1, .int s0]) c190_15 rfl (by simp [isV]) (by rw [hr]; rfl) hq
theorem c190_18 : cd 190 18 = some (18, .iload_n 2, 1, []) := by decide +kernel
theorem x190_18 {d : Nat} {a0 a1 a3 : Value} {s0 : Int32} {x : Int32} {h : AHp} : Rf d 190 18 [a0, a1, .int x, a3] [.int s0] h = Rf d 190 19 [a0, a1, .int x, a3] [.int x, .int s0] h := Rf_go ((stp_of c190_18).trans rfl)
theorem c190_19 : cd 190 19 = some (19, .ixor, 1, []) := by decide +kernel
theorem x190_19 {d : Nat} {a0 a1 a2 a3 : Value} {s0 : Int32} {s1 : Int32} {h : AHp} : Rf d 190 19 [a0, a1, a2, a3] [.int s0, .int s1] h = Rf d 190 20 [a0, a1, a2, a3] [.int (s1 ^^^ s0)] h := Rf_go ((stp_of c190_19).trans rfl)
theorem c190_20 : cd 190 20 = some (20, .ireturn, 1, []) := by decide +kernel
theorem x190_20 {d : Nat} {a0 a1 a2 a3 : Value} {s0 : Int32} {h : AHp} : Rf d 190 20 [a0, a1, a2, a3] [.int s0] h = some (some (.int s0), h) := Rf_end (by rw [stp_of c190_20]; simp only [stpI]; rw [if_pos (show retI (mH 190).2.2.1 s0 = true from retI_int)])
-- 191: X12_asks
theorem c191_0 : cd 191 0 = some (0, .iload_n 1, 1, []) := by decide +kernel
theorem x191_0 {d : Nat} {a0 a2 a3 : Value} {x : Int32} {h : AHp} : Rf d 191 0 [a0, .int x, a2, a3] [] h = Rf d 191 1 [a0, .int x, a2, a3] [.int x] h := Rf_go ((stp_of c191_0).trans rfl)
theorem c191_1 : cd 191 1 = some (1, .iconst 2, 1, []) := by decide +kernel
theorem x191_1 {d : Nat} {a0 a1 a2 a3 : Value} {s0 : Int32} {h : AHp} : Rf d 191 1 [a0, a1, a2, a3] [.int s0] h = Rf d 191 2 [a0, a1, a2, a3] [.int 2, .int s0] h := Rf_go ((stp_of c191_1).trans rfl)
theorem c191_2 : cd 191 2 = some (2, .if_icmp .ne 18, 3, [(20, 0)]) := by decide +kernel
theorem x191_2 {d : Nat} {a0 a1 a2 a3 : Value} {s0 : Int32} {s1 : Int32} {h : AHp} : Rf d 191 2 [a0, a1, a2, a3] [.int s0, .int s1] h = if s1 = s0 then Rf d 191 5 [a0, a1, a2, a3] [] h else Rf d 191 20 [a0, a1, a2, a3] [] h := Rf_brn ((stp_of c191_2).trans rfl)
theorem c191_20 : cd 191 20 = some (20, .iload_n 1, 1, []) := by decide +kernel
theorem x191_20 {d : Nat} {a0 a2 a3 : Value} {x : Int32} {h : AHp} : Rf d 191 20 [a0, .int x, a2, a3] [] h = Rf d 191 21 [a0, .int x, a2, a3] [.int x] h := Rf_go ((stp_of c191_20).trans rfl)
theorem c191_21 : cd 191 21 = some (21, .bipush 6, 2, []) := by decide +kernel
theorem x191_21 {d : Nat} {a0 a1 a2 a3 : Value} {s0 : Int32} {h : AHp} : Rf d 191 21 [a0, a1, a2, a3] [.int s0] h = Rf d 191 23 [a0, a1, a2, a3] [.int 6, .int s0] h := Rf_go ((stp_of c191_21).trans rfl)
theorem c191_23 : cd 191 23 = some (23, .if_icmp .ne 27, 3, [(50, 0)]) := by decide +kernel
theorem x191_23 {d : Nat} {a0 a1 a2 a3 : Value} {s0 : Int32} {s1 : Int32} {h : AHp} : Rf d 191 23 [a0, a1, a2, a3] [.int s0, .int s1] h = if s1 = s0 then Rf d 191 26 [a0, a1, a2, a3] [] h else Rf d 191 50 [a0, a1, a2, a3] [] h := Rf_brn ((stp_of c191_23).trans rfl)
theorem c191_50 : cd 191 50 = some (50, .iload_n 1, 1, []) := by decide +kernel
theorem x191_50 {d : Nat} {a0 a2 a3 : Value} {x : Int32} {h : AHp} : Rf d 191 50 [a0, .int x, a2, a3] [] h = Rf d 191 51 [a0, .int x, a2, a3] [.int x] h := Rf_go ((stp_of c191_50).trans rfl)
theorem c191_51 : cd 191 51 = some (51, .ifCond .le 14, 3, [(65, 0)]) := by decide +kernel
theorem x191_51 {d : Nat} {a0 a1 a2 a3 : Value} {s0 : Int32} {h : AHp} : Rf d 191 51 [a0, a1, a2, a3] [.int s0] h = if 0 < s0 then Rf d 191 54 [a0, a1, a2, a3] [] h else Rf d 191 65 [a0, a1, a2, a3] [] h := Rf_brn ((stp_of c191_51).trans rfl)
theorem c191_65 : cd 191 65 = some (65, .aload_n 0, 1, []) := by decide +kernel
theorem x191_65 {d : Nat} {a1 a2 a3 : Value} {x : Nat} {h : AHp} : Rf d 191 65 [.ref x, a1, a2, a3] [] h = Rf d 191 66 [.ref x, a1, a2, a3] [.ref x] h := Rf_go ((stp_of c191_65).trans rfl)
theorem c191_66 : cd 191 66 = some (66, .iconst 2, 1, []) := by decide +kernel
theorem x191_66 {d : Nat} {a0 a1 a2 a3 : Value} {s0 : Nat} {h : AHp} : Rf d 191 66 [a0, a1, a2, a3] [.ref s0] h = Rf d 191 67 [a0, a1, a2, a3] [.int 2, .ref s0] h := Rf_go ((stp_of c191_66).trans rfl)
theorem c191_67 : cd 191 67 = some (67, .invokevirtual 186, 3, [(12, 189)]) := by decide +kernel
theorem xc191_67 {d : Nat} {a0 a1 a2 a3 : Value} {s0 : Int32} {s1 : Nat} {h : AHp} {h1 : AHp} (hr : cls (h.1 s1) = 12) (hq : Rf d 189 0 [.ref s1, .int s0] [] h = some (none, h1)) : Rf (d + 1) 191 67 [a0, a1, a2, a3] [.int s0, .ref s1] h = Rf (d + 1) 191 70 [a0, a1, a2, a3] [] h1 := clV (c := 189) (as := [.int s0]) c191_67 rfl (by simp [isV]) (by rw [hr]; rfl) hq
theorem c191_70 : cd 191 70 = some (70, .aload_n 0, 1, []) := by decide +kernel
theorem x191_70 {d : Nat} {a1 a2 a3 : Value} {x : Nat} {h : AHp} : Rf d 191 70 [.ref x, a1, a2, a3] [] h = Rf d 191 71 [.ref x, a1, a2, a3] [.ref x] h := Rf_go ((stp_of c191_70).trans rfl)
theorem c191_71 : cd 191 71 = some (71, .aload_n 0, 1, []) := by decide +kernel
theorem x191_71 {d : Nat} {a1 a2 a3 : Value} {s0 : Nat} {x : Nat} {h : AHp} : Rf d 191 71 [.ref x, a1, a2, a3] [.ref s0] h = Rf d 191 72 [.ref x, a1, a2, a3] [.ref x, .ref s0] h := Rf_go ((stp_of c191_71).trans rfl)
theorem c191_72 : cd 191 72 = some (72, .getfield 9, 3, [(12, 0)]) := by decide +kernel
theorem x191_72 {d : Nat} {a0 a1 a2 a3 : Value} {s0 : Nat} {s1 : Nat} {h : AHp} : Rf d 191 72 [a0, a1, a2, a3] [.ref s0, .ref s1] h = if cls (h.1 s0) = 12 ∧ oKr (h.1 s0) 0 = true then Rf d 191 75 [a0, a1, a2, a3] [.ref (oR (h.1 s0) 0), .ref s1] h else Rx d 191 72 [a0, a1, a2, a3] [.ref s0, .ref s1] h := getR c191_72
theorem c191_75 : cd 191 75 = some (75, .bipush 60, 2, []) := by decide +kernel
theorem x191_75 {d : Nat} {a0 a1 a2 a3 : Value} {s0 : Nat} {s1 : Nat} {h : AHp} : Rf d 191 75 [a0, a1, a2, a3] [.ref s0, .ref s1] h = Rf d 191 77 [a0, a1, a2, a3] [.int 60, .ref s0, .ref s1] h := Rf_go ((stp_of c191_75).trans rfl)
theorem c191_77 : cd 191 77 = some (77, .iload_n 2, 1, []) := by decide +kernel
theorem x191_77 {d : Nat} {a0 a1 a3 : Value} {s0 : Int32} {s1 : Nat} {s2 : Nat} {x : Int32} {h : AHp} : Rf d 191 77 [a0, a1, .int x, a3] [.int s0, .ref s1, .ref s2] h = Rf d 191 78 [a0, a1, .int x, a3] [.int x, .int s0, .ref s1, .ref s2] h := Rf_go ((stp_of c191_77).trans rfl)
theorem c191_78 : cd 191 78 = some (78, .iadd, 1, []) := by decide +kernel
theorem x191_78 {d : Nat} {a0 a1 a2 a3 : Value} {s0 : Int32} {s1 : Int32} {s2 : Nat} {s3 : Nat} {h : AHp} : Rf d 191 78 [a0, a1, a2, a3] [.int s0, .int s1, .ref s2, .ref s3] h = Rf d 191 79 [a0, a1, a2, a3] [.int (s1 + s0), .ref s2, .ref s3] h := Rf_go ((stp_of c191_78).trans rfl)
theorem c191_79 : cd 191 79 = some (79, .iaload, 1, []) := by decide +kernel
theorem x191_79 {d : Nat} {a0 a1 a2 a3 : Value} {s0 : Int32} {s1 : Nat} {s2 : Nat} {h : AHp} : Rf d 191 79 [a0, a1, a2, a3] [.int s0, .ref s1, .ref s2] h = if (aT (h.1 s1) = 0 ∨ aT (h.1 s1) = 10) ∧ inB s0 (aN (h.1 s1)) = true then Rf d 191 80 [a0, a1, a2, a3] [.int (aF (h.1 s1) s0.toNatClampNeg), .ref s2] h else Rx d 191 79 [a0, a1, a2, a3] [.int s0, .ref s1, .ref s2] h := ldI c191_79
theorem c191_80 : cd 191 80 = some (80, .iload_n 2, 1, []) := by decide +kernel
theorem x191_80 {d : Nat} {a0 a1 a3 : Value} {s0 : Int32} {s1 : Nat} {x : Int32} {h : AHp} : Rf d 191 80 [a0, a1, .int x, a3] [.int s0, .ref s1] h = Rf d 191 81 [a0, a1, .int x, a3] [.int x, .int s0, .ref s1] h := Rf_go ((stp_of c191_80).trans rfl)
theorem c191_81 : cd 191 81 = some (81, .iload_n 3, 1, []) := by decide +kernel
theorem x191_81 {d : Nat} {a0 a1 a2 : Value} {s0 : Int32} {s1 : Int32} {s2 : Nat} {x : Int32} {h : AHp} : Rf d 191 81 [a0, a1, a2, .int x] [.int s0, .int s1, .ref s2] h = Rf d 191 82 [a0, a1, a2, .int x] [.int x, .int s0, .int s1, .ref s2] h := Rf_go ((stp_of c191_81).trans rfl)
theorem c191_82 : cd 191 82 = some (82, .invokevirtual 189, 3, [(12, 190)]) := by decide +kernel
theorem xc191_82 {d : Nat} {a0 a1 a2 a3 : Value} {s0 : Int32} {s1 : Int32} {s2 : Int32} {s3 : Nat} {h : AHp} {h1 : AHp} {v : Int32} (hr : cls (h.1 s3) = 12) (hq : Rf d 190 0 [.ref s3, .int s2, .int s1, .int s0] [] h = some (some (.int v), h1)) : Rf (d + 1) 191 82 [a0, a1, a2, a3] [.int s0, .int s1, .int s2, .ref s3] h = Rf (d + 1) 191 85 [a0, a1, a2, a3] [.int v] h1 := clV (c := 190) (as := [.int s2, .int s1, .int s0]) c191_82 rfl (by simp [isV]) (by rw [hr]; rfl) hq
theorem c191_85 : cd 191 85 = some (85, .aload_n 0, 1, []) := by decide +kernel
theorem x191_85 {d : Nat} {a1 a2 a3 : Value} {s0 : Int32} {x : Nat} {h : AHp} : Rf d 191 85 [.ref x, a1, a2, a3] [.int s0] h = Rf d 191 86 [.ref x, a1, a2, a3] [.ref x, .int s0] h := Rf_go ((stp_of c191_85).trans rfl)
theorem c191_86 : cd 191 86 = some (86, .getfield 9, 3, [(12, 0)]) := by decide +kernel
theorem x191_86 {d : Nat} {a0 a1 a2 a3 : Value} {s0 : Nat} {s1 : Int32} {h : AHp} : Rf d 191 86 [a0, a1, a2, a3] [.ref s0, .int s1] h = if cls (h.1 s0) = 12 ∧ oKr (h.1 s0) 0 = true then Rf d 191 89 [a0, a1, a2, a3] [.ref (oR (h.1 s0) 0), .int s1] h else Rx d 191 86 [a0, a1, a2, a3] [.ref s0, .int s1] h := getR c191_86
theorem c191_89 : cd 191 89 = some (89, .bipush 70, 2, []) := by decide +kernel
theorem x191_89 {d : Nat} {a0 a1 a2 a3 : Value} {s0 : Nat} {s1 : Int32} {h : AHp} : Rf d 191 89 [a0, a1, a2, a3] [.ref s0, .int s1] h = Rf d 191 91 [a0, a1, a2, a3] [.int 70, .ref s0, .int s1] h := Rf_go ((stp_of c191_89).trans rfl)
theorem c191_91 : cd 191 91 = some (91, .iload_n 2, 1, []) := by decide +kernel
theorem x191_91 {d : Nat} {a0 a1 a3 : Value} {s0 : Int32} {s1 : Nat} {s2 : Int32} {x : Int32} {h : AHp} : Rf d 191 91 [a0, a1, .int x, a3] [.int s0, .ref s1, .int s2] h = Rf d 191 92 [a0, a1, .int x, a3] [.int x, .int s0, .ref s1, .int s2] h := Rf_go ((stp_of c191_91).trans rfl)
theorem c191_92 : cd 191 92 = some (92, .iadd, 1, []) := by decide +kernel
theorem x191_92 {d : Nat} {a0 a1 a2 a3 : Value} {s0 : Int32} {s1 : Int32} {s2 : Nat} {s3 : Int32} {h : AHp} : Rf d 191 92 [a0, a1, a2, a3] [.int s0, .int s1, .ref s2, .int s3] h = Rf d 191 93 [a0, a1, a2, a3] [.int (s1 + s0), .ref s2, .int s3] h := Rf_go ((stp_of c191_92).trans rfl)
theorem c191_93 : cd 191 93 = some (93, .iaload, 1, []) := by decide +kernel
theorem x191_93 {d : Nat} {a0 a1 a2 a3 : Value} {s0 : Int32} {s1 : Nat} {s2 : Int32} {h : AHp} : Rf d 191 93 [a0, a1, a2, a3] [.int s0, .ref s1, .int s2] h = if (aT (h.1 s1) = 0 ∨ aT (h.1 s1) = 10) ∧ inB s0 (aN (h.1 s1)) = true then Rf d 191 94 [a0, a1, a2, a3] [.int (aF (h.1 s1) s0.toNatClampNeg), .int s2] h else Rx d 191 93 [a0, a1, a2, a3] [.int s0, .ref s1, .int s2] h := ldI c191_93
theorem c191_94 : cd 191 94 = some (94, .isub, 1, []) := by decide +kernel
theorem x191_94 {d : Nat} {a0 a1 a2 a3 : Value} {s0 : Int32} {s1 : Int32} {h : AHp} : Rf d 191 94 [a0, a1, a2, a3] [.int s0, .int s1] h = Rf d 191 95 [a0, a1, a2, a3] [.int (s1 - s0)] h := Rf_go ((stp_of c191_94).trans rfl)
theorem c191_95 : cd 191 95 = some (95, .ireturn, 1, []) := by decide +kernel
theorem x191_95 {d : Nat} {a0 a1 a2 a3 : Value} {s0 : Int32} {h : AHp} : Rf d 191 95 [a0, a1, a2, a3] [.int s0] h = some (some (.int s0), h) := Rf_end (by rw [stp_of c191_95]; simp only [stpI]; rw [if_pos (show retI (mH 191).2.2.1 s0 = true from retI_int)])
theorem c191_54 : cd 191 54 = some (54, .aload_n 0, 1, []) := by decide +kernel
theorem x191_54 {d : Nat} {a1 a2 a3 : Value} {x : Nat} {h : AHp} : Rf d 191 54 [.ref x, a1, a2, a3] [] h = Rf d 191 55 [.ref x, a1, a2, a3] [.ref x] h := Rf_go ((stp_of c191_54).trans rfl)
theorem c191_55 : cd 191 55 = some (55, .iload_n 1, 1, []) := by decide +kernel
theorem x191_55 {d : Nat} {a0 a2 a3 : Value} {s0 : Nat} {x : Int32} {h : AHp} : Rf d 191 55 [a0, .int x, a2, a3] [.ref s0] h = Rf d 191 56 [a0, .int x, a2, a3] [.int x, .ref s0] h := Rf_go ((stp_of c191_55).trans rfl)
theorem c191_56 : cd 191 56 = some (56, .invokestatic 192, 3, [(0, 188)]) := by decide +kernel
theorem xc191_56 {d : Nat} {a0 a1 a2 a3 : Value} {s0 : Int32} {s1 : Nat} {h : AHp} {h1 : AHp} {v : Int32} (hq : Rf d 188 0 [.int s0] [] h = some (some (.int v), h1)) : Rf (d + 1) 191 56 [a0, a1, a2, a3] [.int s0, .ref s1] h = Rf (d + 1) 191 59 [a0, a1, a2, a3] [.int v, .ref s1] h1 := clS (as := [.int s0]) c191_56 rfl rfl (by simp [isV]) hq
theorem c191_59 : cd 191 59 = some (59, .iload_n 2, 1, []) := by decide +kernel
theorem x191_59 {d : Nat} {a0 a1 a3 : Value} {s0 : Int32} {s1 : Nat} {x : Int32} {h : AHp} : Rf d 191 59 [a0, a1, .int x, a3] [.int s0, .ref s1] h = Rf d 191 60 [a0, a1, .int x, a3] [.int x, .int s0, .ref s1] h := Rf_go ((stp_of c191_59).trans rfl)
theorem c191_60 : cd 191 60 = some (60, .iload_n 3, 1, []) := by decide +kernel
theorem x191_60 {d : Nat} {a0 a1 a2 : Value} {s0 : Int32} {s1 : Int32} {s2 : Nat} {x : Int32} {h : AHp} : Rf d 191 60 [a0, a1, a2, .int x] [.int s0, .int s1, .ref s2] h = Rf d 191 61 [a0, a1, a2, .int x] [.int x, .int s0, .int s1, .ref s2] h := Rf_go ((stp_of c191_60).trans rfl)
theorem c191_61 : cd 191 61 = some (61, .invokevirtual 195, 3, [(12, 191)]) := by decide +kernel
theorem xc191_61 {d : Nat} {a0 a1 a2 a3 : Value} {s0 : Int32} {s1 : Int32} {s2 : Int32} {s3 : Nat} {h : AHp} {h1 : AHp} {v : Int32} (hr : cls (h.1 s3) = 12) (hq : Rf d 191 0 [.ref s3, .int s2, .int s1, .int s0] [] h = some (some (.int v), h1)) : Rf (d + 1) 191 61 [a0, a1, a2, a3] [.int s0, .int s1, .int s2, .ref s3] h = Rf (d + 1) 191 64 [a0, a1, a2, a3] [.int v] h1 := clV (c := 191) (as := [.int s2, .int s1, .int s0]) c191_61 rfl (by simp [isV]) (by rw [hr]; rfl) hq
theorem c191_64 : cd 191 64 = some (64, .ireturn, 1, []) := by decide +kernel
theorem x191_64 {d : Nat} {a0 a1 a2 a3 : Value} {s0 : Int32} {h : AHp} : Rf d 191 64 [a0, a1, a2, a3] [.int s0] h = some (some (.int s0), h) := Rf_end (by rw [stp_of c191_64]; simp only [stpI]; rw [if_pos (show retI (mH 191).2.2.1 s0 = true from retI_int)])
theorem c191_26 : cd 191 26 = some (26, .aload_n 0, 1, []) := by decide +kernel
theorem x191_26 {d : Nat} {a1 a2 a3 : Value} {x : Nat} {h : AHp} : Rf d 191 26 [.ref x, a1, a2, a3] [] h = Rf d 191 27 [.ref x, a1, a2, a3] [.ref x] h := Rf_go ((stp_of c191_26).trans rfl)
theorem c191_27 : cd 191 27 = some (27, .bipush 61, 2, []) := by decide +kernel
theorem x191_27 {d : Nat} {a0 a1 a2 a3 : Value} {s0 : Nat} {h : AHp} : Rf d 191 27 [a0, a1, a2, a3] [.ref s0] h = Rf d 191 29 [a0, a1, a2, a3] [.int 61, .ref s0] h := Rf_go ((stp_of c191_27).trans rfl)
theorem c191_29 : cd 191 29 = some (29, .invokevirtual 186, 3, [(12, 189)]) := by decide +kernel
theorem xc191_29 {d : Nat} {a0 a1 a2 a3 : Value} {s0 : Int32} {s1 : Nat} {h : AHp} {h1 : AHp} (hr : cls (h.1 s1) = 12) (hq : Rf d 189 0 [.ref s1, .int s0] [] h = some (none, h1)) : Rf (d + 1) 191 29 [a0, a1, a2, a3] [.int s0, .ref s1] h = Rf (d + 1) 191 32 [a0, a1, a2, a3] [] h1 := clV (c := 189) (as := [.int s0]) c191_29 rfl (by simp [isV]) (by rw [hr]; rfl) hq
theorem c191_32 : cd 191 32 = some (32, .aload_n 0, 1, []) := by decide +kernel
theorem x191_32 {d : Nat} {a1 a2 a3 : Value} {x : Nat} {h : AHp} : Rf d 191 32 [.ref x, a1, a2, a3] [] h = Rf d 191 33 [.ref x, a1, a2, a3] [.ref x] h := Rf_go ((stp_of c191_32).trans rfl)
theorem c191_33 : cd 191 33 = some (33, .iconst 3, 1, []) := by decide +kernel
theorem x191_33 {d : Nat} {a0 a1 a2 a3 : Value} {s0 : Nat} {h : AHp} : Rf d 191 33 [a0, a1, a2, a3] [.ref s0] h = Rf d 191 34 [a0, a1, a2, a3] [.int 3, .ref s0] h := Rf_go ((stp_of c191_33).trans rfl)
theorem c191_34 : cd 191 34 = some (34, .iload_n 2, 1, []) := by decide +kernel
theorem x191_34 {d : Nat} {a0 a1 a3 : Value} {s0 : Int32} {s1 : Nat} {x : Int32} {h : AHp} : Rf d 191 34 [a0, a1, .int x, a3] [.int s0, .ref s1] h = Rf d 191 35 [a0, a1, .int x, a3] [.int x, .int s0, .ref s1] h := Rf_go ((stp_of c191_34).trans rfl)
theorem c191_35 : cd 191 35 = some (35, .iload_n 3, 1, []) := by decide +kernel
theorem x191_35 {d : Nat} {a0 a1 a2 : Value} {s0 : Int32} {s1 : Int32} {s2 : Nat} {x : Int32} {h : AHp} : Rf d 191 35 [a0, a1, a2, .int x] [.int s0, .int s1, .ref s2] h = Rf d 191 36 [a0, a1, a2, .int x] [.int x, .int s0, .int s1, .ref s2] h := Rf_go ((stp_of c191_35).trans rfl)
theorem c191_36 : cd 191 36 = some (36, .invokevirtual 195, 3, [(12, 191)]) := by decide +kernel
theorem xc191_36 {d : Nat} {a0 a1 a2 a3 : Value} {s0 : Int32} {s1 : Int32} {s2 : Int32} {s3 : Nat} {h : AHp} {h1 : AHp} {v : Int32} (hr : cls (h.1 s3) = 12) (hq : Rf d 191 0 [.ref s3, .int s2, .int s1, .int s0] [] h = some (some (.int v), h1)) : Rf (d + 1) 191 36 [a0, a1, a2, a3] [.int s0, .int s1, .int s2, .ref s3] h = Rf (d + 1) 191 39 [a0, a1, a2, a3] [.int v] h1 := clV (c := 191) (as := [.int s2, .int s1, .int s0]) c191_36 rfl (by simp [isV]) (by rw [hr]; rfl) hq
theorem c191_39 : cd 191 39 = some (39, .aload_n 0, 1, []) := by decide +kernel
theorem x191_39 {d : Nat} {a1 a2 a3 : Value} {s0 : Int32} {x : Nat} {h : AHp} : Rf d 191 39 [.ref x, a1, a2, a3] [.int s0] h = Rf d 191 40 [.ref x, a1, a2, a3] [.ref x, .int s0] h := Rf_go ((stp_of c191_39).trans rfl)
theorem c191_40 : cd 191 40 = some (40, .getfield 9, 3, [(12, 0)]) := by decide +kernel
theorem x191_40 {d : Nat} {a0 a1 a2 a3 : Value} {s0 : Nat} {s1 : Int32} {h : AHp} : Rf d 191 40 [a0, a1, a2, a3] [.ref s0, .int s1] h = if cls (h.1 s0) = 12 ∧ oKr (h.1 s0) 0 = true then Rf d 191 43 [a0, a1, a2, a3] [.ref (oR (h.1 s0) 0), .int s1] h else Rx d 191 40 [a0, a1, a2, a3] [.ref s0, .int s1] h := getR c191_40
theorem c191_43 : cd 191 43 = some (43, .bipush 70, 2, []) := by decide +kernel
theorem x191_43 {d : Nat} {a0 a1 a2 a3 : Value} {s0 : Nat} {s1 : Int32} {h : AHp} : Rf d 191 43 [a0, a1, a2, a3] [.ref s0, .int s1] h = Rf d 191 45 [a0, a1, a2, a3] [.int 70, .ref s0, .int s1] h := Rf_go ((stp_of c191_43).trans rfl)
theorem c191_45 : cd 191 45 = some (45, .iload_n 2, 1, []) := by decide +kernel
theorem x191_45 {d : Nat} {a0 a1 a3 : Value} {s0 : Int32} {s1 : Nat} {s2 : Int32} {x : Int32} {h : AHp} : Rf d 191 45 [a0, a1, .int x, a3] [.int s0, .ref s1, .int s2] h = Rf d 191 46 [a0, a1, .int x, a3] [.int x, .int s0, .ref s1, .int s2] h := Rf_go ((stp_of c191_45).trans rfl)
theorem c191_46 : cd 191 46 = some (46, .iadd, 1, []) := by decide +kernel
theorem x191_46 {d : Nat} {a0 a1 a2 a3 : Value} {s0 : Int32} {s1 : Int32} {s2 : Nat} {s3 : Int32} {h : AHp} : Rf d 191 46 [a0, a1, a2, a3] [.int s0, .int s1, .ref s2, .int s3] h = Rf d 191 47 [a0, a1, a2, a3] [.int (s1 + s0), .ref s2, .int s3] h := Rf_go ((stp_of c191_46).trans rfl)
theorem c191_47 : cd 191 47 = some (47, .iaload, 1, []) := by decide +kernel
theorem x191_47 {d : Nat} {a0 a1 a2 a3 : Value} {s0 : Int32} {s1 : Nat} {s2 : Int32} {h : AHp} : Rf d 191 47 [a0, a1, a2, a3] [.int s0, .ref s1, .int s2] h = if (aT (h.1 s1) = 0 ∨ aT (h.1 s1) = 10) ∧ inB s0 (aN (h.1 s1)) = true then Rf d 191 48 [a0, a1, a2, a3] [.int (aF (h.1 s1) s0.toNatClampNeg), .int s2] h else Rx d 191 47 [a0, a1, a2, a3] [.int s0, .ref s1, .int s2] h := ldI c191_47
theorem c191_48 : cd 191 48 = some (48, .iadd, 1, []) := by decide +kernel
theorem x191_48 {d : Nat} {a0 a1 a2 a3 : Value} {s0 : Int32} {s1 : Int32} {h : AHp} : Rf d 191 48 [a0, a1, a2, a3] [.int s0, .int s1] h = Rf d 191 49 [a0, a1, a2, a3] [.int (s1 + s0)] h := Rf_go ((stp_of c191_48).trans rfl)
theorem c191_49 : cd 191 49 = some (49, .ireturn, 1, []) := by decide +kernel
theorem x191_49 {d : Nat} {a0 a1 a2 a3 : Value} {s0 : Int32} {h : AHp} : Rf d 191 49 [a0, a1, a2, a3] [.int s0] h = some (some (.int s0), h) := Rf_end (by rw [stp_of c191_49]; simp only [stpI]; rw [if_pos (show retI (mH 191).2.2.1 s0 = true from retI_int)])
theorem c191_5 : cd 191 5 = some (5, .aload_n 0, 1, []) := by decide +kernel
theorem x191_5 {d : Nat} {a1 a2 a3 : Value} {x : Nat} {h : AHp} : Rf d 191 5 [.ref x, a1, a2, a3] [] h = Rf d 191 6 [.ref x, a1, a2, a3] [.ref x] h := Rf_go ((stp_of c191_5).trans rfl)
theorem c191_6 : cd 191 6 = some (6, .bipush 21, 2, []) := by decide +kernel
theorem x191_6 {d : Nat} {a0 a1 a2 a3 : Value} {s0 : Nat} {h : AHp} : Rf d 191 6 [a0, a1, a2, a3] [.ref s0] h = Rf d 191 8 [a0, a1, a2, a3] [.int 21, .ref s0] h := Rf_go ((stp_of c191_6).trans rfl)
theorem c191_8 : cd 191 8 = some (8, .invokevirtual 186, 3, [(12, 189)]) := by decide +kernel
theorem xc191_8 {d : Nat} {a0 a1 a2 a3 : Value} {s0 : Int32} {s1 : Nat} {h : AHp} {h1 : AHp} (hr : cls (h.1 s1) = 12) (hq : Rf d 189 0 [.ref s1, .int s0] [] h = some (none, h1)) : Rf (d + 1) 191 8 [a0, a1, a2, a3] [.int s0, .ref s1] h = Rf (d + 1) 191 11 [a0, a1, a2, a3] [] h1 := clV (c := 189) (as := [.int s0]) c191_8 rfl (by simp [isV]) (by rw [hr]; rfl) hq
theorem c191_11 : cd 191 11 = some (11, .aload_n 0, 1, []) := by decide +kernel
theorem x191_11 {d : Nat} {a1 a2 a3 : Value} {x : Nat} {h : AHp} : Rf d 191 11 [.ref x, a1, a2, a3] [] h = Rf d 191 12 [.ref x, a1, a2, a3] [.ref x] h := Rf_go ((stp_of c191_11).trans rfl)
theorem c191_12 : cd 191 12 = some (12, .iconst 0, 1, []) := by decide +kernel
theorem x191_12 {d : Nat} {a0 a1 a2 a3 : Value} {s0 : Nat} {h : AHp} : Rf d 191 12 [a0, a1, a2, a3] [.ref s0] h = Rf d 191 13 [a0, a1, a2, a3] [.int 0, .ref s0] h := Rf_go ((stp_of c191_12).trans rfl)
theorem c191_13 : cd 191 13 = some (13, .iload_n 2, 1, []) := by decide +kernel
theorem x191_13 {d : Nat} {a0 a1 a3 : Value} {s0 : Int32} {s1 : Nat} {x : Int32} {h : AHp} : Rf d 191 13 [a0, a1, .int x, a3] [.int s0, .ref s1] h = Rf d 191 14 [a0, a1, .int x, a3] [.int x, .int s0, .ref s1] h := Rf_go ((stp_of c191_13).trans rfl)
theorem c191_14 : cd 191 14 = some (14, .iload_n 3, 1, []) := by decide +kernel
theorem x191_14 {d : Nat} {a0 a1 a2 : Value} {s0 : Int32} {s1 : Int32} {s2 : Nat} {x : Int32} {h : AHp} : Rf d 191 14 [a0, a1, a2, .int x] [.int s0, .int s1, .ref s2] h = Rf d 191 15 [a0, a1, a2, .int x] [.int x, .int s0, .int s1, .ref s2] h := Rf_go ((stp_of c191_14).trans rfl)
theorem c191_15 : cd 191 15 = some (15, .invokevirtual 195, 3, [(12, 191)]) := by decide +kernel
theorem xc191_15 {d : Nat} {a0 a1 a2 a3 : Value} {s0 : Int32} {s1 : Int32} {s2 : Int32} {s3 : Nat} {h : AHp} {h1 : AHp} {v : Int32} (hr : cls (h.1 s3) = 12) (hq : Rf d 191 0 [.ref s3, .int s2, .int s1, .int s0] [] h = some (some (.int v), h1)) : Rf (d + 1) 191 15 [a0, a1, a2, a3] [.int s0, .int s1, .int s2, .ref s3] h = Rf (d + 1) 191 18 [a0, a1, a2, a3] [.int v] h1 := clV (c := 191) (as := [.int s2, .int s1, .int s0]) c191_15 rfl (by simp [isV]) (by rw [hr]; rfl) hq
theorem c191_18 : cd 191 18 = some (18, .ineg, 1, []) := by decide +kernel
theorem x191_18 {d : Nat} {a0 a1 a2 a3 : Value} {s0 : Int32} {h : AHp} : Rf d 191 18 [a0, a1, a2, a3] [.int s0] h = Rf d 191 19 [a0, a1, a2, a3] [.int (-s0)] h := Rf_go ((stp_of c191_18).trans rfl)
theorem c191_19 : cd 191 19 = some (19, .ireturn, 1, []) := by decide +kernel
theorem x191_19 {d : Nat} {a0 a1 a2 a3 : Value} {s0 : Int32} {h : AHp} : Rf d 191 19 [a0, a1, a2, a3] [.int s0] h = some (some (.int s0), h) := Rf_end (by rw [stp_of c191_19]; simp only [stpI]; rw [if_pos (show retI (mH 191).2.2.1 s0 = true from retI_int)])
-- 192: X12_tells
theorem c192_0 : cd 192 0 = some (0, .iload_n 1, 1, []) := by decide +kernel
theorem x192_0 {d : Nat} {a0 a2 a3 a4 : Value} {x : Int32} {h : AHp} : Rf d 192 0 [a0, .int x, a2, a3, a4] [] h = Rf d 192 1 [a0, .int x, a2, a3, a4] [.int x] h := Rf_go ((stp_of c192_0).trans rfl)
theorem c192_1 : cd 192 1 = some (1, .iconst 3, 1, []) := by decide +kernel
theorem x192_1 {d : Nat} {a0 a1 a2 a3 a4 : Value} {s0 : Int32} {h : AHp} : Rf d 192 1 [a0, a1, a2, a3, a4] [.int s0] h = Rf d 192 2 [a0, a1, a2, a3, a4] [.int 3, .int s0] h := Rf_go ((stp_of c192_1).trans rfl)
theorem c192_2 : cd 192 2 = some (2, .if_icmp .ne 20, 3, [(22, 0)]) := by decide +kernel
theorem x192_2 {d : Nat} {a0 a1 a2 a3 a4 : Value} {s0 : Int32} {s1 : Int32} {h : AHp} : Rf d 192 2 [a0, a1, a2, a3, a4] [.int s0, .int s1] h = if s1 = s0 then Rf d 192 5 [a0, a1, a2, a3, a4] [] h else Rf d 192 22 [a0, a1, a2, a3, a4] [] h := Rf_brn ((stp_of c192_2).trans rfl)
theorem c192_22 : cd 192 22 = some (22, .iload_n 1, 1, []) := by decide +kernel
theorem x192_22 {d : Nat} {a0 a2 a3 a4 : Value} {x : Int32} {h : AHp} : Rf d 192 22 [a0, .int x, a2, a3, a4] [] h = Rf d 192 23 [a0, .int x, a2, a3, a4] [.int x] h := Rf_go ((stp_of c192_22).trans rfl)
theorem c192_23 : cd 192 23 = some (23, .iconst 4, 1, []) := by decide +kernel
theorem x192_23 {d : Nat} {a0 a1 a2 a3 a4 : Value} {s0 : Int32} {h : AHp} : Rf d 192 23 [a0, a1, a2, a3, a4] [.int s0] h = Rf d 192 24 [a0, a1, a2, a3, a4] [.int 4, .int s0] h := Rf_go ((stp_of c192_23).trans rfl)
theorem c192_24 : cd 192 24 = some (24, .if_icmp .ne 39, 3, [(63, 0)]) := by decide +kernel
theorem x192_24 {d : Nat} {a0 a1 a2 a3 a4 : Value} {s0 : Int32} {s1 : Int32} {h : AHp} : Rf d 192 24 [a0, a1, a2, a3, a4] [.int s0, .int s1] h = if s1 = s0 then Rf d 192 27 [a0, a1, a2, a3, a4] [] h else Rf d 192 63 [a0, a1, a2, a3, a4] [] h := Rf_brn ((stp_of c192_24).trans rfl)
theorem c192_63 : cd 192 63 = some (63, .iload_n 1, 1, []) := by decide +kernel
theorem x192_63 {d : Nat} {a0 a2 a3 a4 : Value} {x : Int32} {h : AHp} : Rf d 192 63 [a0, .int x, a2, a3, a4] [] h = Rf d 192 64 [a0, .int x, a2, a3, a4] [.int x] h := Rf_go ((stp_of c192_63).trans rfl)
theorem c192_64 : cd 192 64 = some (64, .ifCond .le 14, 3, [(78, 0)]) := by decide +kernel
theorem x192_64 {d : Nat} {a0 a1 a2 a3 a4 : Value} {s0 : Int32} {h : AHp} : Rf d 192 64 [a0, a1, a2, a3, a4] [.int s0] h = if 0 < s0 then Rf d 192 67 [a0, a1, a2, a3, a4] [] h else Rf d 192 78 [a0, a1, a2, a3, a4] [] h := Rf_brn ((stp_of c192_64).trans rfl)
theorem c192_78 : cd 192 78 = some (78, .aload_n 0, 1, []) := by decide +kernel
theorem x192_78 {d : Nat} {a1 a2 a3 a4 : Value} {x : Nat} {h : AHp} : Rf d 192 78 [.ref x, a1, a2, a3, a4] [] h = Rf d 192 79 [.ref x, a1, a2, a3, a4] [.ref x] h := Rf_go ((stp_of c192_78).trans rfl)
theorem c192_79 : cd 192 79 = some (79, .iconst 3, 1, []) := by decide +kernel
theorem x192_79 {d : Nat} {a0 a1 a2 a3 a4 : Value} {s0 : Nat} {h : AHp} : Rf d 192 79 [a0, a1, a2, a3, a4] [.ref s0] h = Rf d 192 80 [a0, a1, a2, a3, a4] [.int 3, .ref s0] h := Rf_go ((stp_of c192_79).trans rfl)
theorem c192_80 : cd 192 80 = some (80, .invokevirtual 186, 3, [(12, 189)]) := by decide +kernel
theorem xc192_80 {d : Nat} {a0 a1 a2 a3 a4 : Value} {s0 : Int32} {s1 : Nat} {h : AHp} {h1 : AHp} (hr : cls (h.1 s1) = 12) (hq : Rf d 189 0 [.ref s1, .int s0] [] h = some (none, h1)) : Rf (d + 1) 192 80 [a0, a1, a2, a3, a4] [.int s0, .ref s1] h = Rf (d + 1) 192 83 [a0, a1, a2, a3, a4] [] h1 := clV (c := 189) (as := [.int s0]) c192_80 rfl (by simp [isV]) (by rw [hr]; rfl) hq
theorem c192_83 : cd 192 83 = some (83, .aload_n 0, 1, []) := by decide +kernel
theorem x192_83 {d : Nat} {a1 a2 a3 a4 : Value} {x : Nat} {h : AHp} : Rf d 192 83 [.ref x, a1, a2, a3, a4] [] h = Rf d 192 84 [.ref x, a1, a2, a3, a4] [.ref x] h := Rf_go ((stp_of c192_83).trans rfl)
theorem c192_84 : cd 192 84 = some (84, .aload_n 0, 1, []) := by decide +kernel
theorem x192_84 {d : Nat} {a1 a2 a3 a4 : Value} {s0 : Nat} {x : Nat} {h : AHp} : Rf d 192 84 [.ref x, a1, a2, a3, a4] [.ref s0] h = Rf d 192 85 [.ref x, a1, a2, a3, a4] [.ref x, .ref s0] h := Rf_go ((stp_of c192_84).trans rfl)
theorem c192_85 : cd 192 85 = some (85, .getfield 9, 3, [(12, 0)]) := by decide +kernel
theorem x192_85 {d : Nat} {a0 a1 a2 a3 a4 : Value} {s0 : Nat} {s1 : Nat} {h : AHp} : Rf d 192 85 [a0, a1, a2, a3, a4] [.ref s0, .ref s1] h = if cls (h.1 s0) = 12 ∧ oKr (h.1 s0) 0 = true then Rf d 192 88 [a0, a1, a2, a3, a4] [.ref (oR (h.1 s0) 0), .ref s1] h else Rx d 192 85 [a0, a1, a2, a3, a4] [.ref s0, .ref s1] h := getR c192_85
theorem c192_88 : cd 192 88 = some (88, .bipush 60, 2, []) := by decide +kernel
theorem x192_88 {d : Nat} {a0 a1 a2 a3 a4 : Value} {s0 : Nat} {s1 : Nat} {h : AHp} : Rf d 192 88 [a0, a1, a2, a3, a4] [.ref s0, .ref s1] h = Rf d 192 90 [a0, a1, a2, a3, a4] [.int 60, .ref s0, .ref s1] h := Rf_go ((stp_of c192_88).trans rfl)
theorem c192_90 : cd 192 90 = some (90, .iload_n 2, 1, []) := by decide +kernel
theorem x192_90 {d : Nat} {a0 a1 a3 a4 : Value} {s0 : Int32} {s1 : Nat} {s2 : Nat} {x : Int32} {h : AHp} : Rf d 192 90 [a0, a1, .int x, a3, a4] [.int s0, .ref s1, .ref s2] h = Rf d 192 91 [a0, a1, .int x, a3, a4] [.int x, .int s0, .ref s1, .ref s2] h := Rf_go ((stp_of c192_90).trans rfl)
theorem c192_91 : cd 192 91 = some (91, .iadd, 1, []) := by decide +kernel
theorem x192_91 {d : Nat} {a0 a1 a2 a3 a4 : Value} {s0 : Int32} {s1 : Int32} {s2 : Nat} {s3 : Nat} {h : AHp} : Rf d 192 91 [a0, a1, a2, a3, a4] [.int s0, .int s1, .ref s2, .ref s3] h = Rf d 192 92 [a0, a1, a2, a3, a4] [.int (s1 + s0), .ref s2, .ref s3] h := Rf_go ((stp_of c192_91).trans rfl)
theorem c192_92 : cd 192 92 = some (92, .iaload, 1, []) := by decide +kernel
theorem x192_92 {d : Nat} {a0 a1 a2 a3 a4 : Value} {s0 : Int32} {s1 : Nat} {s2 : Nat} {h : AHp} : Rf d 192 92 [a0, a1, a2, a3, a4] [.int s0, .ref s1, .ref s2] h = if (aT (h.1 s1) = 0 ∨ aT (h.1 s1) = 10) ∧ inB s0 (aN (h.1 s1)) = true then Rf d 192 93 [a0, a1, a2, a3, a4] [.int (aF (h.1 s1) s0.toNatClampNeg), .ref s2] h else Rx d 192 92 [a0, a1, a2, a3, a4] [.int s0, .ref s1, .ref s2] h := ldI c192_92
theorem c192_93 : cd 192 93 = some (93, .iload_n 2, 1, []) := by decide +kernel
theorem x192_93 {d : Nat} {a0 a1 a3 a4 : Value} {s0 : Int32} {s1 : Nat} {x : Int32} {h : AHp} : Rf d 192 93 [a0, a1, .int x, a3, a4] [.int s0, .ref s1] h = Rf d 192 94 [a0, a1, .int x, a3, a4] [.int x, .int s0, .ref s1] h := Rf_go ((stp_of c192_93).trans rfl)
theorem c192_94 : cd 192 94 = some (94, .iload_n 3, 1, []) := by decide +kernel
theorem x192_94 {d : Nat} {a0 a1 a2 a4 : Value} {s0 : Int32} {s1 : Int32} {s2 : Nat} {x : Int32} {h : AHp} : Rf d 192 94 [a0, a1, a2, .int x, a4] [.int s0, .int s1, .ref s2] h = Rf d 192 95 [a0, a1, a2, .int x, a4] [.int x, .int s0, .int s1, .ref s2] h := Rf_go ((stp_of c192_94).trans rfl)
theorem c192_95 : cd 192 95 = some (95, .invokevirtual 195, 3, [(12, 191)]) := by decide +kernel
theorem xc192_95 {d : Nat} {a0 a1 a2 a3 a4 : Value} {s0 : Int32} {s1 : Int32} {s2 : Int32} {s3 : Nat} {h : AHp} {h1 : AHp} {v : Int32} (hr : cls (h.1 s3) = 12) (hq : Rf d 191 0 [.ref s3, .int s2, .int s1, .int s0] [] h = some (some (.int v), h1)) : Rf (d + 1) 192 95 [a0, a1, a2, a3, a4] [.int s0, .int s1, .int s2, .ref s3] h = Rf (d + 1) 192 98 [a0, a1, a2, a3, a4] [.int v] h1 := clV (c := 191) (as := [.int s2, .int s1, .int s0]) c192_95 rfl (by simp [isV]) (by rw [hr]; rfl) hq
theorem c192_98 : cd 192 98 = some (98, .iconst 2, 1, []) := by decide +kernel
theorem x192_98 {d : Nat} {a0 a1 a2 a3 a4 : Value} {s0 : Int32} {h : AHp} : Rf d 192 98 [a0, a1, a2, a3, a4] [.int s0] h = Rf d 192 99 [a0, a1, a2, a3, a4] [.int 2, .int s0] h := Rf_go ((stp_of c192_98).trans rfl)
theorem c192_99 : cd 192 99 = some (99, .imul, 1, []) := by decide +kernel
theorem x192_99 {d : Nat} {a0 a1 a2 a3 a4 : Value} {s0 : Int32} {s1 : Int32} {h : AHp} : Rf d 192 99 [a0, a1, a2, a3, a4] [.int s0, .int s1] h = Rf d 192 100 [a0, a1, a2, a3, a4] [.int (s1 * s0)] h := Rf_go ((stp_of c192_99).trans rfl)
theorem c192_100 : cd 192 100 = some (100, .ireturn, 1, []) := by decide +kernel
theorem x192_100 {d : Nat} {a0 a1 a2 a3 a4 : Value} {s0 : Int32} {h : AHp} : Rf d 192 100 [a0, a1, a2, a3, a4] [.int s0] h = some (some (.int s0), h) := Rf_end (by rw [stp_of c192_100]; simp only [stpI]; rw [if_pos (show retI (mH 192).2.2.1 s0 = true from retI_int)])
theorem c192_67 : cd 192 67 = some (67, .aload_n 0, 1, []) := by decide +kernel
theorem x192_67 {d : Nat} {a1 a2 a3 a4 : Value} {x : Nat} {h : AHp} : Rf d 192 67 [.ref x, a1, a2, a3, a4] [] h = Rf d 192 68 [.ref x, a1, a2, a3, a4] [.ref x] h := Rf_go ((stp_of c192_67).trans rfl)
theorem c192_68 : cd 192 68 = some (68, .iload_n 1, 1, []) := by decide +kernel
theorem x192_68 {d : Nat} {a0 a2 a3 a4 : Value} {s0 : Nat} {x : Int32} {h : AHp} : Rf d 192 68 [a0, .int x, a2, a3, a4] [.ref s0] h = Rf d 192 69 [a0, .int x, a2, a3, a4] [.int x, .ref s0] h := Rf_go ((stp_of c192_68).trans rfl)
theorem c192_69 : cd 192 69 = some (69, .invokestatic 192, 3, [(0, 188)]) := by decide +kernel
theorem xc192_69 {d : Nat} {a0 a1 a2 a3 a4 : Value} {s0 : Int32} {s1 : Nat} {h : AHp} {h1 : AHp} {v : Int32} (hq : Rf d 188 0 [.int s0] [] h = some (some (.int v), h1)) : Rf (d + 1) 192 69 [a0, a1, a2, a3, a4] [.int s0, .ref s1] h = Rf (d + 1) 192 72 [a0, a1, a2, a3, a4] [.int v, .ref s1] h1 := clS (as := [.int s0]) c192_69 rfl rfl (by simp [isV]) hq
theorem c192_72 : cd 192 72 = some (72, .iload_n 2, 1, []) := by decide +kernel
theorem x192_72 {d : Nat} {a0 a1 a3 a4 : Value} {s0 : Int32} {s1 : Nat} {x : Int32} {h : AHp} : Rf d 192 72 [a0, a1, .int x, a3, a4] [.int s0, .ref s1] h = Rf d 192 73 [a0, a1, .int x, a3, a4] [.int x, .int s0, .ref s1] h := Rf_go ((stp_of c192_72).trans rfl)
theorem c192_73 : cd 192 73 = some (73, .iload_n 3, 1, []) := by decide +kernel
theorem x192_73 {d : Nat} {a0 a1 a2 a4 : Value} {s0 : Int32} {s1 : Int32} {s2 : Nat} {x : Int32} {h : AHp} : Rf d 192 73 [a0, a1, a2, .int x, a4] [.int s0, .int s1, .ref s2] h = Rf d 192 74 [a0, a1, a2, .int x, a4] [.int x, .int s0, .int s1, .ref s2] h := Rf_go ((stp_of c192_73).trans rfl)
theorem c192_74 : cd 192 74 = some (74, .invokevirtual 198, 3, [(12, 192)]) := by decide +kernel
theorem xc192_74 {d : Nat} {a0 a1 a2 a3 a4 : Value} {s0 : Int32} {s1 : Int32} {s2 : Int32} {s3 : Nat} {h : AHp} {h1 : AHp} {v : Int32} (hr : cls (h.1 s3) = 12) (hq : Rf d 192 0 [.ref s3, .int s2, .int s1, .int s0, noV] [] h = some (some (.int v), h1)) : Rf (d + 1) 192 74 [a0, a1, a2, a3, a4] [.int s0, .int s1, .int s2, .ref s3] h = Rf (d + 1) 192 77 [a0, a1, a2, a3, a4] [.int v] h1 := clV (c := 192) (as := [.int s2, .int s1, .int s0]) c192_74 rfl (by simp [isV]) (by rw [hr]; rfl) hq
theorem c192_77 : cd 192 77 = some (77, .ireturn, 1, []) := by decide +kernel
theorem x192_77 {d : Nat} {a0 a1 a2 a3 a4 : Value} {s0 : Int32} {h : AHp} : Rf d 192 77 [a0, a1, a2, a3, a4] [.int s0] h = some (some (.int s0), h) := Rf_end (by rw [stp_of c192_77]; simp only [stpI]; rw [if_pos (show retI (mH 192).2.2.1 s0 = true from retI_int)])
theorem c192_27 : cd 192 27 = some (27, .aload_n 0, 1, []) := by decide +kernel
theorem x192_27 {d : Nat} {a1 a2 a3 a4 : Value} {x : Nat} {h : AHp} : Rf d 192 27 [.ref x, a1, a2, a3, a4] [] h = Rf d 192 28 [.ref x, a1, a2, a3, a4] [.ref x] h := Rf_go ((stp_of c192_27).trans rfl)
theorem c192_28 : cd 192 28 = some (28, .bipush 41, 2, []) := by decide +kernel
theorem x192_28 {d : Nat} {a0 a1 a2 a3 a4 : Value} {s0 : Nat} {h : AHp} : Rf d 192 28 [a0, a1, a2, a3, a4] [.ref s0] h = Rf d 192 30 [a0, a1, a2, a3, a4] [.int 41, .ref s0] h := Rf_go ((stp_of c192_28).trans rfl)
theorem c192_30 : cd 192 30 = some (30, .invokevirtual 186, 3, [(12, 189)]) := by decide +kernel
theorem xc192_30 {d : Nat} {a0 a1 a2 a3 a4 : Value} {s0 : Int32} {s1 : Nat} {h : AHp} {h1 : AHp} (hr : cls (h.1 s1) = 12) (hq : Rf d 189 0 [.ref s1, .int s0] [] h = some (none, h1)) : Rf (d + 1) 192 30 [a0, a1, a2, a3, a4] [.int s0, .ref s1] h = Rf (d + 1) 192 33 [a0, a1, a2, a3, a4] [] h1 := clV (c := 189) (as := [.int s0]) c192_30 rfl (by simp [isV]) (by rw [hr]; rfl) hq
theorem c192_33 : cd 192 33 = some (33, .aload_n 0, 1, []) := by decide +kernel
theorem x192_33 {d : Nat} {a1 a2 a3 a4 : Value} {x : Nat} {h : AHp} : Rf d 192 33 [.ref x, a1, a2, a3, a4] [] h = Rf d 192 34 [.ref x, a1, a2, a3, a4] [.ref x] h := Rf_go ((stp_of c192_33).trans rfl)
theorem c192_34 : cd 192 34 = some (34, .iconst 1, 1, []) := by decide +kernel
theorem x192_34 {d : Nat} {a0 a1 a2 a3 a4 : Value} {s0 : Nat} {h : AHp} : Rf d 192 34 [a0, a1, a2, a3, a4] [.ref s0] h = Rf d 192 35 [a0, a1, a2, a3, a4] [.int 1, .ref s0] h := Rf_go ((stp_of c192_34).trans rfl)
theorem c192_35 : cd 192 35 = some (35, .iload_n 2, 1, []) := by decide +kernel
theorem x192_35 {d : Nat} {a0 a1 a3 a4 : Value} {s0 : Int32} {s1 : Nat} {x : Int32} {h : AHp} : Rf d 192 35 [a0, a1, .int x, a3, a4] [.int s0, .ref s1] h = Rf d 192 36 [a0, a1, .int x, a3, a4] [.int x, .int s0, .ref s1] h := Rf_go ((stp_of c192_35).trans rfl)
theorem c192_36 : cd 192 36 = some (36, .iload_n 3, 1, []) := by decide +kernel
theorem x192_36 {d : Nat} {a0 a1 a2 a4 : Value} {s0 : Int32} {s1 : Int32} {s2 : Nat} {x : Int32} {h : AHp} : Rf d 192 36 [a0, a1, a2, .int x, a4] [.int s0, .int s1, .ref s2] h = Rf d 192 37 [a0, a1, a2, .int x, a4] [.int x, .int s0, .int s1, .ref s2] h := Rf_go ((stp_of c192_36).trans rfl)
theorem c192_37 : cd 192 37 = some (37, .iconst 1, 1, []) := by decide +kernel
theorem x192_37 {d : Nat} {a0 a1 a2 a3 a4 : Value} {s0 : Int32} {s1 : Int32} {s2 : Int32} {s3 : Nat} {h : AHp} : Rf d 192 37 [a0, a1, a2, a3, a4] [.int s0, .int s1, .int s2, .ref s3] h = Rf d 192 38 [a0, a1, a2, a3, a4] [.int 1, .int s0, .int s1, .int s2, .ref s3] h := Rf_go ((stp_of c192_37).trans rfl)
theorem c192_38 : cd 192 38 = some (38, .isub, 1, []) := by decide +kernel
theorem x192_38 {d : Nat} {a0 a1 a2 a3 a4 : Value} {s0 : Int32} {s1 : Int32} {s2 : Int32} {s3 : Int32} {s4 : Nat} {h : AHp} : Rf d 192 38 [a0, a1, a2, a3, a4] [.int s0, .int s1, .int s2, .int s3, .ref s4] h = Rf d 192 39 [a0, a1, a2, a3, a4] [.int (s1 - s0), .int s2, .int s3, .ref s4] h := Rf_go ((stp_of c192_38).trans rfl)
theorem c192_39 : cd 192 39 = some (39, .invokevirtual 198, 3, [(12, 192)]) := by decide +kernel
theorem xc192_39 {d : Nat} {a0 a1 a2 a3 a4 : Value} {s0 : Int32} {s1 : Int32} {s2 : Int32} {s3 : Nat} {h : AHp} {h1 : AHp} {v : Int32} (hr : cls (h.1 s3) = 12) (hq : Rf d 192 0 [.ref s3, .int s2, .int s1, .int s0, noV] [] h = some (some (.int v), h1)) : Rf (d + 1) 192 39 [a0, a1, a2, a3, a4] [.int s0, .int s1, .int s2, .ref s3] h = Rf (d + 1) 192 42 [a0, a1, a2, a3, a4] [.int v] h1 := clV (c := 192) (as := [.int s2, .int s1, .int s0]) c192_39 rfl (by simp [isV]) (by rw [hr]; rfl) hq
theorem c192_42 : cd 192 42 = some (42, .istore 4, 2, []) := by decide +kernel
theorem x192_42 {d : Nat} {a0 a1 a2 a3 a4 : Value} {s0 : Int32} {h : AHp} : Rf d 192 42 [a0, a1, a2, a3, a4] [.int s0] h = Rf d 192 44 [a0, a1, a2, a3, .int s0] [] h := Rf_go ((stp_of c192_42).trans rfl)
theorem c192_44 : cd 192 44 = some (44, .iload 4, 2, []) := by decide +kernel
theorem x192_44 {d : Nat} {a0 a1 a2 a3 : Value} {x : Int32} {h : AHp} : Rf d 192 44 [a0, a1, a2, a3, .int x] [] h = Rf d 192 46 [a0, a1, a2, a3, .int x] [.int x] h := Rf_go ((stp_of c192_44).trans rfl)
theorem c192_46 : cd 192 46 = some (46, .aload_n 0, 1, []) := by decide +kernel
theorem x192_46 {d : Nat} {a1 a2 a3 a4 : Value} {s0 : Int32} {x : Nat} {h : AHp} : Rf d 192 46 [.ref x, a1, a2, a3, a4] [.int s0] h = Rf d 192 47 [.ref x, a1, a2, a3, a4] [.ref x, .int s0] h := Rf_go ((stp_of c192_46).trans rfl)
theorem c192_47 : cd 192 47 = some (47, .aload_n 0, 1, []) := by decide +kernel
theorem x192_47 {d : Nat} {a1 a2 a3 a4 : Value} {s0 : Nat} {s1 : Int32} {x : Nat} {h : AHp} : Rf d 192 47 [.ref x, a1, a2, a3, a4] [.ref s0, .int s1] h = Rf d 192 48 [.ref x, a1, a2, a3, a4] [.ref x, .ref s0, .int s1] h := Rf_go ((stp_of c192_47).trans rfl)
theorem c192_48 : cd 192 48 = some (48, .getfield 9, 3, [(12, 0)]) := by decide +kernel
theorem x192_48 {d : Nat} {a0 a1 a2 a3 a4 : Value} {s0 : Nat} {s1 : Nat} {s2 : Int32} {h : AHp} : Rf d 192 48 [a0, a1, a2, a3, a4] [.ref s0, .ref s1, .int s2] h = if cls (h.1 s0) = 12 ∧ oKr (h.1 s0) 0 = true then Rf d 192 51 [a0, a1, a2, a3, a4] [.ref (oR (h.1 s0) 0), .ref s1, .int s2] h else Rx d 192 48 [a0, a1, a2, a3, a4] [.ref s0, .ref s1, .int s2] h := getR c192_48
theorem c192_51 : cd 192 51 = some (51, .bipush 60, 2, []) := by decide +kernel
theorem x192_51 {d : Nat} {a0 a1 a2 a3 a4 : Value} {s0 : Nat} {s1 : Nat} {s2 : Int32} {h : AHp} : Rf d 192 51 [a0, a1, a2, a3, a4] [.ref s0, .ref s1, .int s2] h = Rf d 192 53 [a0, a1, a2, a3, a4] [.int 60, .ref s0, .ref s1, .int s2] h := Rf_go ((stp_of c192_51).trans rfl)
theorem c192_53 : cd 192 53 = some (53, .iload_n 2, 1, []) := by decide +kernel
theorem x192_53 {d : Nat} {a0 a1 a3 a4 : Value} {s0 : Int32} {s1 : Nat} {s2 : Nat} {s3 : Int32} {x : Int32} {h : AHp} : Rf d 192 53 [a0, a1, .int x, a3, a4] [.int s0, .ref s1, .ref s2, .int s3] h = Rf d 192 54 [a0, a1, .int x, a3, a4] [.int x, .int s0, .ref s1, .ref s2, .int s3] h := Rf_go ((stp_of c192_53).trans rfl)
theorem c192_54 : cd 192 54 = some (54, .iadd, 1, []) := by decide +kernel
theorem x192_54 {d : Nat} {a0 a1 a2 a3 a4 : Value} {s0 : Int32} {s1 : Int32} {s2 : Nat} {s3 : Nat} {s4 : Int32} {h : AHp} : Rf d 192 54 [a0, a1, a2, a3, a4] [.int s0, .int s1, .ref s2, .ref s3, .int s4] h = Rf d 192 55 [a0, a1, a2, a3, a4] [.int (s1 + s0), .ref s2, .ref s3, .int s4] h := Rf_go ((stp_of c192_54).trans rfl)
theorem c192_55 : cd 192 55 = some (55, .iaload, 1, []) := by decide +kernel
theorem x192_55 {d : Nat} {a0 a1 a2 a3 a4 : Value} {s0 : Int32} {s1 : Nat} {s2 : Nat} {s3 : Int32} {h : AHp} : Rf d 192 55 [a0, a1, a2, a3, a4] [.int s0, .ref s1, .ref s2, .int s3] h = if (aT (h.1 s1) = 0 ∨ aT (h.1 s1) = 10) ∧ inB s0 (aN (h.1 s1)) = true then Rf d 192 56 [a0, a1, a2, a3, a4] [.int (aF (h.1 s1) s0.toNatClampNeg), .ref s2, .int s3] h else Rx d 192 55 [a0, a1, a2, a3, a4] [.int s0, .ref s1, .ref s2, .int s3] h := ldI c192_55
theorem c192_56 : cd 192 56 = some (56, .iload_n 2, 1, []) := by decide +kernel
theorem x192_56 {d : Nat} {a0 a1 a3 a4 : Value} {s0 : Int32} {s1 : Nat} {s2 : Int32} {x : Int32} {h : AHp} : Rf d 192 56 [a0, a1, .int x, a3, a4] [.int s0, .ref s1, .int s2] h = Rf d 192 57 [a0, a1, .int x, a3, a4] [.int x, .int s0, .ref s1, .int s2] h := Rf_go ((stp_of c192_56).trans rfl)
theorem c192_57 : cd 192 57 = some (57, .iconst 2, 1, []) := by decide +kernel
theorem x192_57 {d : Nat} {a0 a1 a2 a3 a4 : Value} {s0 : Int32} {s1 : Int32} {s2 : Nat} {s3 : Int32} {h : AHp} : Rf d 192 57 [a0, a1, a2, a3, a4] [.int s0, .int s1, .ref s2, .int s3] h = Rf d 192 58 [a0, a1, a2, a3, a4] [.int 2, .int s0, .int s1, .ref s2, .int s3] h := Rf_go ((stp_of c192_57).trans rfl)
theorem c192_58 : cd 192 58 = some (58, .invokevirtual 189, 3, [(12, 190)]) := by decide +kernel
theorem xc192_58 {d : Nat} {a0 a1 a2 a3 a4 : Value} {s0 : Int32} {s1 : Int32} {s2 : Int32} {s3 : Nat} {s4 : Int32} {h : AHp} {h1 : AHp} {v : Int32} (hr : cls (h.1 s3) = 12) (hq : Rf d 190 0 [.ref s3, .int s2, .int s1, .int s0] [] h = some (some (.int v), h1)) : Rf (d + 1) 192 58 [a0, a1, a2, a3, a4] [.int s0, .int s1, .int s2, .ref s3, .int s4] h = Rf (d + 1) 192 61 [a0, a1, a2, a3, a4] [.int v, .int s4] h1 := clV (c := 190) (as := [.int s2, .int s1, .int s0]) c192_58 rfl (by simp [isV]) (by rw [hr]; rfl) hq
theorem c192_61 : cd 192 61 = some (61, .iadd, 1, []) := by decide +kernel
theorem x192_61 {d : Nat} {a0 a1 a2 a3 a4 : Value} {s0 : Int32} {s1 : Int32} {h : AHp} : Rf d 192 61 [a0, a1, a2, a3, a4] [.int s0, .int s1] h = Rf d 192 62 [a0, a1, a2, a3, a4] [.int (s1 + s0)] h := Rf_go ((stp_of c192_61).trans rfl)
theorem c192_62 : cd 192 62 = some (62, .ireturn, 1, []) := by decide +kernel
theorem x192_62 {d : Nat} {a0 a1 a2 a3 a4 : Value} {s0 : Int32} {h : AHp} : Rf d 192 62 [a0, a1, a2, a3, a4] [.int s0] h = some (some (.int s0), h) := Rf_end (by rw [stp_of c192_62]; simp only [stpI]; rw [if_pos (show retI (mH 192).2.2.1 s0 = true from retI_int)])
theorem c192_5 : cd 192 5 = some (5, .aload_n 0, 1, []) := by decide +kernel
theorem x192_5 {d : Nat} {a1 a2 a3 a4 : Value} {x : Nat} {h : AHp} : Rf d 192 5 [.ref x, a1, a2, a3, a4] [] h = Rf d 192 6 [.ref x, a1, a2, a3, a4] [.ref x] h := Rf_go ((stp_of c192_5).trans rfl)
theorem c192_6 : cd 192 6 = some (6, .bipush 31, 2, []) := by decide +kernel
theorem x192_6 {d : Nat} {a0 a1 a2 a3 a4 : Value} {s0 : Nat} {h : AHp} : Rf d 192 6 [a0, a1, a2, a3, a4] [.ref s0] h = Rf d 192 8 [a0, a1, a2, a3, a4] [.int 31, .ref s0] h := Rf_go ((stp_of c192_6).trans rfl)
theorem c192_8 : cd 192 8 = some (8, .invokevirtual 186, 3, [(12, 189)]) := by decide +kernel
theorem xc192_8 {d : Nat} {a0 a1 a2 a3 a4 : Value} {s0 : Int32} {s1 : Nat} {h : AHp} {h1 : AHp} (hr : cls (h.1 s1) = 12) (hq : Rf d 189 0 [.ref s1, .int s0] [] h = some (none, h1)) : Rf (d + 1) 192 8 [a0, a1, a2, a3, a4] [.int s0, .ref s1] h = Rf (d + 1) 192 11 [a0, a1, a2, a3, a4] [] h1 := clV (c := 189) (as := [.int s0]) c192_8 rfl (by simp [isV]) (by rw [hr]; rfl) hq
theorem c192_11 : cd 192 11 = some (11, .aload_n 0, 1, []) := by decide +kernel
theorem x192_11 {d : Nat} {a1 a2 a3 a4 : Value} {x : Nat} {h : AHp} : Rf d 192 11 [.ref x, a1, a2, a3, a4] [] h = Rf d 192 12 [.ref x, a1, a2, a3, a4] [.ref x] h := Rf_go ((stp_of c192_11).trans rfl)
theorem c192_12 : cd 192 12 = some (12, .iconst 0, 1, []) := by decide +kernel
theorem x192_12 {d : Nat} {a0 a1 a2 a3 a4 : Value} {s0 : Nat} {h : AHp} : Rf d 192 12 [a0, a1, a2, a3, a4] [.ref s0] h = Rf d 192 13 [a0, a1, a2, a3, a4] [.int 0, .ref s0] h := Rf_go ((stp_of c192_12).trans rfl)
theorem c192_13 : cd 192 13 = some (13, .iload_n 2, 1, []) := by decide +kernel
theorem x192_13 {d : Nat} {a0 a1 a3 a4 : Value} {s0 : Int32} {s1 : Nat} {x : Int32} {h : AHp} : Rf d 192 13 [a0, a1, .int x, a3, a4] [.int s0, .ref s1] h = Rf d 192 14 [a0, a1, .int x, a3, a4] [.int x, .int s0, .ref s1] h := Rf_go ((stp_of c192_13).trans rfl)
theorem c192_14 : cd 192 14 = some (14, .iload_n 3, 1, []) := by decide +kernel
theorem x192_14 {d : Nat} {a0 a1 a2 a4 : Value} {s0 : Int32} {s1 : Int32} {s2 : Nat} {x : Int32} {h : AHp} : Rf d 192 14 [a0, a1, a2, .int x, a4] [.int s0, .int s1, .ref s2] h = Rf d 192 15 [a0, a1, a2, .int x, a4] [.int x, .int s0, .int s1, .ref s2] h := Rf_go ((stp_of c192_14).trans rfl)
theorem c192_15 : cd 192 15 = some (15, .invokevirtual 198, 3, [(12, 192)]) := by decide +kernel
theorem xc192_15 {d : Nat} {a0 a1 a2 a3 a4 : Value} {s0 : Int32} {s1 : Int32} {s2 : Int32} {s3 : Nat} {h : AHp} {h1 : AHp} {v : Int32} (hr : cls (h.1 s3) = 12) (hq : Rf d 192 0 [.ref s3, .int s2, .int s1, .int s0, noV] [] h = some (some (.int v), h1)) : Rf (d + 1) 192 15 [a0, a1, a2, a3, a4] [.int s0, .int s1, .int s2, .ref s3] h = Rf (d + 1) 192 18 [a0, a1, a2, a3, a4] [.int v] h1 := clV (c := 192) (as := [.int s2, .int s1, .int s0]) c192_15 rfl (by simp [isV]) (by rw [hr]; rfl) hq
theorem c192_18 : cd 192 18 = some (18, .bipush 7, 2, []) := by decide +kernel
theorem x192_18 {d : Nat} {a0 a1 a2 a3 a4 : Value} {s0 : Int32} {h : AHp} : Rf d 192 18 [a0, a1, a2, a3, a4] [.int s0] h = Rf d 192 20 [a0, a1, a2, a3, a4] [.int 7, .int s0] h := Rf_go ((stp_of c192_18).trans rfl)
theorem c192_20 : cd 192 20 = some (20, .ixor, 1, []) := by decide +kernel
theorem x192_20 {d : Nat} {a0 a1 a2 a3 a4 : Value} {s0 : Int32} {s1 : Int32} {h : AHp} : Rf d 192 20 [a0, a1, a2, a3, a4] [.int s0, .int s1] h = Rf d 192 21 [a0, a1, a2, a3, a4] [.int (s1 ^^^ s0)] h := Rf_go ((stp_of c192_20).trans rfl)
theorem c192_21 : cd 192 21 = some (21, .ireturn, 1, []) := by decide +kernel
theorem x192_21 {d : Nat} {a0 a1 a2 a3 a4 : Value} {s0 : Int32} {h : AHp} : Rf d 192 21 [a0, a1, a2, a3, a4] [.int s0] h = some (some (.int s0), h) := Rf_end (by rw [stp_of c192_21]; simp only [stpI]; rw [if_pos (show retI (mH 192).2.2.1 s0 = true from retI_int)])
-- 193: X12_act
theorem c193_0 : cd 193 0 = some (0, .aload_n 0, 1, []) := by decide +kernel
theorem x193_0 {d : Nat} {a1 a2 a3 a4 : Value} {x : Nat} {h : AHp} : Rf d 193 0 [.ref x, a1, a2, a3, a4] [] h = Rf d 193 1 [.ref x, a1, a2, a3, a4] [.ref x] h := Rf_go ((stp_of c193_0).trans rfl)
theorem c193_1 : cd 193 1 = some (1, .iconst 0, 1, []) := by decide +kernel
theorem x193_1 {d : Nat} {a0 a1 a2 a3 a4 : Value} {s0 : Nat} {h : AHp} : Rf d 193 1 [a0, a1, a2, a3, a4] [.ref s0] h = Rf d 193 2 [a0, a1, a2, a3, a4] [.int 0, .ref s0] h := Rf_go ((stp_of c193_1).trans rfl)
theorem c193_2 : cd 193 2 = some (2, .putfield 183, 3, [(12, 10)]) := by decide +kernel
theorem x193_2 {d : Nat} {a0 a1 a2 a3 a4 : Value} {s0 : Int32} {s1 : Nat} {h : AHp} : Rf d 193 2 [a0, a1, a2, a3, a4] [.int s0, .ref s1] h = if cls (h.1 s1) = 12 ∧ oL (h.1 s1) = 12 then Rf d 193 5 [a0, a1, a2, a3, a4] [] (hset h s1 (oSet (h.1 s1) 10 (.int s0))) else Rx d 193 2 [a0, a1, a2, a3, a4] [.int s0, .ref s1] h := putV c193_2 rfl (fMay_i (by decide +kernel))
theorem c193_5 : cd 193 5 = some (5, .aload_n 0, 1, []) := by decide +kernel
theorem x193_5 {d : Nat} {a1 a2 a3 a4 : Value} {x : Nat} {h : AHp} : Rf d 193 5 [.ref x, a1, a2, a3, a4] [] h = Rf d 193 6 [.ref x, a1, a2, a3, a4] [.ref x] h := Rf_go ((stp_of c193_5).trans rfl)
theorem c193_6 : cd 193 6 = some (6, .iload_n 1, 1, []) := by decide +kernel
theorem x193_6 {d : Nat} {a0 a2 a3 a4 : Value} {s0 : Nat} {x : Int32} {h : AHp} : Rf d 193 6 [a0, .int x, a2, a3, a4] [.ref s0] h = Rf d 193 7 [a0, .int x, a2, a3, a4] [.int x, .ref s0] h := Rf_go ((stp_of c193_6).trans rfl)
theorem c193_7 : cd 193 7 = some (7, .invokevirtual 140, 3, [(12, 132)]) := by decide +kernel
theorem xc193_7 {d : Nat} {a0 a1 a2 a3 a4 : Value} {s0 : Int32} {s1 : Nat} {h : AHp} {h1 : AHp} {v : Int32} (hr : cls (h.1 s1) = 12) (hq : Rf d 132 0 [.ref s1, .int s0] [] h = some (some (.int v), h1)) : Rf (d + 1) 193 7 [a0, a1, a2, a3, a4] [.int s0, .ref s1] h = Rf (d + 1) 193 10 [a0, a1, a2, a3, a4] [.int v] h1 := clV (c := 132) (as := [.int s0]) c193_7 rfl (by simp [isV]) (by rw [hr]; rfl) hq
theorem c193_10 : cd 193 10 = some (10, .ifCond .eq 12, 3, [(22, 0)]) := by decide +kernel
theorem x193_10 {d : Nat} {a0 a1 a2 a3 a4 : Value} {s0 : Int32} {h : AHp} : Rf d 193 10 [a0, a1, a2, a3, a4] [.int s0] h = if s0 = 0 then Rf d 193 22 [a0, a1, a2, a3, a4] [] h else Rf d 193 13 [a0, a1, a2, a3, a4] [] h := Rf_brd ((stp_of c193_10).trans rfl)
theorem c193_22 : cd 193 22 = some (22, .iconst 0, 1, []) := by decide +kernel
theorem x193_22 {d : Nat} {a0 a1 a2 a3 a4 : Value} {h : AHp} : Rf d 193 22 [a0, a1, a2, a3, a4] [] h = Rf d 193 23 [a0, a1, a2, a3, a4] [.int 0] h := Rf_go ((stp_of c193_22).trans rfl)
theorem c193_23 : cd 193 23 = some (23, .ireturn, 1, []) := by decide +kernel
theorem x193_23 {d : Nat} {a0 a1 a2 a3 a4 : Value} {s0 : Int32} {h : AHp} : Rf d 193 23 [a0, a1, a2, a3, a4] [.int s0] h = some (some (.int s0), h) := Rf_end (by rw [stp_of c193_23]; simp only [stpI]; rw [if_pos (show retI (mH 193).2.2.1 s0 = true from retI_int)])
theorem c193_13 : cd 193 13 = some (13, .iload_n 2, 1, []) := by decide +kernel
theorem x193_13 {d : Nat} {a0 a1 a3 a4 : Value} {x : Int32} {h : AHp} : Rf d 193 13 [a0, a1, .int x, a3, a4] [] h = Rf d 193 14 [a0, a1, .int x, a3, a4] [.int x] h := Rf_go ((stp_of c193_13).trans rfl)
theorem c193_14 : cd 193 14 = some (14, .iconst 0, 1, []) := by decide +kernel
theorem x193_14 {d : Nat} {a0 a1 a2 a3 a4 : Value} {s0 : Int32} {h : AHp} : Rf d 193 14 [a0, a1, a2, a3, a4] [.int s0] h = Rf d 193 15 [a0, a1, a2, a3, a4] [.int 0, .int s0] h := Rf_go ((stp_of c193_14).trans rfl)
theorem c193_15 : cd 193 15 = some (15, .iconst 2, 1, []) := by decide +kernel
theorem x193_15 {d : Nat} {a0 a1 a2 a3 a4 : Value} {s0 : Int32} {s1 : Int32} {h : AHp} : Rf d 193 15 [a0, a1, a2, a3, a4] [.int s0, .int s1] h = Rf d 193 16 [a0, a1, a2, a3, a4] [.int 2, .int s0, .int s1] h := Rf_go ((stp_of c193_15).trans rfl)
theorem c193_16 : cd 193 16 = some (16, .invokestatic 31, 3, [(0, 131)]) := by decide +kernel
theorem xc193_16 {d : Nat} {a0 a1 a2 a3 a4 : Value} {s0 : Int32} {s1 : Int32} {s2 : Int32} {h : AHp} {h1 : AHp} {v : Int32} (hq : Rf d 131 0 [.int s2, .int s1, .int s0] [] h = some (some (.int v), h1)) : Rf (d + 1) 193 16 [a0, a1, a2, a3, a4] [.int s0, .int s1, .int s2] h = Rf (d + 1) 193 19 [a0, a1, a2, a3, a4] [.int v] h1 := clS (as := [.int s2, .int s1, .int s0]) c193_16 rfl rfl (by simp [isV]) hq
theorem c193_19 : cd 193 19 = some (19, .ifCond .ne 5, 3, [(24, 0)]) := by decide +kernel
theorem x193_19 {d : Nat} {a0 a1 a2 a3 a4 : Value} {s0 : Int32} {h : AHp} : Rf d 193 19 [a0, a1, a2, a3, a4] [.int s0] h = if s0 = 0 then Rf d 193 22 [a0, a1, a2, a3, a4] [] h else Rf d 193 24 [a0, a1, a2, a3, a4] [] h := Rf_brn ((stp_of c193_19).trans rfl)
theorem c193_24 : cd 193 24 = some (24, .aload_n 0, 1, []) := by decide +kernel
theorem x193_24 {d : Nat} {a1 a2 a3 a4 : Value} {x : Nat} {h : AHp} : Rf d 193 24 [.ref x, a1, a2, a3, a4] [] h = Rf d 193 25 [.ref x, a1, a2, a3, a4] [.ref x] h := Rf_go ((stp_of c193_24).trans rfl)
theorem c193_25 : cd 193 25 = some (25, .getfield 9, 3, [(12, 0)]) := by decide +kernel
theorem x193_25 {d : Nat} {a0 a1 a2 a3 a4 : Value} {s0 : Nat} {h : AHp} : Rf d 193 25 [a0, a1, a2, a3, a4] [.ref s0] h = if cls (h.1 s0) = 12 ∧ oKr (h.1 s0) 0 = true then Rf d 193 28 [a0, a1, a2, a3, a4] [.ref (oR (h.1 s0) 0)] h else Rx d 193 25 [a0, a1, a2, a3, a4] [.ref s0] h := getR c193_25
theorem c193_28 : cd 193 28 = some (28, .bipush 60, 2, []) := by decide +kernel
theorem x193_28 {d : Nat} {a0 a1 a2 a3 a4 : Value} {s0 : Nat} {h : AHp} : Rf d 193 28 [a0, a1, a2, a3, a4] [.ref s0] h = Rf d 193 30 [a0, a1, a2, a3, a4] [.int 60, .ref s0] h := Rf_go ((stp_of c193_28).trans rfl)
theorem c193_30 : cd 193 30 = some (30, .iload_n 1, 1, []) := by decide +kernel
theorem x193_30 {d : Nat} {a0 a2 a3 a4 : Value} {s0 : Int32} {s1 : Nat} {x : Int32} {h : AHp} : Rf d 193 30 [a0, .int x, a2, a3, a4] [.int s0, .ref s1] h = Rf d 193 31 [a0, .int x, a2, a3, a4] [.int x, .int s0, .ref s1] h := Rf_go ((stp_of c193_30).trans rfl)
theorem c193_31 : cd 193 31 = some (31, .iadd, 1, []) := by decide +kernel
theorem x193_31 {d : Nat} {a0 a1 a2 a3 a4 : Value} {s0 : Int32} {s1 : Int32} {s2 : Nat} {h : AHp} : Rf d 193 31 [a0, a1, a2, a3, a4] [.int s0, .int s1, .ref s2] h = Rf d 193 32 [a0, a1, a2, a3, a4] [.int (s1 + s0), .ref s2] h := Rf_go ((stp_of c193_31).trans rfl)
theorem c193_32 : cd 193 32 = some (32, .iaload, 1, []) := by decide +kernel
theorem x193_32 {d : Nat} {a0 a1 a2 a3 a4 : Value} {s0 : Int32} {s1 : Nat} {h : AHp} : Rf d 193 32 [a0, a1, a2, a3, a4] [.int s0, .ref s1] h = if (aT (h.1 s1) = 0 ∨ aT (h.1 s1) = 10) ∧ inB s0 (aN (h.1 s1)) = true then Rf d 193 33 [a0, a1, a2, a3, a4] [.int (aF (h.1 s1) s0.toNatClampNeg)] h else Rx d 193 32 [a0, a1, a2, a3, a4] [.int s0, .ref s1] h := ldI c193_32
theorem c193_33 : cd 193 33 = some (33, .istore 4, 2, []) := by decide +kernel
theorem x193_33 {d : Nat} {a0 a1 a2 a3 a4 : Value} {s0 : Int32} {h : AHp} : Rf d 193 33 [a0, a1, a2, a3, a4] [.int s0] h = Rf d 193 35 [a0, a1, a2, a3, .int s0] [] h := Rf_go ((stp_of c193_33).trans rfl)
theorem c193_35 : cd 193 35 = some (35, .iload_n 2, 1, []) := by decide +kernel
theorem x193_35 {d : Nat} {a0 a1 a3 a4 : Value} {x : Int32} {h : AHp} : Rf d 193 35 [a0, a1, .int x, a3, a4] [] h = Rf d 193 36 [a0, a1, .int x, a3, a4] [.int x] h := Rf_go ((stp_of c193_35).trans rfl)
theorem c193_36 : cd 193 36 = some (36, .ifCond .ne 14, 3, [(50, 0)]) := by decide +kernel
theorem x193_36 {d : Nat} {a0 a1 a2 a3 a4 : Value} {s0 : Int32} {h : AHp} : Rf d 193 36 [a0, a1, a2, a3, a4] [.int s0] h = if s0 = 0 then Rf d 193 39 [a0, a1, a2, a3, a4] [] h else Rf d 193 50 [a0, a1, a2, a3, a4] [] h := Rf_brn ((stp_of c193_36).trans rfl)
theorem c193_50 : cd 193 50 = some (50, .iload_n 2, 1, []) := by decide +kernel
theorem x193_50 {d : Nat} {a0 a1 a3 a4 : Value} {x : Int32} {h : AHp} : Rf d 193 50 [a0, a1, .int x, a3, a4] [] h = Rf d 193 51 [a0, a1, .int x, a3, a4] [.int x] h := Rf_go ((stp_of c193_50).trans rfl)
theorem c193_51 : cd 193 51 = some (51, .iconst 1, 1, []) := by decide +kernel
theorem x193_51 {d : Nat} {a0 a1 a2 a3 a4 : Value} {s0 : Int32} {h : AHp} : Rf d 193 51 [a0, a1, a2, a3, a4] [.int s0] h = Rf d 193 52 [a0, a1, a2, a3, a4] [.int 1, .int s0] h := Rf_go ((stp_of c193_51).trans rfl)
theorem c193_52 : cd 193 52 = some (52, .if_icmp .ne 14, 3, [(66, 0)]) := by decide +kernel
theorem x193_52 {d : Nat} {a0 a1 a2 a3 a4 : Value} {s0 : Int32} {s1 : Int32} {h : AHp} : Rf d 193 52 [a0, a1, a2, a3, a4] [.int s0, .int s1] h = if s1 = s0 then Rf d 193 55 [a0, a1, a2, a3, a4] [] h else Rf d 193 66 [a0, a1, a2, a3, a4] [] h := Rf_brn ((stp_of c193_52).trans rfl)
theorem c193_66 : cd 193 66 = some (66, .aload_n 0, 1, []) := by decide +kernel
theorem x193_66 {d : Nat} {a1 a2 a3 a4 : Value} {x : Nat} {h : AHp} : Rf d 193 66 [.ref x, a1, a2, a3, a4] [] h = Rf d 193 67 [.ref x, a1, a2, a3, a4] [.ref x] h := Rf_go ((stp_of c193_66).trans rfl)
theorem c193_67 : cd 193 67 = some (67, .iload 4, 2, []) := by decide +kernel
theorem x193_67 {d : Nat} {a0 a1 a2 a3 : Value} {s0 : Nat} {x : Int32} {h : AHp} : Rf d 193 67 [a0, a1, a2, a3, .int x] [.ref s0] h = Rf d 193 69 [a0, a1, a2, a3, .int x] [.int x, .ref s0] h := Rf_go ((stp_of c193_67).trans rfl)
theorem c193_69 : cd 193 69 = some (69, .iload_n 1, 1, []) := by decide +kernel
theorem x193_69 {d : Nat} {a0 a2 a3 a4 : Value} {s0 : Int32} {s1 : Nat} {x : Int32} {h : AHp} : Rf d 193 69 [a0, .int x, a2, a3, a4] [.int s0, .ref s1] h = Rf d 193 70 [a0, .int x, a2, a3, a4] [.int x, .int s0, .ref s1] h := Rf_go ((stp_of c193_69).trans rfl)
theorem c193_70 : cd 193 70 = some (70, .iload_n 3, 1, []) := by decide +kernel
theorem x193_70 {d : Nat} {a0 a1 a2 a4 : Value} {s0 : Int32} {s1 : Int32} {s2 : Nat} {x : Int32} {h : AHp} : Rf d 193 70 [a0, a1, a2, .int x, a4] [.int s0, .int s1, .ref s2] h = Rf d 193 71 [a0, a1, a2, .int x, a4] [.int x, .int s0, .int s1, .ref s2] h := Rf_go ((stp_of c193_70).trans rfl)
theorem c193_71 : cd 193 71 = some (71, .invokevirtual 198, 3, [(12, 192)]) := by decide +kernel
theorem xc193_71 {d : Nat} {a0 a1 a2 a3 a4 : Value} {s0 : Int32} {s1 : Int32} {s2 : Int32} {s3 : Nat} {h : AHp} {h1 : AHp} {v : Int32} (hr : cls (h.1 s3) = 12) (hq : Rf d 192 0 [.ref s3, .int s2, .int s1, .int s0, noV] [] h = some (some (.int v), h1)) : Rf (d + 1) 193 71 [a0, a1, a2, a3, a4] [.int s0, .int s1, .int s2, .ref s3] h = Rf (d + 1) 193 74 [a0, a1, a2, a3, a4] [.int v] h1 := clV (c := 192) (as := [.int s2, .int s1, .int s0]) c193_71 rfl (by simp [isV]) (by rw [hr]; rfl) hq
theorem c193_74 : cd 193 74 = some (74, .ireturn, 1, []) := by decide +kernel
theorem x193_74 {d : Nat} {a0 a1 a2 a3 a4 : Value} {s0 : Int32} {h : AHp} : Rf d 193 74 [a0, a1, a2, a3, a4] [.int s0] h = some (some (.int s0), h) := Rf_end (by rw [stp_of c193_74]; simp only [stpI]; rw [if_pos (show retI (mH 193).2.2.1 s0 = true from retI_int)])
theorem c193_55 : cd 193 55 = some (55, .aload_n 0, 1, []) := by decide +kernel
theorem x193_55 {d : Nat} {a1 a2 a3 a4 : Value} {x : Nat} {h : AHp} : Rf d 193 55 [.ref x, a1, a2, a3, a4] [] h = Rf d 193 56 [.ref x, a1, a2, a3, a4] [.ref x] h := Rf_go ((stp_of c193_55).trans rfl)
theorem c193_56 : cd 193 56 = some (56, .iload 4, 2, []) := by decide +kernel
theorem x193_56 {d : Nat} {a0 a1 a2 a3 : Value} {s0 : Nat} {x : Int32} {h : AHp} : Rf d 193 56 [a0, a1, a2, a3, .int x] [.ref s0] h = Rf d 193 58 [a0, a1, a2, a3, .int x] [.int x, .ref s0] h := Rf_go ((stp_of c193_56).trans rfl)
theorem c193_58 : cd 193 58 = some (58, .iload_n 1, 1, []) := by decide +kernel
theorem x193_58 {d : Nat} {a0 a2 a3 a4 : Value} {s0 : Int32} {s1 : Nat} {x : Int32} {h : AHp} : Rf d 193 58 [a0, .int x, a2, a3, a4] [.int s0, .ref s1] h = Rf d 193 59 [a0, .int x, a2, a3, a4] [.int x, .int s0, .ref s1] h := Rf_go ((stp_of c193_58).trans rfl)
theorem c193_59 : cd 193 59 = some (59, .iload_n 3, 1, []) := by decide +kernel
theorem x193_59 {d : Nat} {a0 a1 a2 a4 : Value} {s0 : Int32} {s1 : Int32} {s2 : Nat} {x : Int32} {h : AHp} : Rf d 193 59 [a0, a1, a2, .int x, a4] [.int s0, .int s1, .ref s2] h = Rf d 193 60 [a0, a1, a2, .int x, a4] [.int x, .int s0, .int s1, .ref s2] h := Rf_go ((stp_of c193_59).trans rfl)
theorem c193_60 : cd 193 60 = some (60, .invokevirtual 195, 3, [(12, 191)]) := by decide +kernel
theorem xc193_60 {d : Nat} {a0 a1 a2 a3 a4 : Value} {s0 : Int32} {s1 : Int32} {s2 : Int32} {s3 : Nat} {h : AHp} {h1 : AHp} {v : Int32} (hr : cls (h.1 s3) = 12) (hq : Rf d 191 0 [.ref s3, .int s2, .int s1, .int s0] [] h = some (some (.int v), h1)) : Rf (d + 1) 193 60 [a0, a1, a2, a3, a4] [.int s0, .int s1, .int s2, .ref s3] h = Rf (d + 1) 193 63 [a0, a1, a2, a3, a4] [.int v] h1 := clV (c := 191) (as := [.int s2, .int s1, .int s0]) c193_60 rfl (by simp [isV]) (by rw [hr]; rfl) hq
theorem c193_63 : cd 193 63 = some (63, .goto 11, 3, [(74, 0)]) := by decide +kernel
theorem x193_63 {d : Nat} {a0 a1 a2 a3 a4 : Value} {s0 : Int32} {h : AHp} : Rf d 193 63 [a0, a1, a2, a3, a4] [.int s0] h = Rf d 193 74 [a0, a1, a2, a3, a4] [.int s0] h := Rf_go ((stp_of c193_63).trans rfl)
theorem c193_39 : cd 193 39 = some (39, .aload_n 0, 1, []) := by decide +kernel
theorem x193_39 {d : Nat} {a1 a2 a3 a4 : Value} {x : Nat} {h : AHp} : Rf d 193 39 [.ref x, a1, a2, a3, a4] [] h = Rf d 193 40 [.ref x, a1, a2, a3, a4] [.ref x] h := Rf_go ((stp_of c193_39).trans rfl)
theorem c193_40 : cd 193 40 = some (40, .iload 4, 2, []) := by decide +kernel
theorem x193_40 {d : Nat} {a0 a1 a2 a3 : Value} {s0 : Nat} {x : Int32} {h : AHp} : Rf d 193 40 [a0, a1, a2, a3, .int x] [.ref s0] h = Rf d 193 42 [a0, a1, a2, a3, .int x] [.int x, .ref s0] h := Rf_go ((stp_of c193_40).trans rfl)
theorem c193_42 : cd 193 42 = some (42, .iload_n 1, 1, []) := by decide +kernel
theorem x193_42 {d : Nat} {a0 a2 a3 a4 : Value} {s0 : Int32} {s1 : Nat} {x : Int32} {h : AHp} : Rf d 193 42 [a0, .int x, a2, a3, a4] [.int s0, .ref s1] h = Rf d 193 43 [a0, .int x, a2, a3, a4] [.int x, .int s0, .ref s1] h := Rf_go ((stp_of c193_42).trans rfl)
theorem c193_43 : cd 193 43 = some (43, .iload_n 3, 1, []) := by decide +kernel
theorem x193_43 {d : Nat} {a0 a1 a2 a4 : Value} {s0 : Int32} {s1 : Int32} {s2 : Nat} {x : Int32} {h : AHp} : Rf d 193 43 [a0, a1, a2, .int x, a4] [.int s0, .int s1, .ref s2] h = Rf d 193 44 [a0, a1, a2, .int x, a4] [.int x, .int s0, .int s1, .ref s2] h := Rf_go ((stp_of c193_43).trans rfl)
theorem c193_44 : cd 193 44 = some (44, .invokevirtual 189, 3, [(12, 190)]) := by decide +kernel
theorem xc193_44 {d : Nat} {a0 a1 a2 a3 a4 : Value} {s0 : Int32} {s1 : Int32} {s2 : Int32} {s3 : Nat} {h : AHp} {h1 : AHp} {v : Int32} (hr : cls (h.1 s3) = 12) (hq : Rf d 190 0 [.ref s3, .int s2, .int s1, .int s0] [] h = some (some (.int v), h1)) : Rf (d + 1) 193 44 [a0, a1, a2, a3, a4] [.int s0, .int s1, .int s2, .ref s3] h = Rf (d + 1) 193 47 [a0, a1, a2, a3, a4] [.int v] h1 := clV (c := 190) (as := [.int s2, .int s1, .int s0]) c193_44 rfl (by simp [isV]) (by rw [hr]; rfl) hq
theorem c193_47 : cd 193 47 = some (47, .goto 27, 3, [(74, 0)]) := by decide +kernel
theorem x193_47 {d : Nat} {a0 a1 a2 a3 a4 : Value} {s0 : Int32} {h : AHp} : Rf d 193 47 [a0, a1, a2, a3, a4] [.int s0] h = Rf d 193 74 [a0, a1, a2, a3, a4] [.int s0] h := Rf_go ((stp_of c193_47).trans rfl)
-- 194: X12_trace
theorem c194_0 : cd 194 0 = some (0, .iload_n 1, 1, []) := by decide +kernel
theorem x194_0 {d : Nat} {a0 : Value} {x : Int32} {h : AHp} : Rf d 194 0 [a0, .int x] [] h = Rf d 194 1 [a0, .int x] [.int x] h := Rf_go ((stp_of c194_0).trans rfl)
theorem c194_1 : cd 194 1 = some (1, .iconst 0, 1, []) := by decide +kernel
theorem x194_1 {d : Nat} {a0 a1 : Value} {s0 : Int32} {h : AHp} : Rf d 194 1 [a0, a1] [.int s0] h = Rf d 194 2 [a0, a1] [.int 0, .int s0] h := Rf_go ((stp_of c194_1).trans rfl)
theorem c194_2 : cd 194 2 = some (2, .aload_n 0, 1, []) := by decide +kernel
theorem x194_2 {d : Nat} {a1 : Value} {s0 : Int32} {s1 : Int32} {x : Nat} {h : AHp} : Rf d 194 2 [.ref x, a1] [.int s0, .int s1] h = Rf d 194 3 [.ref x, a1] [.ref x, .int s0, .int s1] h := Rf_go ((stp_of c194_2).trans rfl)
theorem c194_3 : cd 194 3 = some (3, .getfield 183, 3, [(12, 10)]) := by decide +kernel
theorem x194_3 {d : Nat} {a0 a1 : Value} {s0 : Nat} {s1 : Int32} {s2 : Int32} {h : AHp} : Rf d 194 3 [a0, a1] [.ref s0, .int s1, .int s2] h = if cls (h.1 s0) = 12 ∧ oKi (h.1 s0) 10 = true then Rf d 194 6 [a0, a1] [.int (oN (h.1 s0) 10), .int s1, .int s2] h else Rx d 194 3 [a0, a1] [.ref s0, .int s1, .int s2] h := getI c194_3
theorem c194_6 : cd 194 6 = some (6, .bipush 20, 2, []) := by decide +kernel
theorem x194_6 {d : Nat} {a0 a1 : Value} {s0 : Int32} {s1 : Int32} {s2 : Int32} {h : AHp} : Rf d 194 6 [a0, a1] [.int s0, .int s1, .int s2] h = Rf d 194 8 [a0, a1] [.int 20, .int s0, .int s1, .int s2] h := Rf_go ((stp_of c194_6).trans rfl)
theorem c194_8 : cd 194 8 = some (8, .invokestatic 113, 3, [(0, 202)]) := by decide +kernel
theorem xc194_8 {d : Nat} {a0 a1 : Value} {s0 : Int32} {s1 : Int32} {s2 : Int32} {s3 : Int32} {h : AHp} {h1 : AHp} {v : Int32} (hq : Rf d 202 0 [.int s1, .int s0] [] h = some (some (.int v), h1)) : Rf (d + 1) 194 8 [a0, a1] [.int s0, .int s1, .int s2, .int s3] h = Rf (d + 1) 194 11 [a0, a1] [.int v, .int s2, .int s3] h1 := clS (as := [.int s1, .int s0]) c194_8 rfl rfl (by simp [isV]) hq
theorem c194_11 : cd 194 11 = some (11, .iconst 1, 1, []) := by decide +kernel
theorem x194_11 {d : Nat} {a0 a1 : Value} {s0 : Int32} {s1 : Int32} {s2 : Int32} {h : AHp} : Rf d 194 11 [a0, a1] [.int s0, .int s1, .int s2] h = Rf d 194 12 [a0, a1] [.int 1, .int s0, .int s1, .int s2] h := Rf_go ((stp_of c194_11).trans rfl)
theorem c194_12 : cd 194 12 = some (12, .isub, 1, []) := by decide +kernel
theorem x194_12 {d : Nat} {a0 a1 : Value} {s0 : Int32} {s1 : Int32} {s2 : Int32} {s3 : Int32} {h : AHp} : Rf d 194 12 [a0, a1] [.int s0, .int s1, .int s2, .int s3] h = Rf d 194 13 [a0, a1] [.int (s1 - s0), .int s2, .int s3] h := Rf_go ((stp_of c194_12).trans rfl)
theorem c194_13 : cd 194 13 = some (13, .invokestatic 31, 3, [(0, 131)]) := by decide +kernel
theorem xc194_13 {d : Nat} {a0 a1 : Value} {s0 : Int32} {s1 : Int32} {s2 : Int32} {h : AHp} {h1 : AHp} {v : Int32} (hq : Rf d 131 0 [.int s2, .int s1, .int s0] [] h = some (some (.int v), h1)) : Rf (d + 1) 194 13 [a0, a1] [.int s0, .int s1, .int s2] h = Rf (d + 1) 194 16 [a0, a1] [.int v] h1 := clS (as := [.int s2, .int s1, .int s0]) c194_13 rfl rfl (by simp [isV]) hq
theorem c194_16 : cd 194 16 = some (16, .ifCond .eq 12, 3, [(28, 0)]) := by decide +kernel
theorem x194_16 {d : Nat} {a0 a1 : Value} {s0 : Int32} {h : AHp} : Rf d 194 16 [a0, a1] [.int s0] h = if s0 = 0 then Rf d 194 28 [a0, a1] [] h else Rf d 194 19 [a0, a1] [] h := Rf_brd ((stp_of c194_16).trans rfl)
theorem c194_28 : cd 194 28 = some (28, .iconst (-1), 1, []) := by decide +kernel
theorem x194_28 {d : Nat} {a0 a1 : Value} {h : AHp} : Rf d 194 28 [a0, a1] [] h = Rf d 194 29 [a0, a1] [.int (-1)] h := Rf_go ((stp_of c194_28).trans rfl)
theorem c194_29 : cd 194 29 = some (29, .ireturn, 1, []) := by decide +kernel
theorem x194_29 {d : Nat} {a0 a1 : Value} {s0 : Int32} {h : AHp} : Rf d 194 29 [a0, a1] [.int s0] h = some (some (.int s0), h) := Rf_end (by rw [stp_of c194_29]; simp only [stpI]; rw [if_pos (show retI (mH 194).2.2.1 s0 = true from retI_int)])
theorem c194_19 : cd 194 19 = some (19, .aload_n 0, 1, []) := by decide +kernel
theorem x194_19 {d : Nat} {a1 : Value} {x : Nat} {h : AHp} : Rf d 194 19 [.ref x, a1] [] h = Rf d 194 20 [.ref x, a1] [.ref x] h := Rf_go ((stp_of c194_19).trans rfl)
theorem c194_20 : cd 194 20 = some (20, .getfield 28, 3, [(12, 11)]) := by decide +kernel
theorem x194_20 {d : Nat} {a0 a1 : Value} {s0 : Nat} {h : AHp} : Rf d 194 20 [a0, a1] [.ref s0] h = if cls (h.1 s0) = 12 ∧ oKr (h.1 s0) 11 = true then Rf d 194 23 [a0, a1] [.ref (oR (h.1 s0) 11)] h else Rx d 194 20 [a0, a1] [.ref s0] h := getR c194_20
theorem c194_23 : cd 194 23 = some (23, .iload_n 1, 1, []) := by decide +kernel
theorem x194_23 {d : Nat} {a0 : Value} {s0 : Nat} {x : Int32} {h : AHp} : Rf d 194 23 [a0, .int x] [.ref s0] h = Rf d 194 24 [a0, .int x] [.int x, .ref s0] h := Rf_go ((stp_of c194_23).trans rfl)
theorem c194_24 : cd 194 24 = some (24, .iaload, 1, []) := by decide +kernel
theorem x194_24 {d : Nat} {a0 a1 : Value} {s0 : Int32} {s1 : Nat} {h : AHp} : Rf d 194 24 [a0, a1] [.int s0, .ref s1] h = if (aT (h.1 s1) = 0 ∨ aT (h.1 s1) = 10) ∧ inB s0 (aN (h.1 s1)) = true then Rf d 194 25 [a0, a1] [.int (aF (h.1 s1) s0.toNatClampNeg)] h else Rx d 194 24 [a0, a1] [.int s0, .ref s1] h := ldI c194_24
theorem c194_25 : cd 194 25 = some (25, .goto 4, 3, [(29, 0)]) := by decide +kernel
theorem x194_25 {d : Nat} {a0 a1 : Value} {s0 : Int32} {h : AHp} : Rf d 194 25 [a0, a1] [.int s0] h = Rf d 194 29 [a0, a1] [.int s0] h := Rf_go ((stp_of c194_25).trans rfl)
-- 195: X12_as
theorem c195_0 : cd 195 0 = some (0, .aload_n 0, 1, []) := by decide +kernel
theorem x195_0 {d : Nat} {a1 a2 a3 : Value} {x : Nat} {h : AHp} : Rf d 195 0 [.ref x, a1, a2, a3] [] h = Rf d 195 1 [.ref x, a1, a2, a3] [.ref x] h := Rf_go ((stp_of c195_0).trans rfl)
theorem c195_1 : cd 195 1 = some (1, .iload_n 1, 1, []) := by decide +kernel
theorem x195_1 {d : Nat} {a0 a2 a3 : Value} {s0 : Nat} {x : Int32} {h : AHp} : Rf d 195 1 [a0, .int x, a2, a3] [.ref s0] h = Rf d 195 2 [a0, .int x, a2, a3] [.int x, .ref s0] h := Rf_go ((stp_of c195_1).trans rfl)
theorem c195_2 : cd 195 2 = some (2, .invokevirtual 140, 3, [(12, 132)]) := by decide +kernel
theorem xc195_2 {d : Nat} {a0 a1 a2 a3 : Value} {s0 : Int32} {s1 : Nat} {h : AHp} {h1 : AHp} {v : Int32} (hr : cls (h.1 s1) = 12) (hq : Rf d 132 0 [.ref s1, .int s0] [] h = some (some (.int v), h1)) : Rf (d + 1) 195 2 [a0, a1, a2, a3] [.int s0, .ref s1] h = Rf (d + 1) 195 5 [a0, a1, a2, a3] [.int v] h1 := clV (c := 132) (as := [.int s0]) c195_2 rfl (by simp [isV]) (by rw [hr]; rfl) hq
theorem c195_5 : cd 195 5 = some (5, .ifCond .eq 13, 3, [(18, 0)]) := by decide +kernel
theorem x195_5 {d : Nat} {a0 a1 a2 a3 : Value} {s0 : Int32} {h : AHp} : Rf d 195 5 [a0, a1, a2, a3] [.int s0] h = if s0 = 0 then Rf d 195 18 [a0, a1, a2, a3] [] h else Rf d 195 8 [a0, a1, a2, a3] [] h := Rf_brd ((stp_of c195_5).trans rfl)
theorem c195_18 : cd 195 18 = some (18, .iconst (-1), 1, []) := by decide +kernel
theorem x195_18 {d : Nat} {a0 a1 a2 a3 : Value} {h : AHp} : Rf d 195 18 [a0, a1, a2, a3] [] h = Rf d 195 19 [a0, a1, a2, a3] [.int (-1)] h := Rf_go ((stp_of c195_18).trans rfl)
theorem c195_19 : cd 195 19 = some (19, .ireturn, 1, []) := by decide +kernel
theorem x195_19 {d : Nat} {a0 a1 a2 a3 : Value} {s0 : Int32} {h : AHp} : Rf d 195 19 [a0, a1, a2, a3] [.int s0] h = some (some (.int s0), h) := Rf_end (by rw [stp_of c195_19]; simp only [stpI]; rw [if_pos (show retI (mH 195).2.2.1 s0 = true from retI_int)])
theorem c195_8 : cd 195 8 = some (8, .iload_n 2, 1, []) := by decide +kernel
theorem x195_8 {d : Nat} {a0 a1 a3 : Value} {x : Int32} {h : AHp} : Rf d 195 8 [a0, a1, .int x, a3] [] h = Rf d 195 9 [a0, a1, .int x, a3] [.int x] h := Rf_go ((stp_of c195_8).trans rfl)
theorem c195_9 : cd 195 9 = some (9, .iconst 0, 1, []) := by decide +kernel
theorem x195_9 {d : Nat} {a0 a1 a2 a3 : Value} {s0 : Int32} {h : AHp} : Rf d 195 9 [a0, a1, a2, a3] [.int s0] h = Rf d 195 10 [a0, a1, a2, a3] [.int 0, .int s0] h := Rf_go ((stp_of c195_9).trans rfl)
theorem c195_10 : cd 195 10 = some (10, .bipush 6, 2, []) := by decide +kernel
theorem x195_10 {d : Nat} {a0 a1 a2 a3 : Value} {s0 : Int32} {s1 : Int32} {h : AHp} : Rf d 195 10 [a0, a1, a2, a3] [.int s0, .int s1] h = Rf d 195 12 [a0, a1, a2, a3] [.int 6, .int s0, .int s1] h := Rf_go ((stp_of c195_10).trans rfl)
theorem c195_12 : cd 195 12 = some (12, .invokestatic 31, 3, [(0, 131)]) := by decide +kernel
theorem xc195_12 {d : Nat} {a0 a1 a2 a3 : Value} {s0 : Int32} {s1 : Int32} {s2 : Int32} {h : AHp} {h1 : AHp} {v : Int32} (hq : Rf d 131 0 [.int s2, .int s1, .int s0] [] h = some (some (.int v), h1)) : Rf (d + 1) 195 12 [a0, a1, a2, a3] [.int s0, .int s1, .int s2] h = Rf (d + 1) 195 15 [a0, a1, a2, a3] [.int v] h1 := clS (as := [.int s2, .int s1, .int s0]) c195_12 rfl rfl (by simp [isV]) hq
theorem c195_15 : cd 195 15 = some (15, .ifCond .ne 5, 3, [(20, 0)]) := by decide +kernel
theorem x195_15 {d : Nat} {a0 a1 a2 a3 : Value} {s0 : Int32} {h : AHp} : Rf d 195 15 [a0, a1, a2, a3] [.int s0] h = if s0 = 0 then Rf d 195 18 [a0, a1, a2, a3] [] h else Rf d 195 20 [a0, a1, a2, a3] [] h := Rf_brn ((stp_of c195_15).trans rfl)
theorem c195_20 : cd 195 20 = some (20, .aload_n 0, 1, []) := by decide +kernel
theorem x195_20 {d : Nat} {a1 a2 a3 : Value} {x : Nat} {h : AHp} : Rf d 195 20 [.ref x, a1, a2, a3] [] h = Rf d 195 21 [.ref x, a1, a2, a3] [.ref x] h := Rf_go ((stp_of c195_20).trans rfl)
theorem c195_21 : cd 195 21 = some (21, .getfield 9, 3, [(12, 0)]) := by decide +kernel
theorem x195_21 {d : Nat} {a0 a1 a2 a3 : Value} {s0 : Nat} {h : AHp} : Rf d 195 21 [a0, a1, a2, a3] [.ref s0] h = if cls (h.1 s0) = 12 ∧ oKr (h.1 s0) 0 = true then Rf d 195 24 [a0, a1, a2, a3] [.ref (oR (h.1 s0) 0)] h else Rx d 195 21 [a0, a1, a2, a3] [.ref s0] h := getR c195_21
theorem c195_24 : cd 195 24 = some (24, .bipush 60, 2, []) := by decide +kernel
theorem x195_24 {d : Nat} {a0 a1 a2 a3 : Value} {s0 : Nat} {h : AHp} : Rf d 195 24 [a0, a1, a2, a3] [.ref s0] h = Rf d 195 26 [a0, a1, a2, a3] [.int 60, .ref s0] h := Rf_go ((stp_of c195_24).trans rfl)
theorem c195_26 : cd 195 26 = some (26, .iload_n 1, 1, []) := by decide +kernel
theorem x195_26 {d : Nat} {a0 a2 a3 : Value} {s0 : Int32} {s1 : Nat} {x : Int32} {h : AHp} : Rf d 195 26 [a0, .int x, a2, a3] [.int s0, .ref s1] h = Rf d 195 27 [a0, .int x, a2, a3] [.int x, .int s0, .ref s1] h := Rf_go ((stp_of c195_26).trans rfl)
theorem c195_27 : cd 195 27 = some (27, .iadd, 1, []) := by decide +kernel
theorem x195_27 {d : Nat} {a0 a1 a2 a3 : Value} {s0 : Int32} {s1 : Int32} {s2 : Nat} {h : AHp} : Rf d 195 27 [a0, a1, a2, a3] [.int s0, .int s1, .ref s2] h = Rf d 195 28 [a0, a1, a2, a3] [.int (s1 + s0), .ref s2] h := Rf_go ((stp_of c195_27).trans rfl)
theorem c195_28 : cd 195 28 = some (28, .iaload, 1, []) := by decide +kernel
theorem x195_28 {d : Nat} {a0 a1 a2 a3 : Value} {s0 : Int32} {s1 : Nat} {h : AHp} : Rf d 195 28 [a0, a1, a2, a3] [.int s0, .ref s1] h = if (aT (h.1 s1) = 0 ∨ aT (h.1 s1) = 10) ∧ inB s0 (aN (h.1 s1)) = true then Rf d 195 29 [a0, a1, a2, a3] [.int (aF (h.1 s1) s0.toNatClampNeg)] h else Rx d 195 28 [a0, a1, a2, a3] [.int s0, .ref s1] h := ldI c195_28
theorem c195_29 : cd 195 29 = some (29, .istore_n 3, 1, []) := by decide +kernel
theorem x195_29 {d : Nat} {a0 a1 a2 a3 : Value} {s0 : Int32} {h : AHp} : Rf d 195 29 [a0, a1, a2, a3] [.int s0] h = Rf d 195 30 [a0, a1, a2, .int s0] [] h := Rf_go ((stp_of c195_29).trans rfl)
theorem c195_30 : cd 195 30 = some (30, .iload_n 3, 1, []) := by decide +kernel
theorem x195_30 {d : Nat} {a0 a1 a2 : Value} {x : Int32} {h : AHp} : Rf d 195 30 [a0, a1, a2, .int x] [] h = Rf d 195 31 [a0, a1, a2, .int x] [.int x] h := Rf_go ((stp_of c195_30).trans rfl)
theorem c195_31 : cd 195 31 = some (31, .iload_n 2, 1, []) := by decide +kernel
theorem x195_31 {d : Nat} {a0 a1 a3 : Value} {s0 : Int32} {x : Int32} {h : AHp} : Rf d 195 31 [a0, a1, .int x, a3] [.int s0] h = Rf d 195 32 [a0, a1, .int x, a3] [.int x, .int s0] h := Rf_go ((stp_of c195_31).trans rfl)
theorem c195_32 : cd 195 32 = some (32, .if_icmp .eq 15, 3, [(47, 0)]) := by decide +kernel
theorem x195_32 {d : Nat} {a0 a1 a2 a3 : Value} {s0 : Int32} {s1 : Int32} {h : AHp} : Rf d 195 32 [a0, a1, a2, a3] [.int s0, .int s1] h = if s1 = s0 then Rf d 195 47 [a0, a1, a2, a3] [] h else Rf d 195 35 [a0, a1, a2, a3] [] h := Rf_brd ((stp_of c195_32).trans rfl)
theorem c195_47 : cd 195 47 = some (47, .iload_n 3, 1, []) := by decide +kernel
theorem x195_47 {d : Nat} {a0 a1 a2 : Value} {x : Int32} {h : AHp} : Rf d 195 47 [a0, a1, a2, .int x] [] h = Rf d 195 48 [a0, a1, a2, .int x] [.int x] h := Rf_go ((stp_of c195_47).trans rfl)
theorem c195_48 : cd 195 48 = some (48, .iload_n 2, 1, []) := by decide +kernel
theorem x195_48 {d : Nat} {a0 a1 a3 : Value} {s0 : Int32} {x : Int32} {h : AHp} : Rf d 195 48 [a0, a1, .int x, a3] [.int s0] h = Rf d 195 49 [a0, a1, .int x, a3] [.int x, .int s0] h := Rf_go ((stp_of c195_48).trans rfl)
theorem c195_49 : cd 195 49 = some (49, .if_icmp .ne 15, 3, [(64, 0)]) := by decide +kernel
theorem x195_49 {d : Nat} {a0 a1 a2 a3 : Value} {s0 : Int32} {s1 : Int32} {h : AHp} : Rf d 195 49 [a0, a1, a2, a3] [.int s0, .int s1] h = if s1 = s0 then Rf d 195 52 [a0, a1, a2, a3] [] h else Rf d 195 64 [a0, a1, a2, a3] [] h := Rf_brn ((stp_of c195_49).trans rfl)
theorem c195_64 : cd 195 64 = some (64, .bipush (-6), 2, []) := by decide +kernel
theorem x195_64 {d : Nat} {a0 a1 a2 a3 : Value} {h : AHp} : Rf d 195 64 [a0, a1, a2, a3] [] h = Rf d 195 66 [a0, a1, a2, a3] [.int (-6)] h := Rf_go ((stp_of c195_64).trans rfl)
theorem c195_66 : cd 195 66 = some (66, .ireturn, 1, []) := by decide +kernel
theorem x195_66 {d : Nat} {a0 a1 a2 a3 : Value} {s0 : Int32} {h : AHp} : Rf d 195 66 [a0, a1, a2, a3] [.int s0] h = some (some (.int s0), h) := Rf_end (by rw [stp_of c195_66]; simp only [stpI]; rw [if_pos (show retI (mH 195).2.2.1 s0 = true from retI_int)])
theorem c195_52 : cd 195 52 = some (52, .aload_n 0, 1, []) := by decide +kernel
theorem x195_52 {d : Nat} {a1 a2 a3 : Value} {x : Nat} {h : AHp} : Rf d 195 52 [.ref x, a1, a2, a3] [] h = Rf d 195 53 [.ref x, a1, a2, a3] [.ref x] h := Rf_go ((stp_of c195_52).trans rfl)
theorem c195_53 : cd 195 53 = some (53, .getfield 9, 3, [(12, 0)]) := by decide +kernel
theorem x195_53 {d : Nat} {a0 a1 a2 a3 : Value} {s0 : Nat} {h : AHp} : Rf d 195 53 [a0, a1, a2, a3] [.ref s0] h = if cls (h.1 s0) = 12 ∧ oKr (h.1 s0) 0 = true then Rf d 195 56 [a0, a1, a2, a3] [.ref (oR (h.1 s0) 0)] h else Rx d 195 53 [a0, a1, a2, a3] [.ref s0] h := getR c195_53
theorem c195_56 : cd 195 56 = some (56, .bipush 70, 2, []) := by decide +kernel
theorem x195_56 {d : Nat} {a0 a1 a2 a3 : Value} {s0 : Nat} {h : AHp} : Rf d 195 56 [a0, a1, a2, a3] [.ref s0] h = Rf d 195 58 [a0, a1, a2, a3] [.int 70, .ref s0] h := Rf_go ((stp_of c195_56).trans rfl)
theorem c195_58 : cd 195 58 = some (58, .iload_n 1, 1, []) := by decide +kernel
theorem x195_58 {d : Nat} {a0 a2 a3 : Value} {s0 : Int32} {s1 : Nat} {x : Int32} {h : AHp} : Rf d 195 58 [a0, .int x, a2, a3] [.int s0, .ref s1] h = Rf d 195 59 [a0, .int x, a2, a3] [.int x, .int s0, .ref s1] h := Rf_go ((stp_of c195_58).trans rfl)
theorem c195_59 : cd 195 59 = some (59, .iadd, 1, []) := by decide +kernel
theorem x195_59 {d : Nat} {a0 a1 a2 a3 : Value} {s0 : Int32} {s1 : Int32} {s2 : Nat} {h : AHp} : Rf d 195 59 [a0, a1, a2, a3] [.int s0, .int s1, .ref s2] h = Rf d 195 60 [a0, a1, a2, a3] [.int (s1 + s0), .ref s2] h := Rf_go ((stp_of c195_59).trans rfl)
theorem c195_60 : cd 195 60 = some (60, .iaload, 1, []) := by decide +kernel
theorem x195_60 {d : Nat} {a0 a1 a2 a3 : Value} {s0 : Int32} {s1 : Nat} {h : AHp} : Rf d 195 60 [a0, a1, a2, a3] [.int s0, .ref s1] h = if (aT (h.1 s1) = 0 ∨ aT (h.1 s1) = 10) ∧ inB s0 (aN (h.1 s1)) = true then Rf d 195 61 [a0, a1, a2, a3] [.int (aF (h.1 s1) s0.toNatClampNeg)] h else Rx d 195 60 [a0, a1, a2, a3] [.int s0, .ref s1] h := ldI c195_60
theorem c195_61 : cd 195 61 = some (61, .goto 5, 3, [(66, 0)]) := by decide +kernel
theorem x195_61 {d : Nat} {a0 a1 a2 a3 : Value} {s0 : Int32} {h : AHp} : Rf d 195 61 [a0, a1, a2, a3] [.int s0] h = Rf d 195 66 [a0, a1, a2, a3] [.int s0] h := Rf_go ((stp_of c195_61).trans rfl)
theorem c195_35 : cd 195 35 = some (35, .iload_n 3, 1, []) := by decide +kernel
theorem x195_35 {d : Nat} {a0 a1 a2 : Value} {x : Int32} {h : AHp} : Rf d 195 35 [a0, a1, a2, .int x] [] h = Rf d 195 36 [a0, a1, a2, .int x] [.int x] h := Rf_go ((stp_of c195_35).trans rfl)
theorem c195_36 : cd 195 36 = some (36, .ifCond .le 11, 3, [(47, 0)]) := by decide +kernel
theorem x195_36 {d : Nat} {a0 a1 a2 a3 : Value} {s0 : Int32} {h : AHp} : Rf d 195 36 [a0, a1, a2, a3] [.int s0] h = if 0 < s0 then Rf d 195 39 [a0, a1, a2, a3] [] h else Rf d 195 47 [a0, a1, a2, a3] [] h := Rf_brn ((stp_of c195_36).trans rfl)
theorem c195_39 : cd 195 39 = some (39, .iload_n 3, 1, []) := by decide +kernel
theorem x195_39 {d : Nat} {a0 a1 a2 : Value} {x : Int32} {h : AHp} : Rf d 195 39 [a0, a1, a2, .int x] [] h = Rf d 195 40 [a0, a1, a2, .int x] [.int x] h := Rf_go ((stp_of c195_39).trans rfl)
theorem c195_40 : cd 195 40 = some (40, .invokestatic 192, 3, [(0, 188)]) := by decide +kernel
theorem xc195_40 {d : Nat} {a0 a1 a2 a3 : Value} {s0 : Int32} {h : AHp} {h1 : AHp} {v : Int32} (hq : Rf d 188 0 [.int s0] [] h = some (some (.int v), h1)) : Rf (d + 1) 195 40 [a0, a1, a2, a3] [.int s0] h = Rf (d + 1) 195 43 [a0, a1, a2, a3] [.int v] h1 := clS (as := [.int s0]) c195_40 rfl rfl (by simp [isV]) hq
theorem c195_43 : cd 195 43 = some (43, .istore_n 3, 1, []) := by decide +kernel
theorem x195_43 {d : Nat} {a0 a1 a2 a3 : Value} {s0 : Int32} {h : AHp} : Rf d 195 43 [a0, a1, a2, a3] [.int s0] h = Rf d 195 44 [a0, a1, a2, .int s0] [] h := Rf_go ((stp_of c195_43).trans rfl)
theorem c195_44 : cd 195 44 = some (44, .goto (-14), 3, [(30, 0)]) := by decide +kernel
theorem x195_44 {d : Nat} {a0 a1 a2 a3 : Value} {h : AHp} : Rf d 195 44 [a0, a1, a2, a3] [] h = Rf d 195 30 [a0, a1, a2, a3] [] h := Rf_go ((stp_of c195_44).trans rfl)
-- 196: X12_image
theorem c196_0 : cd 196 0 = some (0, .iconst 0, 1, []) := by decide +kernel
theorem x196_0 {d : Nat} {a0 a1 : Value} {h : AHp} : Rf d 196 0 [a0, a1] [] h = Rf d 196 1 [a0, a1] [.int 0] h := Rf_go ((stp_of c196_0).trans rfl)
theorem c196_1 : cd 196 1 = some (1, .istore_n 1, 1, []) := by decide +kernel
theorem x196_1 {d : Nat} {a0 a1 : Value} {s0 : Int32} {h : AHp} : Rf d 196 1 [a0, a1] [.int s0] h = Rf d 196 2 [a0, .int s0] [] h := Rf_go ((stp_of c196_1).trans rfl)
theorem c196_2 : cd 196 2 = some (2, .iload_n 1, 1, []) := by decide +kernel
theorem x196_2 {d : Nat} {a0 : Value} {x : Int32} {h : AHp} : Rf d 196 2 [a0, .int x] [] h = Rf d 196 3 [a0, .int x] [.int x] h := Rf_go ((stp_of c196_2).trans rfl)
theorem c196_3 : cd 196 3 = some (3, .sipush 931, 3, []) := by decide +kernel
theorem x196_3 {d : Nat} {a0 a1 : Value} {s0 : Int32} {h : AHp} : Rf d 196 3 [a0, a1] [.int s0] h = Rf d 196 6 [a0, a1] [.int 931, .int s0] h := Rf_go ((stp_of c196_3).trans rfl)
theorem c196_6 : cd 196 6 = some (6, .if_icmp .ge 21, 3, [(27, 0)]) := by decide +kernel
theorem x196_6 {d : Nat} {a0 a1 : Value} {s0 : Int32} {s1 : Int32} {h : AHp} : Rf d 196 6 [a0, a1] [.int s0, .int s1] h = if s1 < s0 then Rf d 196 9 [a0, a1] [] h else Rf d 196 27 [a0, a1] [] h := Rf_brn ((stp_of c196_6).trans rfl)
theorem c196_27 : cd 196 27 = some (27, .aload_n 0, 1, []) := by decide +kernel
theorem x196_27 {d : Nat} {a1 : Value} {x : Nat} {h : AHp} : Rf d 196 27 [.ref x, a1] [] h = Rf d 196 28 [.ref x, a1] [.ref x] h := Rf_go ((stp_of c196_27).trans rfl)
theorem c196_28 : cd 196 28 = some (28, .iconst 1, 1, []) := by decide +kernel
theorem x196_28 {d : Nat} {a0 a1 : Value} {s0 : Nat} {h : AHp} : Rf d 196 28 [a0, a1] [.ref s0] h = Rf d 196 29 [a0, a1] [.int 1, .ref s0] h := Rf_go ((stp_of c196_28).trans rfl)
theorem c196_29 : cd 196 29 = some (29, .putfield 201, 3, [(12, 2)]) := by decide +kernel
theorem x196_29 {d : Nat} {a0 a1 : Value} {s0 : Int32} {s1 : Nat} {h : AHp} (hz : s0 = 0 ∨ s0 = 1) : Rf d 196 29 [a0, a1] [.int s0, .ref s1] h = if cls (h.1 s1) = 12 ∧ oL (h.1 s1) = 12 then Rf d 196 32 [a0, a1] [] (hset h s1 (oSet (h.1 s1) 2 (.int s0))) else Rx d 196 29 [a0, a1] [.int s0, .ref s1] h := putV c196_29 rfl (fMay_z (by decide +kernel) hz)
theorem c196_32 : cd 196 32 = some (32, .aload_n 0, 1, []) := by decide +kernel
theorem x196_32 {d : Nat} {a1 : Value} {x : Nat} {h : AHp} : Rf d 196 32 [.ref x, a1] [] h = Rf d 196 33 [.ref x, a1] [.ref x] h := Rf_go ((stp_of c196_32).trans rfl)
theorem c196_33 : cd 196 33 = some (33, .getfield 9, 3, [(12, 0)]) := by decide +kernel
theorem x196_33 {d : Nat} {a0 a1 : Value} {s0 : Nat} {h : AHp} : Rf d 196 33 [a0, a1] [.ref s0] h = if cls (h.1 s0) = 12 ∧ oKr (h.1 s0) 0 = true then Rf d 196 36 [a0, a1] [.ref (oR (h.1 s0) 0)] h else Rx d 196 33 [a0, a1] [.ref s0] h := getR c196_33
theorem c196_36 : cd 196 36 = some (36, .iconst 0, 1, []) := by decide +kernel
theorem x196_36 {d : Nat} {a0 a1 : Value} {s0 : Nat} {h : AHp} : Rf d 196 36 [a0, a1] [.ref s0] h = Rf d 196 37 [a0, a1] [.int 0, .ref s0] h := Rf_go ((stp_of c196_36).trans rfl)
theorem c196_37 : cd 196 37 = some (37, .iaload, 1, []) := by decide +kernel
theorem x196_37 {d : Nat} {a0 a1 : Value} {s0 : Int32} {s1 : Nat} {h : AHp} : Rf d 196 37 [a0, a1] [.int s0, .ref s1] h = if (aT (h.1 s1) = 0 ∨ aT (h.1 s1) = 10) ∧ inB s0 (aN (h.1 s1)) = true then Rf d 196 38 [a0, a1] [.int (aF (h.1 s1) s0.toNatClampNeg)] h else Rx d 196 37 [a0, a1] [.int s0, .ref s1] h := ldI c196_37
theorem c196_38 : cd 196 38 = some (38, .ireturn, 1, []) := by decide +kernel
theorem x196_38 {d : Nat} {a0 a1 : Value} {s0 : Int32} {h : AHp} : Rf d 196 38 [a0, a1] [.int s0] h = some (some (.int s0), h) := Rf_end (by rw [stp_of c196_38]; simp only [stpI]; rw [if_pos (show retI (mH 196).2.2.1 s0 = true from retI_int)])
theorem c196_9 : cd 196 9 = some (9, .aload_n 0, 1, []) := by decide +kernel
theorem x196_9 {d : Nat} {a1 : Value} {x : Nat} {h : AHp} : Rf d 196 9 [.ref x, a1] [] h = Rf d 196 10 [.ref x, a1] [.ref x] h := Rf_go ((stp_of c196_9).trans rfl)
theorem c196_10 : cd 196 10 = some (10, .getfield 13, 3, [(12, 1)]) := by decide +kernel
theorem x196_10 {d : Nat} {a0 a1 : Value} {s0 : Nat} {h : AHp} : Rf d 196 10 [a0, a1] [.ref s0] h = if cls (h.1 s0) = 12 ∧ oKr (h.1 s0) 1 = true then Rf d 196 13 [a0, a1] [.ref (oR (h.1 s0) 1)] h else Rx d 196 10 [a0, a1] [.ref s0] h := getR c196_10
theorem c196_13 : cd 196 13 = some (13, .iload_n 1, 1, []) := by decide +kernel
theorem x196_13 {d : Nat} {a0 : Value} {s0 : Nat} {x : Int32} {h : AHp} : Rf d 196 13 [a0, .int x] [.ref s0] h = Rf d 196 14 [a0, .int x] [.int x, .ref s0] h := Rf_go ((stp_of c196_13).trans rfl)
theorem c196_14 : cd 196 14 = some (14, .aload_n 0, 1, []) := by decide +kernel
theorem x196_14 {d : Nat} {a1 : Value} {s0 : Int32} {s1 : Nat} {x : Nat} {h : AHp} : Rf d 196 14 [.ref x, a1] [.int s0, .ref s1] h = Rf d 196 15 [.ref x, a1] [.ref x, .int s0, .ref s1] h := Rf_go ((stp_of c196_14).trans rfl)
theorem c196_15 : cd 196 15 = some (15, .getfield 9, 3, [(12, 0)]) := by decide +kernel
theorem x196_15 {d : Nat} {a0 a1 : Value} {s0 : Nat} {s1 : Int32} {s2 : Nat} {h : AHp} : Rf d 196 15 [a0, a1] [.ref s0, .int s1, .ref s2] h = if cls (h.1 s0) = 12 ∧ oKr (h.1 s0) 0 = true then Rf d 196 18 [a0, a1] [.ref (oR (h.1 s0) 0), .int s1, .ref s2] h else Rx d 196 15 [a0, a1] [.ref s0, .int s1, .ref s2] h := getR c196_15
theorem c196_18 : cd 196 18 = some (18, .iload_n 1, 1, []) := by decide +kernel
theorem x196_18 {d : Nat} {a0 : Value} {s0 : Nat} {s1 : Int32} {s2 : Nat} {x : Int32} {h : AHp} : Rf d 196 18 [a0, .int x] [.ref s0, .int s1, .ref s2] h = Rf d 196 19 [a0, .int x] [.int x, .ref s0, .int s1, .ref s2] h := Rf_go ((stp_of c196_18).trans rfl)
theorem c196_19 : cd 196 19 = some (19, .iaload, 1, []) := by decide +kernel
theorem x196_19 {d : Nat} {a0 a1 : Value} {s0 : Int32} {s1 : Nat} {s2 : Int32} {s3 : Nat} {h : AHp} : Rf d 196 19 [a0, a1] [.int s0, .ref s1, .int s2, .ref s3] h = if (aT (h.1 s1) = 0 ∨ aT (h.1 s1) = 10) ∧ inB s0 (aN (h.1 s1)) = true then Rf d 196 20 [a0, a1] [.int (aF (h.1 s1) s0.toNatClampNeg), .int s2, .ref s3] h else Rx d 196 19 [a0, a1] [.int s0, .ref s1, .int s2, .ref s3] h := ldI c196_19
theorem c196_20 : cd 196 20 = some (20, .iastore, 1, []) := by decide +kernel
theorem x196_20 {d : Nat} {a0 a1 : Value} {s0 : Int32} {s1 : Int32} {s2 : Nat} {h : AHp} : Rf d 196 20 [a0, a1] [.int s0, .int s1, .ref s2] h = if aT (h.1 s2) = 0 ∧ inB s1 (aN (h.1 s2)) = true then Rf d 196 21 [a0, a1] [] (hset h s2 (.inl (0, aN (h.1 s2), .inl (upd (aF (h.1 s2)) s1.toNatClampNeg s0)))) else Rx d 196 20 [a0, a1] [.int s0, .int s1, .ref s2] h := stI c196_20
theorem c196_21 : cd 196 21 = some (21, .iinc 1 1, 3, []) := by decide +kernel
theorem x196_21 {d : Nat} {a0 : Value} {x : Int32} {h : AHp} : Rf d 196 21 [a0, .int x] [] h = Rf d 196 24 [a0, .int (x + 1)] [] h := Rf_go ((stp_of c196_21).trans rfl)
theorem c196_24 : cd 196 24 = some (24, .goto (-22), 3, [(2, 0)]) := by decide +kernel
theorem x196_24 {d : Nat} {a0 a1 : Value} {h : AHp} : Rf d 196 24 [a0, a1] [] h = Rf d 196 2 [a0, a1] [] h := Rf_go ((stp_of c196_24).trans rfl)
-- 197: X12_undo
theorem c197_0 : cd 197 0 = some (0, .aload_n 0, 1, []) := by decide +kernel
theorem x197_0 {d : Nat} {a1 : Value} {x : Nat} {h : AHp} : Rf d 197 0 [.ref x, a1] [] h = Rf d 197 1 [.ref x, a1] [.ref x] h := Rf_go ((stp_of c197_0).trans rfl)
theorem c197_1 : cd 197 1 = some (1, .getfield 201, 3, [(12, 2)]) := by decide +kernel
theorem x197_1 {d : Nat} {a0 a1 : Value} {s0 : Nat} {h : AHp} : Rf d 197 1 [a0, a1] [.ref s0] h = if cls (h.1 s0) = 12 ∧ oKi (h.1 s0) 2 = true then Rf d 197 4 [a0, a1] [.int (oN (h.1 s0) 2)] h else Rx d 197 1 [a0, a1] [.ref s0] h := getI c197_1
theorem c197_4 : cd 197 4 = some (4, .ifCond .ne 6, 3, [(10, 0)]) := by decide +kernel
theorem x197_4 {d : Nat} {a0 a1 : Value} {s0 : Int32} {h : AHp} : Rf d 197 4 [a0, a1] [.int s0] h = if s0 = 0 then Rf d 197 7 [a0, a1] [] h else Rf d 197 10 [a0, a1] [] h := Rf_brn ((stp_of c197_4).trans rfl)
theorem c197_10 : cd 197 10 = some (10, .iconst 0, 1, []) := by decide +kernel
theorem x197_10 {d : Nat} {a0 a1 : Value} {h : AHp} : Rf d 197 10 [a0, a1] [] h = Rf d 197 11 [a0, a1] [.int 0] h := Rf_go ((stp_of c197_10).trans rfl)
theorem c197_11 : cd 197 11 = some (11, .istore_n 1, 1, []) := by decide +kernel
theorem x197_11 {d : Nat} {a0 a1 : Value} {s0 : Int32} {h : AHp} : Rf d 197 11 [a0, a1] [.int s0] h = Rf d 197 12 [a0, .int s0] [] h := Rf_go ((stp_of c197_11).trans rfl)
theorem c197_12 : cd 197 12 = some (12, .iload_n 1, 1, []) := by decide +kernel
theorem x197_12 {d : Nat} {a0 : Value} {x : Int32} {h : AHp} : Rf d 197 12 [a0, .int x] [] h = Rf d 197 13 [a0, .int x] [.int x] h := Rf_go ((stp_of c197_12).trans rfl)
theorem c197_13 : cd 197 13 = some (13, .sipush 931, 3, []) := by decide +kernel
theorem x197_13 {d : Nat} {a0 a1 : Value} {s0 : Int32} {h : AHp} : Rf d 197 13 [a0, a1] [.int s0] h = Rf d 197 16 [a0, a1] [.int 931, .int s0] h := Rf_go ((stp_of c197_13).trans rfl)
theorem c197_16 : cd 197 16 = some (16, .if_icmp .ge 21, 3, [(37, 0)]) := by decide +kernel
theorem x197_16 {d : Nat} {a0 a1 : Value} {s0 : Int32} {s1 : Int32} {h : AHp} : Rf d 197 16 [a0, a1] [.int s0, .int s1] h = if s1 < s0 then Rf d 197 19 [a0, a1] [] h else Rf d 197 37 [a0, a1] [] h := Rf_brn ((stp_of c197_16).trans rfl)
theorem c197_37 : cd 197 37 = some (37, .aload_n 0, 1, []) := by decide +kernel
theorem x197_37 {d : Nat} {a1 : Value} {x : Nat} {h : AHp} : Rf d 197 37 [.ref x, a1] [] h = Rf d 197 38 [.ref x, a1] [.ref x] h := Rf_go ((stp_of c197_37).trans rfl)
theorem c197_38 : cd 197 38 = some (38, .getfield 9, 3, [(12, 0)]) := by decide +kernel
theorem x197_38 {d : Nat} {a0 a1 : Value} {s0 : Nat} {h : AHp} : Rf d 197 38 [a0, a1] [.ref s0] h = if cls (h.1 s0) = 12 ∧ oKr (h.1 s0) 0 = true then Rf d 197 41 [a0, a1] [.ref (oR (h.1 s0) 0)] h else Rx d 197 38 [a0, a1] [.ref s0] h := getR c197_38
theorem c197_41 : cd 197 41 = some (41, .iconst 0, 1, []) := by decide +kernel
theorem x197_41 {d : Nat} {a0 a1 : Value} {s0 : Nat} {h : AHp} : Rf d 197 41 [a0, a1] [.ref s0] h = Rf d 197 42 [a0, a1] [.int 0, .ref s0] h := Rf_go ((stp_of c197_41).trans rfl)
theorem c197_42 : cd 197 42 = some (42, .iaload, 1, []) := by decide +kernel
theorem x197_42 {d : Nat} {a0 a1 : Value} {s0 : Int32} {s1 : Nat} {h : AHp} : Rf d 197 42 [a0, a1] [.int s0, .ref s1] h = if (aT (h.1 s1) = 0 ∨ aT (h.1 s1) = 10) ∧ inB s0 (aN (h.1 s1)) = true then Rf d 197 43 [a0, a1] [.int (aF (h.1 s1) s0.toNatClampNeg)] h else Rx d 197 42 [a0, a1] [.int s0, .ref s1] h := ldI c197_42
theorem c197_43 : cd 197 43 = some (43, .ireturn, 1, []) := by decide +kernel
theorem x197_43 {d : Nat} {a0 a1 : Value} {s0 : Int32} {h : AHp} : Rf d 197 43 [a0, a1] [.int s0] h = some (some (.int s0), h) := Rf_end (by rw [stp_of c197_43]; simp only [stpI]; rw [if_pos (show retI (mH 197).2.2.1 s0 = true from retI_int)])
theorem c197_19 : cd 197 19 = some (19, .aload_n 0, 1, []) := by decide +kernel
theorem x197_19 {d : Nat} {a1 : Value} {x : Nat} {h : AHp} : Rf d 197 19 [.ref x, a1] [] h = Rf d 197 20 [.ref x, a1] [.ref x] h := Rf_go ((stp_of c197_19).trans rfl)
theorem c197_20 : cd 197 20 = some (20, .getfield 9, 3, [(12, 0)]) := by decide +kernel
theorem x197_20 {d : Nat} {a0 a1 : Value} {s0 : Nat} {h : AHp} : Rf d 197 20 [a0, a1] [.ref s0] h = if cls (h.1 s0) = 12 ∧ oKr (h.1 s0) 0 = true then Rf d 197 23 [a0, a1] [.ref (oR (h.1 s0) 0)] h else Rx d 197 20 [a0, a1] [.ref s0] h := getR c197_20
theorem c197_23 : cd 197 23 = some (23, .iload_n 1, 1, []) := by decide +kernel
theorem x197_23 {d : Nat} {a0 : Value} {s0 : Nat} {x : Int32} {h : AHp} : Rf d 197 23 [a0, .int x] [.ref s0] h = Rf d 197 24 [a0, .int x] [.int x, .ref s0] h := Rf_go ((stp_of c197_23).trans rfl)
theorem c197_24 : cd 197 24 = some (24, .aload_n 0, 1, []) := by decide +kernel
theorem x197_24 {d : Nat} {a1 : Value} {s0 : Int32} {s1 : Nat} {x : Nat} {h : AHp} : Rf d 197 24 [.ref x, a1] [.int s0, .ref s1] h = Rf d 197 25 [.ref x, a1] [.ref x, .int s0, .ref s1] h := Rf_go ((stp_of c197_24).trans rfl)
theorem c197_25 : cd 197 25 = some (25, .getfield 13, 3, [(12, 1)]) := by decide +kernel
theorem x197_25 {d : Nat} {a0 a1 : Value} {s0 : Nat} {s1 : Int32} {s2 : Nat} {h : AHp} : Rf d 197 25 [a0, a1] [.ref s0, .int s1, .ref s2] h = if cls (h.1 s0) = 12 ∧ oKr (h.1 s0) 1 = true then Rf d 197 28 [a0, a1] [.ref (oR (h.1 s0) 1), .int s1, .ref s2] h else Rx d 197 25 [a0, a1] [.ref s0, .int s1, .ref s2] h := getR c197_25
theorem c197_28 : cd 197 28 = some (28, .iload_n 1, 1, []) := by decide +kernel
theorem x197_28 {d : Nat} {a0 : Value} {s0 : Nat} {s1 : Int32} {s2 : Nat} {x : Int32} {h : AHp} : Rf d 197 28 [a0, .int x] [.ref s0, .int s1, .ref s2] h = Rf d 197 29 [a0, .int x] [.int x, .ref s0, .int s1, .ref s2] h := Rf_go ((stp_of c197_28).trans rfl)
theorem c197_29 : cd 197 29 = some (29, .iaload, 1, []) := by decide +kernel
theorem x197_29 {d : Nat} {a0 a1 : Value} {s0 : Int32} {s1 : Nat} {s2 : Int32} {s3 : Nat} {h : AHp} : Rf d 197 29 [a0, a1] [.int s0, .ref s1, .int s2, .ref s3] h = if (aT (h.1 s1) = 0 ∨ aT (h.1 s1) = 10) ∧ inB s0 (aN (h.1 s1)) = true then Rf d 197 30 [a0, a1] [.int (aF (h.1 s1) s0.toNatClampNeg), .int s2, .ref s3] h else Rx d 197 29 [a0, a1] [.int s0, .ref s1, .int s2, .ref s3] h := ldI c197_29
theorem c197_30 : cd 197 30 = some (30, .iastore, 1, []) := by decide +kernel
theorem x197_30 {d : Nat} {a0 a1 : Value} {s0 : Int32} {s1 : Int32} {s2 : Nat} {h : AHp} : Rf d 197 30 [a0, a1] [.int s0, .int s1, .ref s2] h = if aT (h.1 s2) = 0 ∧ inB s1 (aN (h.1 s2)) = true then Rf d 197 31 [a0, a1] [] (hset h s2 (.inl (0, aN (h.1 s2), .inl (upd (aF (h.1 s2)) s1.toNatClampNeg s0)))) else Rx d 197 30 [a0, a1] [.int s0, .int s1, .ref s2] h := stI c197_30
theorem c197_31 : cd 197 31 = some (31, .iinc 1 1, 3, []) := by decide +kernel
theorem x197_31 {d : Nat} {a0 : Value} {x : Int32} {h : AHp} : Rf d 197 31 [a0, .int x] [] h = Rf d 197 34 [a0, .int (x + 1)] [] h := Rf_go ((stp_of c197_31).trans rfl)
theorem c197_34 : cd 197 34 = some (34, .goto (-22), 3, [(12, 0)]) := by decide +kernel
theorem x197_34 {d : Nat} {a0 a1 : Value} {h : AHp} : Rf d 197 34 [a0, a1] [] h = Rf d 197 12 [a0, a1] [] h := Rf_go ((stp_of c197_34).trans rfl)
theorem c197_7 : cd 197 7 = some (7, .bipush (-3), 2, []) := by decide +kernel
theorem x197_7 {d : Nat} {a0 a1 : Value} {h : AHp} : Rf d 197 7 [a0, a1] [] h = Rf d 197 9 [a0, a1] [.int (-3)] h := Rf_go ((stp_of c197_7).trans rfl)
theorem c197_9 : cd 197 9 = some (9, .ireturn, 1, []) := by decide +kernel
theorem x197_9 {d : Nat} {a0 a1 : Value} {s0 : Int32} {h : AHp} : Rf d 197 9 [a0, a1] [.int s0] h = some (some (.int s0), h) := Rf_end (by rw [stp_of c197_9]; simp only [stpI]; rw [if_pos (show retI (mH 197).2.2.1 s0 = true from retI_int)])
-- 198: X12_count
theorem c198_0 : cd 198 0 = some (0, .iload_n 1, 1, []) := by decide +kernel
theorem x198_0 {d : Nat} {a0 : Value} {x : Int32} {h : AHp} : Rf d 198 0 [a0, .int x] [] h = Rf d 198 1 [a0, .int x] [.int x] h := Rf_go ((stp_of c198_0).trans rfl)
theorem c198_1 : cd 198 1 = some (1, .tableswitch 79 0 5 #[39, 46, 53, 60, 67, 74], 39, [(0, 80), (0, 40), (1, 47), (2, 54), (3, 61), (4, 68), (5, 75)]) := by decide +kernel
theorem x198_1 {d : Nat} {a0 a1 : Value} {s0 : Int32} {h : AHp} : Rf d 198 1 [a0, a1] [.int s0] h = if s0 = 0 then Rf d 198 40 [a0, a1] [] h else (if s0 = 1 then Rf d 198 47 [a0, a1] [] h else (if s0 = 2 then Rf d 198 54 [a0, a1] [] h else (if s0 = 3 then Rf d 198 61 [a0, a1] [] h else (if s0 = 4 then Rf d 198 68 [a0, a1] [] h else (if s0 = 5 then Rf d 198 75 [a0, a1] [] h else (Rf d 198 80 [a0, a1] [] h)))))) := (swE (e := 80) c198_1 rfl).trans (by simp only [List.drop, swT, Rf_ite]; rfl)
theorem c198_75 : cd 198 75 = some (75, .aload_n 0, 1, []) := by decide +kernel
theorem x198_75 {d : Nat} {a1 : Value} {x : Nat} {h : AHp} : Rf d 198 75 [.ref x, a1] [] h = Rf d 198 76 [.ref x, a1] [.ref x] h := Rf_go ((stp_of c198_75).trans rfl)
theorem c198_76 : cd 198 76 = some (76, .getfield 183, 3, [(12, 10)]) := by decide +kernel
theorem x198_76 {d : Nat} {a0 a1 : Value} {s0 : Nat} {h : AHp} : Rf d 198 76 [a0, a1] [.ref s0] h = if cls (h.1 s0) = 12 ∧ oKi (h.1 s0) 10 = true then Rf d 198 79 [a0, a1] [.int (oN (h.1 s0) 10)] h else Rx d 198 76 [a0, a1] [.ref s0] h := getI c198_76
theorem c198_79 : cd 198 79 = some (79, .ireturn, 1, []) := by decide +kernel
theorem x198_79 {d : Nat} {a0 a1 : Value} {s0 : Int32} {h : AHp} : Rf d 198 79 [a0, a1] [.int s0] h = some (some (.int s0), h) := Rf_end (by rw [stp_of c198_79]; simp only [stpI]; rw [if_pos (show retI (mH 198).2.2.1 s0 = true from retI_int)])
theorem c198_68 : cd 198 68 = some (68, .aload_n 0, 1, []) := by decide +kernel
theorem x198_68 {d : Nat} {a1 : Value} {x : Nat} {h : AHp} : Rf d 198 68 [.ref x, a1] [] h = Rf d 198 69 [.ref x, a1] [.ref x] h := Rf_go ((stp_of c198_68).trans rfl)
theorem c198_69 : cd 198 69 = some (69, .getfield 9, 3, [(12, 0)]) := by decide +kernel
theorem x198_69 {d : Nat} {a0 a1 : Value} {s0 : Nat} {h : AHp} : Rf d 198 69 [a0, a1] [.ref s0] h = if cls (h.1 s0) = 12 ∧ oKr (h.1 s0) 0 = true then Rf d 198 72 [a0, a1] [.ref (oR (h.1 s0) 0)] h else Rx d 198 69 [a0, a1] [.ref s0] h := getR c198_69
theorem c198_72 : cd 198 72 = some (72, .iconst 4, 1, []) := by decide +kernel
theorem x198_72 {d : Nat} {a0 a1 : Value} {s0 : Nat} {h : AHp} : Rf d 198 72 [a0, a1] [.ref s0] h = Rf d 198 73 [a0, a1] [.int 4, .ref s0] h := Rf_go ((stp_of c198_72).trans rfl)
theorem c198_73 : cd 198 73 = some (73, .iaload, 1, []) := by decide +kernel
theorem x198_73 {d : Nat} {a0 a1 : Value} {s0 : Int32} {s1 : Nat} {h : AHp} : Rf d 198 73 [a0, a1] [.int s0, .ref s1] h = if (aT (h.1 s1) = 0 ∨ aT (h.1 s1) = 10) ∧ inB s0 (aN (h.1 s1)) = true then Rf d 198 74 [a0, a1] [.int (aF (h.1 s1) s0.toNatClampNeg)] h else Rx d 198 73 [a0, a1] [.int s0, .ref s1] h := ldI c198_73
theorem c198_74 : cd 198 74 = some (74, .ireturn, 1, []) := by decide +kernel
theorem x198_74 {d : Nat} {a0 a1 : Value} {s0 : Int32} {h : AHp} : Rf d 198 74 [a0, a1] [.int s0] h = some (some (.int s0), h) := Rf_end (by rw [stp_of c198_74]; simp only [stpI]; rw [if_pos (show retI (mH 198).2.2.1 s0 = true from retI_int)])
theorem c198_61 : cd 198 61 = some (61, .aload_n 0, 1, []) := by decide +kernel
theorem x198_61 {d : Nat} {a1 : Value} {x : Nat} {h : AHp} : Rf d 198 61 [.ref x, a1] [] h = Rf d 198 62 [.ref x, a1] [.ref x] h := Rf_go ((stp_of c198_61).trans rfl)
theorem c198_62 : cd 198 62 = some (62, .getfield 9, 3, [(12, 0)]) := by decide +kernel
theorem x198_62 {d : Nat} {a0 a1 : Value} {s0 : Nat} {h : AHp} : Rf d 198 62 [a0, a1] [.ref s0] h = if cls (h.1 s0) = 12 ∧ oKr (h.1 s0) 0 = true then Rf d 198 65 [a0, a1] [.ref (oR (h.1 s0) 0)] h else Rx d 198 62 [a0, a1] [.ref s0] h := getR c198_62
theorem c198_65 : cd 198 65 = some (65, .iconst 3, 1, []) := by decide +kernel
theorem x198_65 {d : Nat} {a0 a1 : Value} {s0 : Nat} {h : AHp} : Rf d 198 65 [a0, a1] [.ref s0] h = Rf d 198 66 [a0, a1] [.int 3, .ref s0] h := Rf_go ((stp_of c198_65).trans rfl)
theorem c198_66 : cd 198 66 = some (66, .iaload, 1, []) := by decide +kernel
theorem x198_66 {d : Nat} {a0 a1 : Value} {s0 : Int32} {s1 : Nat} {h : AHp} : Rf d 198 66 [a0, a1] [.int s0, .ref s1] h = if (aT (h.1 s1) = 0 ∨ aT (h.1 s1) = 10) ∧ inB s0 (aN (h.1 s1)) = true then Rf d 198 67 [a0, a1] [.int (aF (h.1 s1) s0.toNatClampNeg)] h else Rx d 198 66 [a0, a1] [.int s0, .ref s1] h := ldI c198_66
theorem c198_67 : cd 198 67 = some (67, .ireturn, 1, []) := by decide +kernel
theorem x198_67 {d : Nat} {a0 a1 : Value} {s0 : Int32} {h : AHp} : Rf d 198 67 [a0, a1] [.int s0] h = some (some (.int s0), h) := Rf_end (by rw [stp_of c198_67]; simp only [stpI]; rw [if_pos (show retI (mH 198).2.2.1 s0 = true from retI_int)])
theorem c198_54 : cd 198 54 = some (54, .aload_n 0, 1, []) := by decide +kernel
theorem x198_54 {d : Nat} {a1 : Value} {x : Nat} {h : AHp} : Rf d 198 54 [.ref x, a1] [] h = Rf d 198 55 [.ref x, a1] [.ref x] h := Rf_go ((stp_of c198_54).trans rfl)
theorem c198_55 : cd 198 55 = some (55, .getfield 9, 3, [(12, 0)]) := by decide +kernel
theorem x198_55 {d : Nat} {a0 a1 : Value} {s0 : Nat} {h : AHp} : Rf d 198 55 [a0, a1] [.ref s0] h = if cls (h.1 s0) = 12 ∧ oKr (h.1 s0) 0 = true then Rf d 198 58 [a0, a1] [.ref (oR (h.1 s0) 0)] h else Rx d 198 55 [a0, a1] [.ref s0] h := getR c198_55
theorem c198_58 : cd 198 58 = some (58, .iconst 2, 1, []) := by decide +kernel
theorem x198_58 {d : Nat} {a0 a1 : Value} {s0 : Nat} {h : AHp} : Rf d 198 58 [a0, a1] [.ref s0] h = Rf d 198 59 [a0, a1] [.int 2, .ref s0] h := Rf_go ((stp_of c198_58).trans rfl)
theorem c198_59 : cd 198 59 = some (59, .iaload, 1, []) := by decide +kernel
theorem x198_59 {d : Nat} {a0 a1 : Value} {s0 : Int32} {s1 : Nat} {h : AHp} : Rf d 198 59 [a0, a1] [.int s0, .ref s1] h = if (aT (h.1 s1) = 0 ∨ aT (h.1 s1) = 10) ∧ inB s0 (aN (h.1 s1)) = true then Rf d 198 60 [a0, a1] [.int (aF (h.1 s1) s0.toNatClampNeg)] h else Rx d 198 59 [a0, a1] [.int s0, .ref s1] h := ldI c198_59
theorem c198_60 : cd 198 60 = some (60, .ireturn, 1, []) := by decide +kernel
theorem x198_60 {d : Nat} {a0 a1 : Value} {s0 : Int32} {h : AHp} : Rf d 198 60 [a0, a1] [.int s0] h = some (some (.int s0), h) := Rf_end (by rw [stp_of c198_60]; simp only [stpI]; rw [if_pos (show retI (mH 198).2.2.1 s0 = true from retI_int)])
theorem c198_47 : cd 198 47 = some (47, .aload_n 0, 1, []) := by decide +kernel
theorem x198_47 {d : Nat} {a1 : Value} {x : Nat} {h : AHp} : Rf d 198 47 [.ref x, a1] [] h = Rf d 198 48 [.ref x, a1] [.ref x] h := Rf_go ((stp_of c198_47).trans rfl)
theorem c198_48 : cd 198 48 = some (48, .getfield 9, 3, [(12, 0)]) := by decide +kernel
theorem x198_48 {d : Nat} {a0 a1 : Value} {s0 : Nat} {h : AHp} : Rf d 198 48 [a0, a1] [.ref s0] h = if cls (h.1 s0) = 12 ∧ oKr (h.1 s0) 0 = true then Rf d 198 51 [a0, a1] [.ref (oR (h.1 s0) 0)] h else Rx d 198 48 [a0, a1] [.ref s0] h := getR c198_48
theorem c198_51 : cd 198 51 = some (51, .iconst 1, 1, []) := by decide +kernel
theorem x198_51 {d : Nat} {a0 a1 : Value} {s0 : Nat} {h : AHp} : Rf d 198 51 [a0, a1] [.ref s0] h = Rf d 198 52 [a0, a1] [.int 1, .ref s0] h := Rf_go ((stp_of c198_51).trans rfl)
theorem c198_52 : cd 198 52 = some (52, .iaload, 1, []) := by decide +kernel
theorem x198_52 {d : Nat} {a0 a1 : Value} {s0 : Int32} {s1 : Nat} {h : AHp} : Rf d 198 52 [a0, a1] [.int s0, .ref s1] h = if (aT (h.1 s1) = 0 ∨ aT (h.1 s1) = 10) ∧ inB s0 (aN (h.1 s1)) = true then Rf d 198 53 [a0, a1] [.int (aF (h.1 s1) s0.toNatClampNeg)] h else Rx d 198 52 [a0, a1] [.int s0, .ref s1] h := ldI c198_52
theorem c198_53 : cd 198 53 = some (53, .ireturn, 1, []) := by decide +kernel
theorem x198_53 {d : Nat} {a0 a1 : Value} {s0 : Int32} {h : AHp} : Rf d 198 53 [a0, a1] [.int s0] h = some (some (.int s0), h) := Rf_end (by rw [stp_of c198_53]; simp only [stpI]; rw [if_pos (show retI (mH 198).2.2.1 s0 = true from retI_int)])
theorem c198_40 : cd 198 40 = some (40, .aload_n 0, 1, []) := by decide +kernel
theorem x198_40 {d : Nat} {a1 : Value} {x : Nat} {h : AHp} : Rf d 198 40 [.ref x, a1] [] h = Rf d 198 41 [.ref x, a1] [.ref x] h := Rf_go ((stp_of c198_40).trans rfl)
theorem c198_41 : cd 198 41 = some (41, .getfield 9, 3, [(12, 0)]) := by decide +kernel
theorem x198_41 {d : Nat} {a0 a1 : Value} {s0 : Nat} {h : AHp} : Rf d 198 41 [a0, a1] [.ref s0] h = if cls (h.1 s0) = 12 ∧ oKr (h.1 s0) 0 = true then Rf d 198 44 [a0, a1] [.ref (oR (h.1 s0) 0)] h else Rx d 198 41 [a0, a1] [.ref s0] h := getR c198_41
theorem c198_44 : cd 198 44 = some (44, .iconst 0, 1, []) := by decide +kernel
theorem x198_44 {d : Nat} {a0 a1 : Value} {s0 : Nat} {h : AHp} : Rf d 198 44 [a0, a1] [.ref s0] h = Rf d 198 45 [a0, a1] [.int 0, .ref s0] h := Rf_go ((stp_of c198_44).trans rfl)
theorem c198_45 : cd 198 45 = some (45, .iaload, 1, []) := by decide +kernel
theorem x198_45 {d : Nat} {a0 a1 : Value} {s0 : Int32} {s1 : Nat} {h : AHp} : Rf d 198 45 [a0, a1] [.int s0, .ref s1] h = if (aT (h.1 s1) = 0 ∨ aT (h.1 s1) = 10) ∧ inB s0 (aN (h.1 s1)) = true then Rf d 198 46 [a0, a1] [.int (aF (h.1 s1) s0.toNatClampNeg)] h else Rx d 198 45 [a0, a1] [.int s0, .ref s1] h := ldI c198_45
theorem c198_46 : cd 198 46 = some (46, .ireturn, 1, []) := by decide +kernel
theorem x198_46 {d : Nat} {a0 a1 : Value} {s0 : Int32} {h : AHp} : Rf d 198 46 [a0, a1] [.int s0] h = some (some (.int s0), h) := Rf_end (by rw [stp_of c198_46]; simp only [stpI]; rw [if_pos (show retI (mH 198).2.2.1 s0 = true from retI_int)])
theorem c198_80 : cd 198 80 = some (80, .iconst (-1), 1, []) := by decide +kernel
theorem x198_80 {d : Nat} {a0 a1 : Value} {h : AHp} : Rf d 198 80 [a0, a1] [] h = Rf d 198 81 [a0, a1] [.int (-1)] h := Rf_go ((stp_of c198_80).trans rfl)
theorem c198_81 : cd 198 81 = some (81, .ireturn, 1, []) := by decide +kernel
theorem x198_81 {d : Nat} {a0 a1 : Value} {s0 : Int32} {h : AHp} : Rf d 198 81 [a0, a1] [.int s0] h = some (some (.int s0), h) := Rf_end (by rw [stp_of c198_81]; simp only [stpI]; rw [if_pos (show retI (mH 198).2.2.1 s0 = true from retI_int)])
