-- deps: 46.told
/-! LOOKED. -/
def ukF (A : Nat → Int32) : Nat → Nat → Int32
  | _, 0 => -5
  | w, k + 1 => if A (20 + w) = A (116 + w) then ukF A (w + 1) k else nI w
def lsF (A : Nat → Int32) : Int32 → Nat → Nat → Int32 := lpF (fun a w => if A (20 + w) = A (116 + w) then a else if A (20 + w) < A (116 + w) then a + 1 else a)
def moF (A : Nat → Int32) : Int32 → Nat → Nat → Int32 := lpF (fun a w => if A (20 + w) = A (116 + w) then a else if A (20 + w) < A (116 + w) then a else a + 1)
def loR (A : Nat → Int32) (x : Int32) (f l m : Int32) (w k : Nat) : Int32 := if x = 0 then (if f < 0 then (if ukF A w k = -5 then f else ukF A w k) else f) else if x = 1 then lsF A l w k else moF A m w k
section LK
variable {d o pp q n cl : Nat} {kn : Nat → Nat} {A B C S : Nat → Int32} {h : AHp} {ml : List Cl}
theorem lp_fu (X0 : XF h) (F : OF h 33 A q kn) (D : PP h 60 A) {u : Nat} (hu : u ≤ 10) : ∀ (k w : Nat), w + k = u → Rf d 120 2 [.ref 32, .int (nI u), .int (nI w)] [] h = some (some (.int (ukF A w k)), h) := by
  intro k
  induction k with
  | zero =>
    intro w hw
    have c1 : ¬ nI w < nI u := nI_nlt (by omega) (by omega)
    simp only [x120_0, x120_1, x120_2, x120_3, x120_4, x120_7, x120_8, x120_11, x120_14, x120_15, x120_16, x120_17, x120_20, x120_23, x120_24, x120_25, x120_28, x120_29, x120_30, x120_33, x120_36, x120_38, c1, ↓reduceIte, ukF]
  | succ k ih =>
    intro w hw
    have c1 : nI w < nI u := nI_lt (by omega) (by omega)
    have c2 : inB (nI w) 10 = true := nI_inB (by omega) (by omega)
    have c3 : (nI w).toNatClampNeg = w := nI_clamp (by omega)
    have e1 := ih (w + 1) (by omega)
    rw [x120_2]
    simp only [x120_3, x120_4, x120_7, x120_8, x120_11, x120_14, x120_15, x120_16, x120_17, x120_20, x120_23, x120_24, x120_25, x120_28, x120_29, x120_30, x120_33, x120_36, x120_38, X0, F, D, c1, c2, c3, sub_at (show w < 10 by omega), nI_1, true_or, and_self, ↓reduceIte, ukF]
    by_cases y : A (20 + w) = A (116 + w)
    · simp only [y, ↓reduceIte]
      exact e1
    · simp only [y, ↓reduceIte]
theorem lp_ch1 (X0 : XF h) (F : OF h 33 A q kn) (D : PP h 60 A) {u : Nat} (hu : u ≤ 10) : ∀ (k w : Nat) (a : Int32), w + k = u → Rf d 121 5 [.ref 32, .int (nI u), .int 1, .int a, .int (nI w)] [] h = some (some (.int (lsF A a w k)), h) := by
  intro k
  induction k with
  | zero =>
    intro w a hw
    have c1 : ¬ nI w < nI u := nI_nlt (by omega) (by omega)
    simp only [x121_0, x121_1, x121_2, x121_3, x121_5, x121_7, x121_8, x121_11, x121_12, x121_15, x121_16, x121_19, x121_22, x121_24, x121_25, x121_26, x121_29, x121_32, x121_34, x121_35, x121_38, x121_41, x121_42, x121_45, x121_48, x121_50, x121_51, x121_52, x121_55, x121_58, x121_60, x121_61, x121_64, x121_67, x121_70, x121_73, x121_74, c1, ↓reduceIte, lsF, lpF]
  | succ k ih =>
    intro w a hw
    have c1 : nI w < nI u := nI_lt (by omega) (by omega)
    have c2 : inB (nI w) 10 = true := nI_inB (by omega) (by omega)
    have c3 : (nI w).toNatClampNeg = w := nI_clamp (by omega)
    rw [x121_5]
    have hs : lsF A a w (k + 1) = lsF A (if A (20 + w) = A (116 + w) then a else if A (20 + w) < A (116 + w) then a + 1 else a) (w + 1) k := rfl
    rw [hs]
    by_cases y : A (20 + w) = A (116 + w)
    · have e1 := ih (w + 1) a (by omega)
      have z : ¬ A (116 + w) < A (116 + w) := fun t => Int32.lt_irrefl t
      simp only [x121_7, x121_8, x121_11, x121_12, x121_15, x121_16, x121_19, x121_22, x121_24, x121_25, x121_26, x121_29, x121_32, x121_34, x121_35, x121_38, x121_41, x121_42, x121_45, x121_48, x121_50, x121_51, x121_52, x121_55, x121_58, x121_60, x121_61, x121_64, x121_67, x121_70, x121_73, x121_74, X0, F, D, c1, c2, c3, sub_at (show w < 10 by omega), nI_1, litZ, y, z, true_or, and_self, ↓reduceIte]
      exact e1
    · by_cases z : A (20 + w) < A (116 + w)
      · have e1 := ih (w + 1) (a + 1) (by omega)
        simp only [x121_7, x121_8, x121_11, x121_12, x121_15, x121_16, x121_19, x121_22, x121_24, x121_25, x121_26, x121_29, x121_32, x121_34, x121_35, x121_38, x121_41, x121_42, x121_45, x121_48, x121_50, x121_51, x121_52, x121_55, x121_58, x121_60, x121_61, x121_64, x121_67, x121_70, x121_73, x121_74, X0, F, D, c1, c2, c3, sub_at (show w < 10 by omega), nI_1, litZ, y, z, true_or, and_self, ↓reduceIte]
        exact e1
      · have e1 := ih (w + 1) a (by omega)
        simp only [x121_7, x121_8, x121_11, x121_12, x121_15, x121_16, x121_19, x121_22, x121_24, x121_25, x121_26, x121_29, x121_32, x121_34, x121_35, x121_38, x121_41, x121_42, x121_45, x121_48, x121_50, x121_51, x121_52, x121_55, x121_58, x121_60, x121_61, x121_64, x121_67, x121_70, x121_73, x121_74, X0, F, D, c1, c2, c3, sub_at (show w < 10 by omega), nI_1, litZ, y, z, true_or, and_self, ↓reduceIte]
        exact e1
theorem lp_ch0 (X0 : XF h) (F : OF h 33 A q kn) (D : PP h 60 A) {u : Nat} (hu : u ≤ 10) : ∀ (k w : Nat) (a : Int32), w + k = u → Rf d 121 5 [.ref 32, .int (nI u), .int 0, .int a, .int (nI w)] [] h = some (some (.int (moF A a w k)), h) := by
  intro k
  induction k with
  | zero =>
    intro w a hw
    have c1 : ¬ nI w < nI u := nI_nlt (by omega) (by omega)
    simp only [x121_0, x121_1, x121_2, x121_3, x121_5, x121_7, x121_8, x121_11, x121_12, x121_15, x121_16, x121_19, x121_22, x121_24, x121_25, x121_26, x121_29, x121_32, x121_34, x121_35, x121_38, x121_41, x121_42, x121_45, x121_48, x121_50, x121_51, x121_52, x121_55, x121_58, x121_60, x121_61, x121_64, x121_67, x121_70, x121_73, x121_74, c1, ↓reduceIte, moF, lpF]
  | succ k ih =>
    intro w a hw
    have c1 : nI w < nI u := nI_lt (by omega) (by omega)
    have c2 : inB (nI w) 10 = true := nI_inB (by omega) (by omega)
    have c3 : (nI w).toNatClampNeg = w := nI_clamp (by omega)
    rw [x121_5]
    have hs : moF A a w (k + 1) = moF A (if A (20 + w) = A (116 + w) then a else if A (20 + w) < A (116 + w) then a else a + 1) (w + 1) k := rfl
    rw [hs]
    by_cases y : A (20 + w) = A (116 + w)
    · have e1 := ih (w + 1) a (by omega)
      have z : ¬ A (116 + w) < A (116 + w) := fun t => Int32.lt_irrefl t
      simp only [x121_7, x121_8, x121_11, x121_12, x121_15, x121_16, x121_19, x121_22, x121_24, x121_25, x121_26, x121_29, x121_32, x121_34, x121_35, x121_38, x121_41, x121_42, x121_45, x121_48, x121_50, x121_51, x121_52, x121_55, x121_58, x121_60, x121_61, x121_64, x121_67, x121_70, x121_73, x121_74, X0, F, D, c1, c2, c3, sub_at (show w < 10 by omega), nI_1, y, z, true_or, and_self, ↓reduceIte]
      exact e1
    · by_cases z : A (20 + w) < A (116 + w)
      · have e1 := ih (w + 1) a (by omega)
        have z2 : ¬ A (116 + w) < A (20 + w) := fun t => Int32.lt_irrefl (Int32.lt_trans z t)
        simp only [x121_7, x121_8, x121_11, x121_12, x121_15, x121_16, x121_19, x121_22, x121_24, x121_25, x121_26, x121_29, x121_32, x121_34, x121_35, x121_38, x121_41, x121_42, x121_45, x121_48, x121_50, x121_51, x121_52, x121_55, x121_58, x121_60, x121_61, x121_64, x121_67, x121_70, x121_73, x121_74, X0, F, D, c1, c2, c3, sub_at (show w < 10 by omega), nI_1, y, z, z2, true_or, and_self, ↓reduceIte]
        exact e1
      · have e1 := ih (w + 1) (a + 1) (by omega)
        have z2 : A (116 + w) < A (20 + w) := Int32.lt_of_le_of_ne (Int32.not_lt.mp z) (fun t => y t.symm)
        simp only [x121_7, x121_8, x121_11, x121_12, x121_15, x121_16, x121_19, x121_22, x121_24, x121_25, x121_26, x121_29, x121_32, x121_34, x121_35, x121_38, x121_41, x121_42, x121_45, x121_48, x121_50, x121_51, x121_52, x121_55, x121_58, x121_60, x121_61, x121_64, x121_67, x121_70, x121_73, x121_74, X0, F, D, c1, c2, c3, sub_at (show w < 10 by omega), nI_1, y, z, z2, true_or, and_self, ↓reduceIte]
        exact e1
theorem uk_pos : ∀ (k w : Nat), w + k ≤ 10 → ukF A w k = -5 ∨ ¬ ukF A w k < 0 := by
  intro k
  induction k with
  | zero => intro w _; exact Or.inl rfl
  | succ k ih =>
    intro w hw
    unfold ukF
    split
    · exact ih _ (by omega)
    · exact Or.inr (nI_pos (by omega))
theorem lp_mlook (F : MF h o A B) {n l u : Nat} (h0 : A 0 = nI n) (h3 : A 3 = nI l) (hn : n ≤ 10) (hl : l ≤ 10) (hu : u = min n l) {x : Int32} : ∀ (k w : Nat) (f e m : Int32), w + k = u → Rf d 187 22 [.ref o, .int x, .int f, .int e, .int m, .int (nI w)] [] h = some (some (.int (loR A x f e m w k)), h) := by
  intro k
  induction k with
  | zero =>
    intro w f e m hw
    have fin : Rf d 187 115 [.ref o, .int x, .int f, .int e, .int m, .int (nI w)] [] h = some (some (.int (loR A x f e m w 0)), h) := by
      by_cases y : x = 0
      · simp only [x187_115, x187_116, x187_119, x187_120, x187_123, x187_124, x187_125, x187_128, x187_129, x187_132, x187_134, y, ↓reduceIte, loR, ukF, ite_self]
      · by_cases y2 : x = 1
        · simp only [x187_115, x187_116, x187_119, x187_120, x187_123, x187_124, x187_125, x187_128, x187_129, x187_132, x187_134, y2, litZ, ↓reduceIte, loR, lsF, lpF]
        · simp only [x187_115, x187_116, x187_119, x187_120, x187_123, x187_124, x187_125, x187_128, x187_129, x187_132, x187_134, y, y2, ↓reduceIte, loR, moF, lpF]
    by_cases c : w < n
    · have c1 : nI w < nI n := nI_lt (by omega) (by omega)
      have c2 : ¬ nI w < nI l := nI_nlt (by omega) (by omega)
      simp only [x187_22, x187_24, x187_25, x187_28, x187_29, x187_30, x187_33, x187_35, x187_36, x187_39, x187_40, x187_41, F, ixL, h0, h3, c1, c2, true_or, and_self, ↓reduceIte]
      exact fin
    · have c1 : ¬ nI w < nI n := nI_nlt (by omega) (by omega)
      simp only [x187_22, x187_24, x187_25, x187_28, x187_29, x187_30, x187_33, x187_35, x187_36, x187_39, x187_40, x187_41, F, ixL, h0, h3, c1, true_or, and_self, ↓reduceIte]
      exact fin
  | succ k ih =>
    intro w f e m hw
    have c1 : nI w < nI n := nI_lt (by omega) (by omega)
    have c2 : nI w < nI l := nI_lt (by omega) (by omega)
    have i20 : (20 : Int32) + nI w = nI (20 + w) ∧ inB (nI (20 + w)) 931 = true ∧ (nI (20 + w)).toNatClampNeg = 20 + w := ixs 20 w (by omega)
    have i116 : (116 : Int32) + nI w = nI (116 + w) ∧ inB (nI (116 + w)) 931 = true ∧ (nI (116 + w)).toNatClampNeg = 116 + w := ixs 116 w (by omega)
    have wp : ¬ nI w < 0 := nI_pos (by omega)
    have w5 : ¬ nI w = -5 := fun z => wp (by rw [z]; decide)
    rw [x187_22]
    by_cases y : A (20 + w) = A (116 + w)
    · have e1 := ih (w + 1) f e m (by omega)
      have hs : loR A x f e m w (k + 1) = loR A x f e m (w + 1) k := by
        simp only [loR, ukF, lsF, moF, lpF, y, ↓reduceIte]
      rw [hs]
      simp only [x187_24, x187_25, x187_28, x187_29, x187_30, x187_33, x187_35, x187_36, x187_39, x187_40, x187_41, x187_44, x187_45, x187_48, x187_50, x187_52, x187_53, x187_54, x187_55, x187_58, x187_60, x187_62, x187_63, x187_64, x187_67, x187_70, x187_71, x187_74, x187_76, x187_77, x187_78, x187_81, x187_83, x187_85, x187_86, x187_87, x187_88, x187_91, x187_93, x187_95, x187_96, x187_97, x187_100, x187_103, x187_106, x187_109, x187_112, F, ixL, h0, h3, c1, c2, i20, i116, y, nI_1, true_or, and_self, ↓reduceIte]
      exact e1
    · have hu : ukF A w (k + 1) = nI w := by
        simp only [ukF, y, ↓reduceIte]
      by_cases z : A (20 + w) < A (116 + w)
      · have hs : loR A x f e m w (k + 1) = loR A x (if f < 0 then nI w else f) (e + 1) m (w + 1) k := by
          simp only [loR, hu, lsF, moF, lpF, y, z, w5, ↓reduceIte]
          by_cases ff : f < 0
          · simp only [ff, wp, ↓reduceIte]
          · simp only [ff, ↓reduceIte]
        rw [hs]
        by_cases ff : f < 0
        · have e1 := ih (w + 1) (nI w) (e + 1) m (by omega)
          simp only [x187_24, x187_25, x187_28, x187_29, x187_30, x187_33, x187_35, x187_36, x187_39, x187_40, x187_41, x187_44, x187_45, x187_48, x187_50, x187_52, x187_53, x187_54, x187_55, x187_58, x187_60, x187_62, x187_63, x187_64, x187_67, x187_70, x187_71, x187_74, x187_76, x187_77, x187_78, x187_81, x187_83, x187_85, x187_86, x187_87, x187_88, x187_91, x187_93, x187_95, x187_96, x187_97, x187_100, x187_103, x187_106, x187_109, x187_112, F, ixL, h0, h3, c1, c2, i20, i116, y, z, ff, nI_1, true_or, and_self, ↓reduceIte]
          exact e1
        · have e1 := ih (w + 1) f (e + 1) m (by omega)
          simp only [x187_24, x187_25, x187_28, x187_29, x187_30, x187_33, x187_35, x187_36, x187_39, x187_40, x187_41, x187_44, x187_45, x187_48, x187_50, x187_52, x187_53, x187_54, x187_55, x187_58, x187_60, x187_62, x187_63, x187_64, x187_67, x187_70, x187_71, x187_74, x187_76, x187_77, x187_78, x187_81, x187_83, x187_85, x187_86, x187_87, x187_88, x187_91, x187_93, x187_95, x187_96, x187_97, x187_100, x187_103, x187_106, x187_109, x187_112, F, ixL, h0, h3, c1, c2, i20, i116, y, z, ff, nI_1, true_or, and_self, ↓reduceIte]
          exact e1
      · have hs : loR A x f e m w (k + 1) = loR A x (if f < 0 then nI w else f) e (m + 1) (w + 1) k := by
          simp only [loR, hu, lsF, moF, lpF, y, z, w5, ↓reduceIte]
          by_cases ff : f < 0
          · simp only [ff, wp, ↓reduceIte]
          · simp only [ff, ↓reduceIte]
        rw [hs]
        by_cases ff : f < 0
        · have e1 := ih (w + 1) (nI w) e (m + 1) (by omega)
          simp only [x187_24, x187_25, x187_28, x187_29, x187_30, x187_33, x187_35, x187_36, x187_39, x187_40, x187_41, x187_44, x187_45, x187_48, x187_50, x187_52, x187_53, x187_54, x187_55, x187_58, x187_60, x187_62, x187_63, x187_64, x187_67, x187_70, x187_71, x187_74, x187_76, x187_77, x187_78, x187_81, x187_83, x187_85, x187_86, x187_87, x187_88, x187_91, x187_93, x187_95, x187_96, x187_97, x187_100, x187_103, x187_106, x187_109, x187_112, F, ixL, h0, h3, c1, c2, i20, i116, y, z, ff, nI_1, true_or, and_self, ↓reduceIte]
          exact e1
        · have e1 := ih (w + 1) f e (m + 1) (by omega)
          simp only [x187_24, x187_25, x187_28, x187_29, x187_30, x187_33, x187_35, x187_36, x187_39, x187_40, x187_41, x187_44, x187_45, x187_48, x187_50, x187_52, x187_53, x187_54, x187_55, x187_58, x187_60, x187_62, x187_63, x187_64, x187_67, x187_70, x187_71, x187_74, x187_76, x187_77, x187_78, x187_81, x187_83, x187_85, x187_86, x187_87, x187_88, x187_91, x187_93, x187_95, x187_96, x187_97, x187_100, x187_103, x187_106, x187_109, x187_112, F, ixL, h0, h3, c1, c2, i20, i116, y, z, ff, nI_1, true_or, and_self, ↓reduceIte]
          exact e1
theorem mn_nI {a b : Nat} (ha : a < 2 ^ 31) (hb : b < 2 ^ 31) : mn (nI a) (nI b) = nI (min a b) := by
  unfold mn
  by_cases c : b < a
  · rw [if_pos (nI_lt c ha), Nat.min_eq_right (by omega)]
  · rw [if_neg (nI_nlt (by omega) (by omega)), Nat.min_eq_left (by omega)]
theorem pr_looked (G : GI h) {x : Int32} : PR h 119 187 [.ref 32, .int x, noV] [.ref 128, .int x, noV, noV, noV, noV] := by
  obtain ⟨A, B, im, rn, T, n, C, cl, ml, q, kn, n2, C2, cl2, ml2, q2, kn2, G⟩ := G
  obtain ⟨F, K, D, R, Q, H, Mh, HRm, DD, l1, l2⟩ := G.2.2.2.1
  have X0 := G.1
  have m1 := G.2.2.2.2.2.2.2.2.1.1
  by_cases hx : ¬ x < 0 ∧ ¬ 2 < x
  · have hn := R.1
    obtain ⟨l, hl, h3⟩ := Q.2.1
    have hmn : mn (A 3) (A 0) = nI (min n l) := by
      rw [R.2.1, h3, mn_nI (by omega) (by omega), Nat.min_comm]
    have f0 := lp_mlook (d := 0) m1 R.2.1 h3 hn hl rfl (x := x) (min n l) 0 (-5) 0 0 (by omega)
    rw [nI_0] at f0
    have mu : min n l ≤ 10 := by omega
    refine PR_ro (dc := 3) (dm := 2) (v := loR A x (-5) 0 0 0 (min n l)) ?_ (by
      simp only [x187_0, x187_1, x187_2, x187_6, x187_9, x187_10, x187_11, x187_13, x187_14, x187_15, x187_16, x187_17, x187_19, x187_20, xc187_3 (sp_mwithin (d := 1)), b2_0, hx, not_true_eq_false, not_false_eq_true, and_self, ↓reduceIte]
      exact Rf_up (by decide) f0) (by decide) (by decide) G (same2 rfl)
    by_cases y : x = 0
    · subst y
      have e0 := lp_fu (d := 2) X0 F D mu (min n l) 0 (by omega)
      rw [nI_0] at e0
      have e1 : Rf 2 120 0 [.ref 32, .int (nI (min n l)), noV] [] h = some (some (.int (ukF A 0 (min n l))), h) := by
        simp only [x120_0, x120_1]
        exact e0
      have hv : loR A 0 (-5) 0 0 0 (min n l) = ukF A 0 (min n l) := by
        simp only [loR, show (-5 : Int32) < 0 from by decide, ↓reduceIte]
        split
        · next e => exact e.symm
        · rfl
      rw [hv]
      simp only [x119_0, x119_1, x119_5, x119_8, x119_9, x119_10, x119_11, x119_14, x119_17, x119_18, x119_21, x119_27, x119_28, x119_29, x119_32, x119_33, x119_37, x119_40, x119_41, x119_42, x119_43, x119_44, x119_47, x119_48, x119_51, x119_55, xc119_2 (sp_within (d := 2)), xc119_24 (sp_min (d := 2)), xc119_34 X0.1 e1, X0, F, D, hmn, b2_0, hx, not_true_eq_false, not_false_eq_true, and_self, ↓reduceIte]
    · by_cases y1 : x = 1
      · subst y1
        have e0 := lp_ch1 (d := 2) X0 F D mu (min n l) 0 0 (by omega)
        rw [nI_0] at e0
        have e1 : Rf 2 121 0 [.ref 32, .int (nI (min n l)), .int 1, noV, noV] [] h = some (some (.int (lsF A 0 0 (min n l))), h) := by
          simp only [x121_0, x121_1, x121_2, x121_3]
          exact e0
        have hv : loR A 1 (-5) 0 0 0 (min n l) = lsF A 0 0 (min n l) := by
          simp only [loR, litZ, ↓reduceIte]
        rw [hv]
        simp only [x119_0, x119_1, x119_5, x119_8, x119_9, x119_10, x119_11, x119_14, x119_17, x119_18, x119_21, x119_27, x119_28, x119_29, x119_32, x119_33, x119_37, x119_40, x119_41, x119_42, x119_43, x119_44, x119_47, x119_48, x119_51, x119_55, xc119_2 (sp_within (d := 2)), xc119_24 (sp_min (d := 2)), xc119_52 X0.1 e1, X0, F, D, hmn, litZ, b2_0, hx, not_true_eq_false, not_false_eq_true, and_self, ↓reduceIte]
      · have e0 := lp_ch0 (d := 2) X0 F D mu (min n l) 0 0 (by omega)
        rw [nI_0] at e0
        have e1 : Rf 2 121 0 [.ref 32, .int (nI (min n l)), .int 0, noV, noV] [] h = some (some (.int (moF A 0 0 (min n l))), h) := by
          simp only [x121_0, x121_1, x121_2, x121_3]
          exact e0
        have hv : loR A x (-5) 0 0 0 (min n l) = moF A 0 0 (min n l) := by
          simp only [loR, y, y1, ↓reduceIte]
        rw [hv]
        simp only [x119_0, x119_1, x119_5, x119_8, x119_9, x119_10, x119_11, x119_14, x119_17, x119_18, x119_21, x119_27, x119_28, x119_29, x119_32, x119_33, x119_37, x119_40, x119_41, x119_42, x119_43, x119_44, x119_47, x119_48, x119_51, x119_55, xc119_2 (sp_within (d := 2)), xc119_24 (sp_min (d := 2)), xc119_52 X0.1 e1, X0, F, D, hmn, y, y1, b2_0, hx, not_true_eq_false, not_false_eq_true, and_self, ↓reduceIte]
  · exact PR_ro (dc := 3) (dm := 2) (v := -1) (by simp only [x119_0, x119_1, x119_5, x119_8, x119_9, x119_10, x119_11, x119_14, x119_17, x119_18, x119_21, x119_27, x119_28, x119_29, x119_32, x119_33, x119_37, x119_40, x119_41, x119_42, x119_43, x119_44, x119_47, x119_48, x119_51, x119_55, xc119_2 (sp_within (d := 2)), b2_0, hx, not_false_eq_true, ↓reduceIte]) (by simp only [x187_0, x187_1, x187_2, x187_6, x187_9, x187_10, x187_11, x187_13, x187_14, x187_15, x187_16, x187_17, x187_19, x187_20, xc187_3 (sp_mwithin (d := 1)), b2_0, hx, not_false_eq_true, ↓reduceIte]) (by decide) (by decide) G (same2 rfl)
end LK
