-- deps: 45.inv 24.x_papers
section TO
variable {d o q n cl pp : Nat} {kn : Nat → Nat} {A B C T : Nat → Int32} {h : AHp} {ml : List Cl} {im rn : Int32}
theorem pr_told (G : GI h) {x : Int32} : PR h 97 156 [.ref 32, .int x] [.ref 128, .int x] := by
  obtain ⟨A, B, im, rn, T, n, C, cl, ml, q, kn, n2, C2, cl2, ml2, q2, kn2, G⟩ := G
  obtain ⟨F, K, D, R, Q, H, Mh, HRm, DD, l1, l2⟩ := G.2.2.2.1
  have X0 := G.1
  have m1 := G.2.2.2.2.2.2.2.2.1.1
  obtain ⟨W, N, E, HF0, Z⟩ := H
  have eg := sp_gap (d := 0) F R
  have ep := sp_allPay (d := 0) F R
  have mg := sp_mgap (d := 0) m1 R
  have mp := sp_mpays (d := 0) m1 R
  have mL := sp_leave (d := 0) m1 Mh
  have mR := sp_rise (d := 0) m1 Mh
  by_cases x0 : x = 0
  · subst x0
    exact PR_ro (dc := 2) (dm := 2) (v := la 3 20 ml) (by simp only [x97_0, x97_1, x97_40, x97_41, x97_44, x97_47, x97_50, X0, F, HF0, and_self, ↓reduceIte]) (by simp only [x156_0, x156_1, x156_40, x156_44, xc156_41 m1.1 mL, ↓reduceIte]) (by decide) (by decide) G (same2 rfl)
  by_cases x1 : x = 1
  · subst x1
    exact PR_ro (dc := 2) (dm := 2) (v := la 4 5 ml) (by simp only [x97_0, x97_1, x97_40, x97_41, x97_44, x97_47, x97_50, x97_51, x97_52, x97_55, x97_58, x97_61, X0, F, HF0, and_self, litZ, ↓reduceIte]) (by simp only [x156_0, x156_1, x156_40, x156_44, x156_45, x156_49, xc156_46 m1.1 mR, litZ, ↓reduceIte]) (by decide) (by decide) G (same2 rfl)
  by_cases x2 : x = 2
  · subst x2
    exact PR_ro (dc := 2) (dm := 2) (v := A 5) (by simp only [x97_0, x97_1, x97_40, x97_41, x97_44, x97_47, x97_50, x97_51, x97_52, x97_55, x97_58, x97_61, x97_62, x97_63, x97_66, x97_69, X0, F, x0, x1, and_self, ↓reduceIte]) (by simp only [x156_0, x156_1, x156_40, x156_44, x156_45, x156_49, x156_50, x156_51, x156_54, x156_55, x156_56, m1, ixL, x0, x1, true_or, and_self, ↓reduceIte]) (by decide) (by decide) G (same2 rfl)
  by_cases x3 : x = 3
  · subst x3
    exact PR_ro (dc := 2) (dm := 2) (v := A 6) (by simp only [x97_0, x97_1, x97_40, x97_41, x97_44, x97_47, x97_50, x97_51, x97_52, x97_55, x97_58, x97_61, x97_62, x97_63, x97_66, x97_69, x97_70, x97_71, x97_74, x97_77, X0, F, x0, x1, x2, and_self, ↓reduceIte]) (by simp only [x156_0, x156_1, x156_40, x156_44, x156_45, x156_49, x156_50, x156_51, x156_54, x156_55, x156_56, x156_57, x156_58, x156_61, x156_63, x156_64, m1, ixL, x0, x1, x2, true_or, and_self, ↓reduceIte]) (by decide) (by decide) G (same2 rfl)
  by_cases x4 : x = 4
  · subst x4
    exact PR_ro (dc := 2) (dm := 2) (v := gapF A n) (by simp only [x97_0, x97_1, x97_40, x97_41, x97_44, x97_47, x97_50, x97_51, x97_52, x97_55, x97_58, x97_61, x97_62, x97_63, x97_66, x97_69, x97_70, x97_71, x97_74, x97_77, x97_78, x97_79, x97_85, xc97_82 F.1 eg, X0, x0, x1, x2, x3, and_self, ↓reduceIte]) (by simp only [x156_0, x156_1, x156_40, x156_44, x156_45, x156_49, x156_50, x156_51, x156_54, x156_55, x156_56, x156_57, x156_58, x156_61, x156_63, x156_64, x156_65, x156_69, xc156_66 m1.1 (sp_mgap (d := 1) m1 R), x0, x1, x2, x3, and_self, ↓reduceIte]) (by decide) (by decide) G (same2 rfl)
  by_cases x5 : x = 5
  · subst x5
    exact PR_ro (dc := 1) (dm := 1) (v := pays A) (by simp only [x97_0, x97_1, x97_40, x97_41, x97_44, x97_47, x97_50, x97_51, x97_52, x97_55, x97_58, x97_61, x97_62, x97_63, x97_66, x97_69, x97_70, x97_71, x97_74, x97_77, x97_78, x97_79, x97_85, x97_86, x97_87, x97_93, x97_94, x97_97, xc97_90 F.1 ep, X0, x0, x1, x2, x3, x4, and_self, ↓reduceIte]) (by simp only [x156_0, x156_1, x156_40, x156_44, x156_45, x156_49, x156_50, x156_51, x156_54, x156_55, x156_56, x156_57, x156_58, x156_61, x156_63, x156_64, x156_65, x156_69, x156_70, x156_74, x156_75, x156_78, xc156_71 m1.1 mp, x0, x1, x2, x3, x4, and_self, ↓reduceIte]) (by decide) (by decide) G (same2 rfl)
  · exact PR_ro (dc := 1) (dm := 1) (v := -10001) (by simp only [x97_0, x97_1, x97_40, x97_41, x97_44, x97_47, x97_50, x97_51, x97_52, x97_55, x97_58, x97_61, x97_62, x97_63, x97_66, x97_69, x97_70, x97_71, x97_74, x97_77, x97_78, x97_79, x97_85, x97_86, x97_87, x97_93, x97_94, x97_97, x0, x1, x2, x3, x4, x5, ↓reduceIte]) (by simp only [x156_0, x156_1, x156_40, x156_44, x156_45, x156_49, x156_50, x156_51, x156_54, x156_55, x156_56, x156_57, x156_58, x156_61, x156_63, x156_64, x156_65, x156_69, x156_70, x156_74, x156_75, x156_78, x0, x1, x2, x3, x4, x5, ↓reduceIte]) (by decide) (by decide) G (same2 rfl)
theorem pr_count (G : GI h) {x : Int32} : PR h 128 198 [.ref 32, .int x] [.ref 128, .int x] := by
  obtain ⟨A, B, im, rn, T, n, C, cl, ml, q, kn, n2, C2, cl2, ml2, q2, kn2, G⟩ := G
  obtain ⟨F, K, D, R, Q, H, Mh, HRm, DD, l1, l2⟩ := G.2.2.2.1
  have X0 := G.1
  have m1 := G.2.2.2.2.2.2.2.2.1.1
  have m3 := G.2.2.2.2.2.2.2.2.1.2.2.1
  obtain ⟨t1, t2, t3, t4, t5, t6, t7, t8, t9⟩ := G.2.2.2.2.2.2.1
  by_cases x0 : x = 0
  · subst x0
    exact PR_ro (dc := 1) (dm := 1) (v := A 0) (by simp only [x128_0, x128_1, x128_40, x128_41, x128_44, x128_47, X0, F, and_self, ↓reduceIte]) (by simp only [x198_0, x198_1, x198_40, x198_41, x198_44, x198_45, x198_46, m1, ixL, true_or, and_self, ↓reduceIte]) (by decide) (by decide) G (same2 rfl)
  by_cases x1 : x = 1
  · subst x1
    exact PR_ro (dc := 1) (dm := 1) (v := A 1) (by simp only [x128_0, x128_1, x128_40, x128_41, x128_44, x128_47, x128_48, x128_49, x128_52, x128_55, X0, F, x0, and_self, ↓reduceIte]) (by simp only [x198_0, x198_1, x198_40, x198_41, x198_44, x198_45, x198_46, x198_47, x198_48, x198_51, x198_52, x198_53, m1, ixL, x0, true_or, and_self, ↓reduceIte]) (by decide) (by decide) G (same2 rfl)
  by_cases x2 : x = 2
  · subst x2
    exact PR_ro (dc := 1) (dm := 1) (v := A 2) (by simp only [x128_0, x128_1, x128_40, x128_41, x128_44, x128_47, x128_48, x128_49, x128_52, x128_55, x128_56, x128_57, x128_60, x128_63, X0, D, x0, x1, and_self, ↓reduceIte]) (by simp only [x198_0, x198_1, x198_40, x198_41, x198_44, x198_45, x198_46, x198_47, x198_48, x198_51, x198_52, x198_53, x198_54, x198_55, x198_58, x198_59, x198_60, m1, ixL, x0, x1, true_or, and_self, ↓reduceIte]) (by decide) (by decide) G (same2 rfl)
  by_cases x3 : x = 3
  · subst x3
    exact PR_ro (dc := 1) (dm := 1) (v := A 3) (by simp only [x128_0, x128_1, x128_40, x128_41, x128_44, x128_47, x128_48, x128_49, x128_52, x128_55, x128_56, x128_57, x128_60, x128_63, x128_64, x128_65, x128_68, x128_71, X0, D, x0, x1, x2, and_self, ↓reduceIte]) (by simp only [x198_0, x198_1, x198_40, x198_41, x198_44, x198_45, x198_46, x198_47, x198_48, x198_51, x198_52, x198_53, x198_54, x198_55, x198_58, x198_59, x198_60, x198_61, x198_62, x198_65, x198_66, x198_67, m1, ixL, x0, x1, x2, true_or, and_self, ↓reduceIte]) (by decide) (by decide) G (same2 rfl)
  by_cases x4 : x = 4
  · subst x4
    exact PR_ro (dc := 1) (dm := 1) (v := A 4) (by simp only [x128_0, x128_1, x128_40, x128_41, x128_44, x128_47, x128_48, x128_49, x128_52, x128_55, x128_56, x128_57, x128_60, x128_63, x128_64, x128_65, x128_68, x128_71, x128_72, x128_73, x128_76, x128_79, X0, D, x0, x1, x2, x3, and_self, ↓reduceIte]) (by simp only [x198_0, x198_1, x198_40, x198_41, x198_44, x198_45, x198_46, x198_47, x198_48, x198_51, x198_52, x198_53, x198_54, x198_55, x198_58, x198_59, x198_60, x198_61, x198_62, x198_65, x198_66, x198_67, x198_68, x198_69, x198_72, x198_73, x198_74, m1, ixL, x0, x1, x2, x3, true_or, and_self, ↓reduceIte]) (by decide) (by decide) G (same2 rfl)
  by_cases x5 : x = 5
  · subst x5
    exact PR_ro (dc := 1) (dm := 1) (v := rn) (by simp only [x128_0, x128_1, x128_40, x128_41, x128_44, x128_47, x128_48, x128_49, x128_52, x128_55, x128_56, x128_57, x128_60, x128_63, x128_64, x128_65, x128_68, x128_71, x128_72, x128_73, x128_76, x128_79, x128_80, x128_81, x128_84, x128_87, x128_88, x128_89, X0, t1, t5, t6, x0, x1, x2, x3, x4, and_self, ↓reduceIte]) (by simp only [x198_0, x198_1, x198_40, x198_41, x198_44, x198_45, x198_46, x198_47, x198_48, x198_51, x198_52, x198_53, x198_54, x198_55, x198_58, x198_59, x198_60, x198_61, x198_62, x198_65, x198_66, x198_67, x198_68, x198_69, x198_72, x198_73, x198_74, x198_75, x198_76, x198_79, x198_80, x198_81, m1, m3, x0, x1, x2, x3, x4, and_self, ↓reduceIte]) (by decide) (by decide) G (same2 rfl)
  · exact PR_ro (dc := 1) (dm := 1) (v := -1) (by simp only [x128_0, x128_1, x128_40, x128_41, x128_44, x128_47, x128_48, x128_49, x128_52, x128_55, x128_56, x128_57, x128_60, x128_63, x128_64, x128_65, x128_68, x128_71, x128_72, x128_73, x128_76, x128_79, x128_80, x128_81, x128_84, x128_87, x128_88, x128_89, x0, x1, x2, x3, x4, x5, ↓reduceIte]) (by simp only [x198_0, x198_1, x198_40, x198_41, x198_44, x198_45, x198_46, x198_47, x198_48, x198_51, x198_52, x198_53, x198_54, x198_55, x198_58, x198_59, x198_60, x198_61, x198_62, x198_65, x198_66, x198_67, x198_68, x198_69, x198_72, x198_73, x198_74, x198_75, x198_76, x198_79, x198_80, x198_81, x0, x1, x2, x3, x4, x5, ↓reduceIte]) (by decide) (by decide) G (same2 rfl)
theorem pr_trace (G : GI h) {i : Int32} : PR h 123 194 [.ref 32, .int i] [.ref 128, .int i] := by
  obtain ⟨A, B, im, rn, T, n, C, cl, ml, q, kn, n2, C2, cl2, ml2, q2, kn2, G⟩ := G
  have X0 := G.1
  have m1 := G.2.2.2.2.2.2.2.2.1.1
  have m3 := G.2.2.2.2.2.2.2.2.1.2.2.1
  have m4 := G.2.2.2.2.2.2.2.2.1.2.2.2
  obtain ⟨t1, t2, t3, t4, t5, t6, t7, t8, t9⟩ := G.2.2.2.2.2.2.1
  obtain ⟨r, hr, hr2⟩ := G.2.2.2.2.2.2.2.1
  have m5 : aF (h.1 (128 + 7)) = T := m4
  have key : (¬ i < 0 ∧ ¬ mn rn 20 - 1 < i) ↔ (¬ i < 0 ∧ i < rn ∧ i < 20) := by
    constructor
    · rintro ⟨a, b⟩
      obtain ⟨j, hj, rfl⟩ := nI_of a
      refine ⟨a, ?_⟩
      refine Classical.byContradiction (fun z => ?_)
      apply b
      rw [hr2] at z ⊢
      unfold mn
      by_cases y : (20 : Int32) < nI r
      · rw [if_pos y]
        have y2 : 20 < r := (nI_ltI (a := 20) (b := r) (by omega) (by omega)).mp y
        have : 20 ≤ j := by
          rcases Nat.lt_or_ge j 20 with u | u
          · exact absurd ⟨nI_lt (a := j) (b := r) (by omega) (by omega), nI_lt (a := j) (b := 20) u (by omega)⟩ z
          · exact u
        exact nI_lt (a := 19) (b := j) (by omega) hj
      · rw [if_neg y]
        have y2 : r ≤ 20 := by
          rcases Nat.lt_or_ge 20 r with u | u
          · exact absurd (nI_lt (a := 20) (b := r) u (by omega)) y
          · exact u
        have : r ≤ j := by
          rcases Nat.lt_or_ge j r with u | u
          · exact absurd ⟨nI_lt (a := j) (b := r) (by omega) (by omega), nI_lt (a := j) (b := 20) (by omega) (by omega)⟩ z
          · exact u
        cases r with
        | zero =>
          rw [show nI 0 - 1 = -1 from by decide, Int32.lt_iff_toInt_lt, nI_toInt hj]
          have : (-1 : Int32).toInt = -1 := by decide
          omega
        | succ r => rw [nI_pred]; exact nI_lt (by omega) hj
    · rintro ⟨a, b, c⟩
      refine ⟨a, ?_⟩
      obtain ⟨j, hj, rfl⟩ := nI_of a
      rw [hr2] at b ⊢
      have b2 := (nI_ltI hj (by omega)).mp b
      have c2 := (nI_ltI (b := 20) hj (by omega)).mp c
      unfold mn
      by_cases y : (20 : Int32) < nI r
      · rw [if_pos y]
        exact nI_nlt (b := j) (a := 19) (by omega) (by omega)
      · rw [if_neg y]
        obtain ⟨u, rfl⟩ : ∃ u, r = u + 1 := ⟨r - 1, by omega⟩
        rw [nI_pred]
        exact nI_nlt (by omega) (by omega)
  by_cases z : ¬ i < 0 ∧ i < rn ∧ i < 20
  · have z2 := key.mpr z
    obtain ⟨j, hj, rfl⟩ := nI_of z.1
    have hj20 : j < 20 := (nI_ltI (b := 20) hj (by omega)).mp z.2.2
    have j2 : inB (nI j) 20 = true := nI_inB hj20 (by omega)
    exact PR_ro (dc := 1) (dm := 1) (v := T (nI j).toNatClampNeg) (by simp only [x123_0, x123_1, x123_4, x123_5, x123_6, x123_9, x123_12, x123_15, x123_16, x123_18, x123_21, x123_22, x123_25, x123_26, x123_29, x123_32, x123_33, x123_34, X0, t1, t3, t4, t5, t6, t7, t8, t9, z, j2, true_or, and_self, ↓reduceIte]) (by simp only [x194_0, x194_1, x194_2, x194_3, x194_6, x194_11, x194_12, x194_16, x194_19, x194_20, x194_23, x194_24, x194_25, x194_28, x194_29, xc194_8 (sp_min (d := 0)), xc194_13 (sp_mwithin (d := 0)), m1, m3, m5, b2_0, z2, j2, true_or, not_true_eq_false, not_false_eq_true, and_self, ↓reduceIte]) (by decide) (by decide) G (same2 rfl)
  · have z2 : ¬ (¬ i < 0 ∧ ¬ mn rn 20 - 1 < i) := fun y => z (key.mp y)
    refine PR_ro (dc := 1) (dm := 1) (v := -1) ?_ (by simp only [x194_0, x194_1, x194_2, x194_3, x194_6, x194_11, x194_12, x194_16, x194_19, x194_20, x194_23, x194_24, x194_25, x194_28, x194_29, xc194_8 (sp_min (d := 0)), xc194_13 (sp_mwithin (d := 0)), m1, m3, b2_0, z2, not_false_eq_true, and_self, ↓reduceIte]) (by decide) (by decide) G (same2 rfl)
    by_cases a : i < 0
    · simp only [x123_0, x123_1, x123_4, x123_5, x123_6, x123_9, x123_12, x123_15, x123_16, x123_18, x123_21, x123_22, x123_25, x123_26, x123_29, x123_32, x123_33, x123_34, a, ↓reduceIte]
    · by_cases b : i < rn
      · have c : ¬ i < 20 := fun y => z ⟨a, b, y⟩
        simp only [x123_0, x123_1, x123_4, x123_5, x123_6, x123_9, x123_12, x123_15, x123_16, x123_18, x123_21, x123_22, x123_25, x123_26, x123_29, x123_32, x123_33, x123_34, X0, t1, t5, t6, a, b, c, and_self, ↓reduceIte]
      · simp only [x123_0, x123_1, x123_4, x123_5, x123_6, x123_9, x123_12, x123_15, x123_16, x123_18, x123_21, x123_22, x123_25, x123_26, x123_29, x123_32, x123_33, x123_34, X0, t1, t5, t6, a, b, and_self, ↓reduceIte]
/-- what the adverts leave of the PAY -/
def enS (A : Nat → Int32) (w : Int32) : Int32 × Int32 → Nat → Nat → Int32 × Int32 := lpF (fun p i => if A (80 + i) = w then (mx p.1 (A (92 + i)), mn p.2 (A (104 + i))) else p)
def enV (p : Int32 × Int32) (what : Int32) : Int32 := if p.2 < p.1 then -5 else if what = 0 then p.1 else p.2
def enF (A : Nat → Int32) (w what : Int32) : Int32 := enV (enS A w (0, 999) 0 (A 2).toNatClampNeg) what
theorem lp_span {na : Nat} (D : PP h pp A) (h2 : A 2 = nI na) (hna : na ≤ 12) {w what : Int32} : ∀ (k i : Nat) (a b : Int32), i + k = na → Rf (d + 1) 81 10 [.ref pp, .int w, .int what, .int a, .int b, .int (nI i)] [] h = some (some (.int (enV (enS A w (a, b) i k) what)), h) := by
  intro k
  induction k with
  | zero =>
    intro i a b hi
    have c1 : ¬ nI i < nI na := nI_nlt (by omega) (by omega)
    simp only [x81_0, x81_1, x81_2, x81_5, x81_7, x81_8, x81_10, x81_12, x81_13, x81_16, x81_19, x81_20, x81_23, x81_25, x81_26, x81_27, x81_30, x81_31, x81_32, x81_35, x81_37, x81_41, x81_42, x81_44, x81_45, x81_48, x81_50, x81_54, x81_56, x81_59, x81_62, x81_63, x81_65, x81_68, x81_70, x81_71, x81_72, x81_75, x81_76, x81_79, x81_81, D, h2, c1, and_self, ↓reduceIte, enS, lpF, enV]
    by_cases y : b < a
    · simp only [y, ↓reduceIte]
    · by_cases y2 : what = 0
      · simp only [y, y2, ↓reduceIte]
      · simp only [y, y2, ↓reduceIte]
  | succ k ih =>
    intro i a b hi
    have c1 : nI i < nI na := nI_lt (by omega) (by omega)
    have c2 : inB (nI i) 12 = true := nI_inB (by omega) (by omega)
    have c3 : (nI i).toNatClampNeg = i := nI_clamp (by omega)
    have s1 := sub_at (show i < 12 by omega)
    rw [x81_10]
    by_cases y : A (80 + i) = w
    · have e1 := ih (i + 1) (mx a (A (92 + i))) (mn b (A (104 + i))) (by omega)
      have hs : enS A w (a, b) i (k + 1) = enS A w (mx a (A (92 + i)), mn b (A (104 + i))) (i + 1) k := by
        show enS A w (if A (80 + i) = w then (mx a (A (92 + i)), mn b (A (104 + i))) else (a, b)) (i + 1) k = _
        rw [if_pos y]
      rw [hs]
      simp only [x81_12, x81_13, x81_16, x81_19, x81_20, x81_23, x81_25, x81_26, x81_27, x81_30, x81_31, x81_32, x81_35, x81_37, x81_41, x81_42, x81_44, x81_45, x81_48, x81_50, x81_54, x81_56, x81_59, xc81_38 (sp_max (d := d)), xc81_51 (sp_min (d := d)), D, h2, c1, c2, c3, s1, y, nI_1, true_or, and_self, ↓reduceIte]
      exact e1
    · have e1 := ih (i + 1) a b (by omega)
      have hs : enS A w (a, b) i (k + 1) = enS A w (a, b) (i + 1) k := by
        show enS A w (if A (80 + i) = w then (mx a (A (92 + i)), mn b (A (104 + i))) else (a, b)) (i + 1) k = _
        rw [if_neg y]
      rw [hs]
      simp only [x81_12, x81_13, x81_16, x81_19, x81_20, x81_23, x81_25, x81_26, x81_27, x81_30, x81_31, x81_32, x81_35, x81_37, x81_41, x81_42, x81_44, x81_45, x81_48, x81_50, x81_54, x81_56, x81_59, D, h2, c1, c2, c3, s1, y, nI_1, true_or, and_self, ↓reduceIte]
      exact e1
theorem sp_spanOf (D : PP h pp A) (Q : RP A) {w what : Int32} : Rf (d + 1) 81 0 [.ref pp, .int w, .int what, noV, noV, noV] [] h = some (some (.int (enF A w what)), h) := by
  obtain ⟨na, hna, h2⟩ := Q.1
  have e := lp_span (d := d) D h2 hna (w := w) (what := what) na 0 0 999 (by omega)
  rw [nI_0] at e
  simp only [x81_0, x81_1, x81_2, x81_5, x81_7, x81_8, enF, h2, nI_clamp (show na < 2 ^ 31 by omega)]
  exact e
theorem lp_mend {na : Nat} (F : MF h o A B) (h2 : A 2 = nI na) (hna : na ≤ 12) {w what : Int32} : ∀ (k i : Nat) (a b : Int32), i + k = na → Rf (d + 1) 183 10 [.ref o, .int w, .int what, .int a, .int b, .int (nI i)] [] h = some (some (.int (enV (enS A w (a, b) i k) what)), h) := by
  intro k
  induction k with
  | zero =>
    intro i a b hi
    have c1 : ¬ nI i < nI na := nI_nlt (by omega) (by omega)
    simp only [x183_0, x183_1, x183_2, x183_5, x183_7, x183_8, x183_10, x183_12, x183_13, x183_16, x183_17, x183_18, x183_21, x183_22, x183_25, x183_27, x183_29, x183_30, x183_31, x183_32, x183_35, x183_38, x183_39, x183_40, x183_43, x183_45, x183_47, x183_48, x183_52, x183_53, x183_55, x183_56, x183_59, x183_61, x183_63, x183_64, x183_68, x183_70, x183_73, x183_76, x183_77, x183_79, x183_82, x183_84, x183_87, x183_88, x183_91, x183_92, x183_95, x183_97, F, ixL, h2, c1, true_or, and_self, ↓reduceIte, enS, lpF, enV]
    by_cases y : b < a
    · simp only [y, ↓reduceIte]
    · by_cases y2 : what = 0
      · simp only [y, y2, ↓reduceIte]
      · simp only [y, y2, ↓reduceIte]
  | succ k ih =>
    intro i a b hi
    have c1 : nI i < nI na := nI_lt (by omega) (by omega)
    have i80 : (80 : Int32) + nI i = nI (80 + i) ∧ inB (nI (80 + i)) 931 = true ∧ (nI (80 + i)).toNatClampNeg = 80 + i := ixs 80 i (by omega)
    have i92 : (92 : Int32) + nI i = nI (92 + i) ∧ inB (nI (92 + i)) 931 = true ∧ (nI (92 + i)).toNatClampNeg = 92 + i := ixs 92 i (by omega)
    have i104 : (104 : Int32) + nI i = nI (104 + i) ∧ inB (nI (104 + i)) 931 = true ∧ (nI (104 + i)).toNatClampNeg = 104 + i := ixs 104 i (by omega)
    rw [x183_10]
    by_cases y : A (80 + i) = w
    · have e1 := ih (i + 1) (mx a (A (92 + i))) (mn b (A (104 + i))) (by omega)
      have hs : enS A w (a, b) i (k + 1) = enS A w (mx a (A (92 + i)), mn b (A (104 + i))) (i + 1) k := by
        show enS A w (if A (80 + i) = w then (mx a (A (92 + i)), mn b (A (104 + i))) else (a, b)) (i + 1) k = _
        rw [if_pos y]
      rw [hs]
      simp only [x183_12, x183_13, x183_16, x183_17, x183_18, x183_21, x183_22, x183_25, x183_27, x183_29, x183_30, x183_31, x183_32, x183_35, x183_38, x183_39, x183_40, x183_43, x183_45, x183_47, x183_48, x183_52, x183_53, x183_55, x183_56, x183_59, x183_61, x183_63, x183_64, x183_68, x183_70, x183_73, xc183_49 (sp_max (d := d)), xc183_65 (sp_min (d := d)), F, ixL, h2, c1, i80, i92, i104, y, nI_1, true_or, and_self, ↓reduceIte]
      exact e1
    · have e1 := ih (i + 1) a b (by omega)
      have hs : enS A w (a, b) i (k + 1) = enS A w (a, b) (i + 1) k := by
        show enS A w (if A (80 + i) = w then (mx a (A (92 + i)), mn b (A (104 + i))) else (a, b)) (i + 1) k = _
        rw [if_neg y]
      rw [hs]
      simp only [x183_12, x183_13, x183_16, x183_17, x183_18, x183_21, x183_22, x183_25, x183_27, x183_29, x183_30, x183_31, x183_32, x183_35, x183_38, x183_39, x183_40, x183_43, x183_45, x183_47, x183_48, x183_52, x183_53, x183_55, x183_56, x183_59, x183_61, x183_63, x183_64, x183_68, x183_70, x183_73, F, ixL, h2, c1, i80, y, nI_1, true_or, and_self, ↓reduceIte]
      exact e1
theorem sp_end (F : MF h o A B) (Q : RP A) {w what : Int32} : Rf (d + 1) 183 0 [.ref o, .int w, .int what, noV, noV, noV] [] h = some (some (.int (enF A w what)), h) := by
  obtain ⟨na, hna, h2⟩ := Q.1
  have e := lp_mend (d := d) F h2 hna (w := w) (what := what) na 0 0 999 (by omega)
  rw [nI_0] at e
  simp only [x183_0, x183_1, x183_2, x183_5, x183_7, x183_8, enF, h2, nI_clamp (show na < 2 ^ 31 by omega)]
  exact e
theorem mx_nat {a b : Nat} (ha : a ≤ 999) (hb : b ≤ 999) : ∃ k, k ≤ 999 ∧ mx (nI a) (nI b) = nI k := by
  unfold mx
  split
  · exact ⟨b, hb, rfl⟩
  · exact ⟨a, ha, rfl⟩
theorem mn_nat {a b : Nat} (ha : a ≤ 999) (hb : b ≤ 999) : ∃ k, k ≤ 999 ∧ mn (nI a) (nI b) = nI k := by
  unfold mn
  split
  · exact ⟨b, hb, rfl⟩
  · exact ⟨a, ha, rfl⟩
theorem en_rng (Q : RP A) {w what : Int32} : enF A w what = -5 ∨ ∃ k, k ≤ 999 ∧ enF A w what = nI k := by
  obtain ⟨na, hna, h2⟩ := Q.1
  have key : ∀ (k i a b : Nat), i + k ≤ 12 → a ≤ 999 → b ≤ 999 → ∃ a' b', a' ≤ 999 ∧ b' ≤ 999 ∧ enS A w (nI a, nI b) i k = (nI a', nI b') := by
    intro k
    induction k with
    | zero => intro i a b _ ha hb; exact ⟨a, b, ha, hb, rfl⟩
    | succ k ih =>
      intro i a b hi ha hb
      obtain ⟨⟨u, hu, eu⟩, ⟨v, hv, ev⟩⟩ := Q.2.2.2.2.1 i (by omega)
      show ∃ a' b', a' ≤ 999 ∧ b' ≤ 999 ∧ enS A w (if A (80 + i) = w then (mx (nI a) (A (92 + i)), mn (nI b) (A (104 + i))) else (nI a, nI b)) (i + 1) k = (nI a', nI b')
      by_cases y : A (80 + i) = w
      · rw [if_pos y, eu, ev]
        obtain ⟨x, hx, ex⟩ := mx_nat ha hu
        obtain ⟨z, hz, ez⟩ := mn_nat hb hv
        rw [ex, ez]
        exact ih (i + 1) x z (by omega) hx hz
      · rw [if_neg y]
        exact ih (i + 1) a b (by omega) ha hb
  unfold enF enV
  rw [h2, nI_clamp (by omega)]
  obtain ⟨a', b', ha, hb, e⟩ := key na 0 0 999 (by omega) (by omega) (by omega)
  have e' : enS A w (0, 999) 0 na = (nI a', nI b') := e
  rw [e']
  split
  · exact Or.inl rfl
  · split
    · exact Or.inr ⟨a', ha, rfl⟩
    · exact Or.inr ⟨b', hb, rfl⟩
theorem pr_span (G : GI h) {w x : Int32} : PR h 116 184 [.ref 32, .int w, .int x] [.ref 128, .int w, .int x] := by
  obtain ⟨A, B, im, rn, T, n, C, cl, ml, q, kn, n2, C2, cl2, ml2, q2, kn2, G⟩ := G
  obtain ⟨F, K, D, R, Q, H, Mh, HRm, DD, l1, l2⟩ := G.2.2.2.1
  have X0 := G.1
  have m1 := G.2.2.2.2.2.2.2.2.1.1
  have e0 := sp_isWorker (d := 1) (w := w) F
  have f0 := sp_misWorker (d := 0) (w := w) m1 ⟨n, R.1, R.2.1⟩
  have e1 := sp_spanOf (d := 0) D Q (w := w) (what := x)
  have f1 := sp_end (d := 0) m1 Q (w := w) (what := x)
  by_cases hw : ¬ w < 0 ∧ w < A 0
  · rw [b2_t hw] at e0 f0
    by_cases hx : ¬ x < 0 ∧ ¬ 1 < x
    · exact PR_ro (dc := 2) (dm := 2) (v := enF A w x) (by simp only [x116_0, x116_1, x116_4, x116_8, x116_11, x116_12, x116_16, x116_19, x116_20, x116_21, x116_22, x116_25, x116_26, x116_30, xc116_5 F.1 e0, xc116_13 (sp_within (d := 1)), xc116_27 D.1 e1, X0, b2_0, hx, not_true_eq_false, not_false_eq_true, and_self, litZ, ↓reduceIte]) (by simp only [x184_0, x184_1, x184_5, x184_8, x184_9, x184_10, x184_14, x184_17, x184_18, x184_21, x184_22, x184_23, x184_27, xc184_2 m1.1 f0, xc184_11 (sp_mwithin (d := 1)), xc184_24 m1.1 f1, b2_0, hx, not_true_eq_false, not_false_eq_true, and_self, litZ, ↓reduceIte]) (by decide) (by decide) G (same2 rfl)
    · exact PR_ro (dc := 2) (dm := 2) (v := -1) (by simp only [x116_0, x116_1, x116_4, x116_8, x116_11, x116_12, x116_16, x116_19, x116_20, x116_21, x116_22, x116_25, x116_26, x116_30, xc116_5 F.1 e0, xc116_13 (sp_within (d := 1)), X0, b2_0, hx, not_false_eq_true, and_self, litZ, ↓reduceIte]) (by simp only [x184_0, x184_1, x184_5, x184_8, x184_9, x184_10, x184_14, x184_17, x184_18, x184_21, x184_22, x184_23, x184_27, xc184_2 m1.1 f0, xc184_11 (sp_mwithin (d := 1)), b2_0, hx, not_false_eq_true, and_self, litZ, ↓reduceIte]) (by decide) (by decide) G (same2 rfl)
  · rw [b2_f hw] at e0 f0
    exact PR_ro (dc := 2) (dm := 2) (v := -1) (by simp only [x116_0, x116_1, x116_4, x116_8, x116_11, x116_12, x116_16, x116_19, x116_20, x116_21, x116_22, x116_25, x116_26, x116_30, xc116_5 F.1 e0, X0, and_self, ↓reduceIte]) (by simp only [x184_0, x184_1, x184_5, x184_8, x184_9, x184_10, x184_14, x184_17, x184_18, x184_21, x184_22, x184_23, x184_27, xc184_2 m1.1 f0, ↓reduceIte]) (by decide) (by decide) G (same2 rfl)
def caK (A : Nat → Int32) (x : Int32) : Int32 → Nat → Nat → Int32
  | a, _, 0 => if A 0 = 0 then 0 else a / A 0
  | a, w, k + 1 => if enF A (nI w) x = -5 then -5 else caK A x (a + enF A (nI w) x) (w + 1) k
theorem lp_can (D : PP h pp A) (Q : RP A) (R : RG A n) {x : Int32} : ∀ (k w : Nat) (a : Int32) (v5 : Value), w + k = n → Rf (d + 2) 82 5 [.ref pp, .int (A 0), .int x, .int a, .int (nI w), v5] [] h = some (some (.int (caK A x a w k)), h) := by
  have hn := R.1
  have h0 := R.2.1
  intro k
  induction k with
  | zero =>
    intro w a v5 hw
    have c1 : ¬ nI w < nI n := nI_nlt (by omega) (by omega)
    rw [h0]
    simp only [x82_0, x82_1, x82_2, x82_3, x82_5, x82_7, x82_8, x82_11, x82_12, x82_14, x82_18, x82_20, x82_22, x82_24, x82_27, x82_29, x82_30, x82_31, x82_33, x82_34, x82_35, x82_38, x82_41, x82_42, x82_45, x82_46, x82_49, x82_50, x82_51, x82_52, c1, ↓reduceIte, caK, h0]
    by_cases y : nI n = 0
    · simp only [y, ↓reduceIte]
    · simp only [y, ↓reduceIte, not_false_eq_true]
  | succ k ih =>
    intro w a v5 hw
    have c1 : nI w < nI n := nI_lt (by omega) (by omega)
    have e1 := sp_spanOf (d := d) D Q (w := nI w) (what := x)
    have e2 := fun v5 => ih (w + 1) (a + enF A (nI w) x) v5 (by omega)
    rw [h0] at e2 ⊢
    rw [x82_5]
    simp only [x82_7, x82_8, x82_11, x82_12, x82_14, x82_18, x82_20, x82_22, x82_24, x82_27, x82_29, x82_30, x82_31, x82_33, x82_34, x82_35, x82_38, xc82_15 D.1 e1, c1, nI_1, ↓reduceIte, caK]
    by_cases y : enF A (nI w) x = -5
    · simp only [y, ↓reduceIte]
    · simp only [y, ↓reduceIte]
      exact e2 _
theorem lp_mcan (F : MF h o A B) (Q : RP A) (R : RG A n) {x : Int32} : ∀ (k w : Nat) (a : Int32) (v4 : Value), w + k = n → Rf (d + 2) 185 15 [.ref o, .int x, .int a, .int (nI w), v4] [] h = some (some (.int (caK A x a w k)), h) := by
  have hn := R.1
  have h0 := R.2.1
  intro k
  induction k with
  | zero =>
    intro w a v4 hw
    have c1 : ¬ nI w < nI n := nI_nlt (by omega) (by omega)
    simp only [x185_15, x185_16, x185_17, x185_20, x185_21, x185_22, x185_25, x185_26, x185_27, x185_31, x185_33, x185_35, x185_38, x185_40, x185_41, x185_42, x185_44, x185_45, x185_46, x185_49, x185_52, x185_53, x185_56, x185_57, x185_58, x185_61, x185_62, x185_65, x185_66, x185_67, x185_70, x185_71, x185_72, x185_73, F, ixL, h0, c1, true_or, and_self, ↓reduceIte, caK]
    by_cases y : nI n = 0
    · simp only [y, ↓reduceIte]
    · simp only [y, ↓reduceIte, not_false_eq_true]
  | succ k ih =>
    intro w a v4 hw
    have c1 : nI w < nI n := nI_lt (by omega) (by omega)
    have e1 := sp_end (d := d) F Q (w := nI w) (what := x)
    have e2 := fun v4 => ih (w + 1) (a + enF A (nI w) x) v4 (by omega)
    rw [x185_15]
    simp only [x185_16, x185_17, x185_20, x185_21, x185_22, x185_25, x185_26, x185_27, x185_31, x185_33, x185_35, x185_38, x185_40, x185_41, x185_42, x185_44, x185_45, x185_46, x185_49, xc185_28 F.1 e1, F, ixL, h0, c1, nI_1, true_or, and_self, ↓reduceIte, caK]
    rcases en_rng Q (w := nI w) (what := x) with y | ⟨j, hj, y⟩
    · simp only [y, show (-5 : Int32) < 0 from by decide, ↓reduceIte]
    · have y2 : ¬ nI j = -5 := fun z => nI_pos (n := j) (by omega) (by rw [z]; decide)
      rw [y] at e2
      simp only [y, y2, nI_pos (show j < 2 ^ 31 by omega), ↓reduceIte]
      exact e2 _
theorem pr_can (G : GI h) {x : Int32} : PR h 117 185 [.ref 32, .int x] [.ref 128, .int x, noV, noV, noV] := by
  obtain ⟨A, B, im, rn, T, n, C, cl, ml, q, kn, n2, C2, cl2, ml2, q2, kn2, G⟩ := G
  obtain ⟨F, K, D, R, Q, H, Mh, HRm, DD, l1, l2⟩ := G.2.2.2.1
  have X0 := G.1
  have m1 := G.2.2.2.2.2.2.2.2.1.1
  by_cases hx : ¬ x < 0 ∧ ¬ 1 < x
  · have e0 := lp_can (d := 0) D Q R (x := x) n 0 0 noV (by omega)
    rw [nI_0] at e0
    have e1 : Rf 2 82 0 [.ref 60, .int (A 0), .int x, noV, noV, noV] [] h = some (some (.int (caK A x 0 0 n)), h) := by
      simp only [x82_0, x82_1, x82_2, x82_3]
      exact e0
    have f0 := lp_mcan (d := 0) m1 Q R (x := x) n 0 0 noV (by omega)
    rw [nI_0] at f0
    exact PR_ro (dc := 3) (dm := 2) (v := caK A x 0 0 n) (by simp only [x117_0, x117_1, x117_5, x117_8, x117_9, x117_12, x117_13, x117_16, x117_19, x117_23, x117_26, x117_27, xc117_2 (sp_within (d := 2)), xc117_20 D.1 e1, X0, F, b2_0, hx, not_true_eq_false, not_false_eq_true, and_self, ↓reduceIte]) (by simp only [x185_0, x185_1, x185_2, x185_6, x185_9, x185_10, x185_11, x185_12, x185_13, x185_14, xc185_3 (sp_mwithin (d := 1)), b2_0, hx, not_true_eq_false, not_false_eq_true, and_self, ↓reduceIte]; exact f0) (by decide) (by decide) G (same2 rfl)
  · exact PR_ro (dc := 3) (dm := 2) (v := -1) (by simp only [x117_0, x117_1, x117_5, x117_8, x117_9, x117_12, x117_13, x117_16, x117_19, x117_23, x117_26, x117_27, xc117_2 (sp_within (d := 2)), b2_0, hx, not_false_eq_true, ↓reduceIte]) (by simp only [x185_0, x185_1, x185_2, x185_6, x185_9, x185_10, x185_11, x185_12, x185_13, x185_14, xc185_3 (sp_mwithin (d := 1)), b2_0, hx, not_false_eq_true, ↓reduceIte]) (by decide) (by decide) G (same2 rfl)
end TO
