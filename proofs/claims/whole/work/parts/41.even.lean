-- deps: 40.goyear 25.x_main
/-! EVEN, SPREAD, BARGAIN. -/
abbrev XF (h : AHp) : Prop := cls (h.1 32) = 11 ∧ oL (h.1 32) = 7 ∧ oKr (h.1 32) 0 = true ∧ oR (h.1 32) 0 = 33 ∧ oKr (h.1 32) 1 = true ∧ oR (h.1 32) 1 = 60 ∧ oKr (h.1 32) 2 = true ∧ oR (h.1 32) 2 = 66 ∧ oKr (h.1 32) 3 = true ∧ oR (h.1 32) 3 = 93 ∧ oKr (h.1 32) 4 = true ∧ oR (h.1 32) 4 = 99 ∧ oKr (h.1 32) 5 = true ∧ oR (h.1 32) 5 = 126 ∧ oKi (h.1 32) 6 = true
def evF (A : Nat → Int32) (n : Nat) (x : Int32) : Int32 := if x < ab (gapF A n) then (if mnyF A (if 0 < gapF A n then 1 else 0) 0 0 n = 0 then 0 else mnyF A (if 0 < gapF A n then 1 else 0) 0 0 n * (polF A (if 0 < gapF A n then 1 else 0) 0 0 n / mnyF A (if 0 < gapF A n then 1 else 0) 0 0 n + ab (gapF A n) - x) - polF A (if 0 < gapF A n then 1 else 0) 0 0 n) else 0
def evP (A : Nat → Int32) (n : Nat) (x : Int32) : Int32 := if ¬ x < 0 ∧ ¬ 99 < x then evF A n x else -2
def spS (A : Nat → Int32) (y x : Int32) : Int32 × Int32 → Nat → Nat → Int32 × Int32 := lpF (fun p w => if x < ab (A (30 + w) - y) then p else (mn p.1 (A (20 + w)), mx p.2 (A (20 + w))))
def spF (A : Nat → Int32) (n w : Nat) (x : Int32) : Int32 := (spS A (A (30 + w)) x (A (20 + w), A (20 + w)) 0 n).2 - (spS A (A (30 + w)) x (A (20 + w), A (20 + w)) 0 n).1
/-- a WORKER, or none -/
def wk (A : Nat → Int32) (w : Int32) (v : Nat → Int32) (e : Int32) : Int32 := if ¬ w < 0 ∧ w < A 0 then v w.toNatClampNeg else e
theorem wk_y {A : Nat → Int32} {n k : Nat} {v : Nat → Int32} {e : Int32} (R : RG A n) (hk : k < n) : wk A (nI k) v e = v k := by
  have hn := R.1
  unfold wk
  rw [if_pos (isW_in R hk), nI_clamp (by omega)]
theorem wk_n {A : Nat → Int32} {w : Int32} {v : Nat → Int32} {e : Int32} (h : ¬ (¬ w < 0 ∧ w < A 0)) : wk A w v e = e := if_neg h
def baF (A : Nat → Int32) (be wi rs : Int32) (w : Nat) (first b : Int32) : Int32 :=
  let comes := if first = 0 then (if mn b (A (20 + w) + rs) < be + wi then (mn b (A (20 + w) + rs) + (be + wi)) / 2 else mn b (A (20 + w) + rs)) else if first = 1 then (if b < be + wi + 10 * A (70 + w) then (be + wi + 10 * A (70 + w) + b) / 2 else be + wi + 10 * A (70 + w)) else (mn b (A (20 + w) + rs) + (be + wi + 10 * A (70 + w))) / 2
  if comes < be then -5 else if b < comes then -5 else comes
section EV
variable {d o q n cl : Nat} {kn : Nat → Nat} {A B C S : Nat → Int32} {h : AHp} {ml : List Cl}
theorem sp_leastRises (F : OF h o A q kn) (R : RG A n) {x : Int32} : Rf (d + 2) 66 0 [.ref o, .int x, noV, noV, noV, noV, noV] [] h = some (some (.int (evF A n x)), h) := by
  have e1 := sp_gap (d := d) F R
  have e2 := fun y => sp_manyOf (d := d + 1) F R (y := y)
  have e3 := fun y => sp_payOfLot (d := d + 1) F R (y := y)
  simp only [x66_0, x66_4, x66_5, x66_9, x66_10, x66_13, x66_14, x66_15, x66_16, x66_19, x66_20, x66_23, x66_24, x66_25, x66_26, x66_30, x66_32, x66_33, x66_37, x66_39, x66_41, x66_44, x66_45, x66_46, x66_48, x66_50, x66_51, x66_55, x66_56, x66_57, x66_58, x66_60, x66_62, x66_64, x66_65, x66_67, x66_68, xc66_1 F.1 e1, xc66_6 (sp_abs (d := d + 1)), xc66_52 (sp_abs (d := d + 1)), xc66_27 F.1 (e2 _), xc66_34 F.1 (e3 _), evF]
  by_cases h1 : x < ab (gapF A n)
  · by_cases h2 : 0 < gapF A n
    · simp only [h1, h2, ↓reduceIte]
      by_cases h3 : mnyF A 1 0 0 n = 0
      · simp only [h3, ↓reduceIte]
      · simp only [h3, ↓reduceIte, not_false_eq_true]
    · simp only [h1, h2, ↓reduceIte]
      by_cases h3 : mnyF A 0 0 0 n = 0
      · simp only [h3, ↓reduceIte]
      · simp only [h3, ↓reduceIte, not_false_eq_true]
  · simp only [h1, ↓reduceIte]
theorem sp_even (G : XF h) (F : OF h 33 A q kn) (R : RG A n) {x : Int32} : Rf (d + 3) 108 0 [.ref 32, .int x] [] h = some (some (.int (evP A n x)), h) := by
  have e1 := sp_leastRises (d := d) F R (x := x)
  simp only [x108_0, x108_1, x108_6, x108_9, x108_10, x108_13, x108_17, x108_20, x108_22, xc108_3 (sp_within (d := d + 2)), xc108_14 F.1 e1, G, b2_0, and_self, ↓reduceIte, evP]
  by_cases h1 : ¬ x < 0 ∧ ¬ 99 < x
  · simp only [h1, not_true_eq_false, ↓reduceIte, and_self, not_false_eq_true]
  · simp only [h1, not_false_eq_true, ↓reduceIte]
theorem lp_meven (F : MF h o A B) (R : RG A n) {x g y : Int32} : ∀ (k w : Nat) (s m : Int32), w + k = n → Rf d 174 47 [.ref o, .int x, .int g, .int y, .int s, .int m, .int (nI w)] [] h = Rf d 174 99 [.ref o, .int x, .int g, .int y, .int (polF A y s w k), .int (mnyF A y m w k), .int (nI n)] [] h := by
  have hn := R.1
  have h0 := R.2.1
  intro k
  induction k with
  | zero =>
    intro w s m hw
    have c1 : ¬ nI w < nI n := nI_nlt (by omega) (by omega)
    have hw2 : w = n := by omega
    subst hw2
    simp only [x174_47, x174_49, x174_50, x174_53, x174_54, x174_55, x174_58, F, ixL, h0, c1, true_or, and_self, ↓reduceIte, mnyF, polF, lpF]
  | succ k ih =>
    intro w s m hw
    have c1 : nI w < nI n := nI_lt (by omega) (by omega)
    have i20 : (20 : Int32) + nI w = nI (20 + w) ∧ inB (nI (20 + w)) 931 = true ∧ (nI (20 + w)).toNatClampNeg = 20 + w := ixs 20 w (by omega)
    have i40 : (40 : Int32) + nI w = nI (40 + w) ∧ inB (nI (40 + w)) 931 = true ∧ (nI (40 + w)).toNatClampNeg = 40 + w := ixs 40 w (by omega)
    have e1 := ih (w + 1) (if A (40 + w) = y then s + A (20 + w) else s) (if A (40 + w) = y then m + 1 else m) (by omega)
    rw [x174_47]
    simp only [x174_49, x174_50, x174_53, x174_54, x174_55, x174_58, x174_59, x174_62, x174_64, x174_66, x174_67, x174_68, x174_69, x174_72, x174_75, x174_77, x174_78, x174_81, x174_83, x174_85, x174_86, x174_87, x174_88, x174_90, x174_93, x174_96, F, ixL, h0, c1, i20, i40, nI_1, true_or, and_self, ↓reduceIte]
    show _ = Rf d 174 99 [.ref o, .int x, .int g, .int y, .int (polF A y (if A (40 + w) = y then s + A (20 + w) else s) (w + 1) k), .int (mnyF A y (if A (40 + w) = y then m + 1 else m) (w + 1) k), .int (nI n)] [] h
    rw [← e1]
    by_cases hl : A (40 + w) = y
    · simp only [hl, ↓reduceIte]
    · simp only [hl, ↓reduceIte]
theorem ab0 : ab 0 = 0 := by decide
theorem sp_meven (F : MF h o A B) (R : RG A n) {x : Int32} : Rf (d + 1) 174 0 [.ref o, .int x, noV, noV, noV, noV, noV] [] h = some (some (.int (evP A n x)), h) := by
  have e1 := sp_mgap (d := d) F R
  have e2 := fun g y => lp_meven (d := d + 1) F R (x := x) (g := g) (y := y) n 0 0 0 (by omega)
  simp only [nI_0] at e2
  unfold evP
  by_cases h1 : ¬ x < 0 ∧ ¬ 99 < x
  · rw [if_pos h1]
    simp only [x174_0, x174_1, x174_2, x174_7, x174_10, x174_12, x174_13, x174_17, x174_18, x174_22, x174_23, x174_26, x174_27, x174_28, x174_29, x174_32, x174_33, x174_36, x174_37, x174_38, x174_39, x174_41, x174_42, x174_44, x174_45, xc174_4 (sp_mwithin (d := d)), xc174_14 F.1 e1, xc174_19 (sp_abs (d := d)), xc174_105 (sp_abs (d := d)), b2_0, h1, not_true_eq_false, not_false_eq_true, and_self, ↓reduceIte, evF]
    by_cases h2 : x < ab (gapF A n)
    · have hg : ¬ gapF A n = 0 := fun e => by rw [e, ab0] at h2; exact h1.1 h2
      have hm : ¬ mnyF A 0 0 0 n = 0 ∧ ¬ mnyF A 1 0 0 n = 0 := by
        unfold gapF at hg
        constructor
        · intro e; exact hg (if_pos (Or.inl e))
        · intro e; exact hg (if_pos (Or.inr e))
      by_cases h3 : gapF A n < 0
      · have h4 : ¬ 0 < gapF A n := fun z => absurd (Int32.lt_iff_toInt_lt.mp z) (by have := Int32.lt_iff_toInt_lt.mp h3; simp at this ⊢; omega)
        simp only [h2, h3, h4, ↓reduceIte, e2]
        simp only [x174_99, x174_101, x174_103, x174_104, x174_108, x174_109, x174_110, x174_111, x174_113, x174_115, x174_117, x174_118, x174_120, x174_121, xc174_19 (sp_abs (d := d)), xc174_105 (sp_abs (d := d)), hm, not_false_eq_true, ↓reduceIte, Int32.mul_comm]
      · have h4 : 0 < gapF A n := by
          obtain ⟨j, hj, e⟩ := nI_of h3
          rw [e] at hg ⊢
          rcases Nat.eq_zero_or_pos j with z | z
          · subst z; exact absurd nI_0 hg
          · exact nI_lt (a := 0) (b := j) z hj
        simp only [h2, h3, h4, ↓reduceIte, e2]
        simp only [x174_99, x174_101, x174_103, x174_104, x174_108, x174_109, x174_110, x174_111, x174_113, x174_115, x174_117, x174_118, x174_120, x174_121, xc174_19 (sp_abs (d := d)), xc174_105 (sp_abs (d := d)), hm, not_false_eq_true, ↓reduceIte, Int32.mul_comm]
    · simp only [h2, ↓reduceIte]
  · rw [if_neg h1]
    simp only [x174_0, x174_1, x174_2, x174_7, x174_10, x174_12, xc174_4 (sp_mwithin (d := d)), b2_0, h1, not_false_eq_true, ↓reduceIte]
theorem lp_spread (F : OF h o A q kn) (R : RG A n) {w0 : Nat} (hw0 : w0 < n) {x : Int32} : ∀ (k w : Nat) (a b : Int32), w + k = n → Rf (d + 1) 67 18 [.ref o, .int (nI w0), .int x, .int a, .int b, .int (nI w)] [] h = some (some (.int ((spS A (A (30 + w0)) x (a, b) w k).2 - (spS A (A (30 + w0)) x (a, b) w k).1)), h) := by
  have hn := R.1
  have h0 := R.2.1
  have d2 : inB (nI w0) 10 = true := nI_inB (by omega) (by omega)
  have d3 : (nI w0).toNatClampNeg = w0 := nI_clamp (by omega)
  intro k
  induction k with
  | zero =>
    intro w a b hw
    have c1 : ¬ nI w < nI n := nI_nlt (by omega) (by omega)
    simp only [x67_0, x67_1, x67_4, x67_5, x67_6, x67_7, x67_8, x67_11, x67_12, x67_13, x67_15, x67_16, x67_18, x67_20, x67_21, x67_24, x67_27, x67_28, x67_31, x67_33, x67_34, x67_35, x67_38, x67_39, x67_40, x67_44, x67_45, x67_48, x67_49, x67_50, x67_53, x67_55, x67_59, x67_60, x67_62, x67_63, x67_66, x67_68, x67_72, x67_74, x67_77, x67_80, x67_82, x67_83, x67_84, F, h0, c1, and_self, ↓reduceIte, spS, lpF]
  | succ k ih =>
    intro w a b hw
    have c1 : nI w < nI n := nI_lt (by omega) (by omega)
    have c2 : inB (nI w) 10 = true := nI_inB (by omega) (by omega)
    have c3 : (nI w).toNatClampNeg = w := nI_clamp (by omega)
    rw [x67_18]
    simp only [x67_20, x67_21, x67_24, x67_27, x67_28, x67_31, x67_33, x67_34, x67_35, x67_38, x67_39, x67_40, x67_44, x67_45, x67_48, x67_49, x67_50, x67_53, x67_55, x67_59, x67_60, x67_62, x67_63, x67_66, x67_68, x67_72, x67_74, x67_77, xc67_41 (sp_abs (d := d)), xc67_56 (sp_min (d := d)), xc67_69 (sp_max (d := d)), F, h0, c1, c2, c3, d2, d3, sub_at (show w < 10 by omega), sub_at (show w0 < 10 by omega), nI_1, true_or, and_self, ↓reduceIte]
    by_cases hl : x < ab (A (30 + w) - A (30 + w0))
    · have e1 := ih (w + 1) a b (by omega)
      simp only [hl, ↓reduceIte, spS, lpF]
      exact e1
    · have e1 := ih (w + 1) (mn a (A (20 + w))) (mx b (A (20 + w))) (by omega)
      simp only [hl, ↓reduceIte, spS, lpF]
      exact e1
theorem sp_spread (G : XF h) (F : OF h 33 A q kn) (R : RG A n) {w x : Int32} : Rf (d + 3) 109 0 [.ref 32, .int w, .int x] [] h = some (some (.int (wk A w (fun w => if ¬ x < 0 ∧ ¬ 99 < x then spF A n w x else -2) (-1))), h) := by
  have e0 := sp_isWorker (d := d + 2) (w := w) F
  by_cases hw : ¬ w < 0 ∧ w < A 0
  · obtain ⟨k, hk, rfl⟩ := isW_of R hw
    have hn := R.1
    rw [b2_t hw] at e0
    rw [wk_y R hk]
    have c2 : inB (nI k) 10 = true := nI_inB (by omega) (by omega)
    have c3 : (nI k).toNatClampNeg = k := nI_clamp (by omega)
    have e2 := lp_spread (d := d + 1) F R hk (x := x) n 0 (A (20 + k)) (A (20 + k)) (by omega)
    rw [nI_0] at e2
    have e1 : Rf (d + 2) 67 0 [.ref 33, .int (nI k), .int x, noV, noV, noV] [] h = some (some (.int (spF A n k x)), h) := by
      simp only [x67_0, x67_1, x67_4, x67_5, x67_6, x67_7, x67_8, x67_11, x67_12, x67_13, x67_15, x67_16, F, c2, c3, sub_at (show k < 10 by omega), true_or, and_self, ↓reduceIte, spF]
      exact e2
    simp only [x109_0, x109_1, x109_4, x109_8, x109_11, x109_12, x109_13, x109_14, x109_19, x109_22, x109_23, x109_26, x109_27, x109_31, x109_34, x109_36, xc109_5 F.1 e0, xc109_16 (sp_within (d := d + 2)), xc109_28 F.1 e1, G, b2_0, and_self, ↓reduceIte, litZ]
    by_cases h1 : ¬ x < 0 ∧ ¬ 99 < x
    · simp only [h1, not_true_eq_false, not_false_eq_true, and_self, ↓reduceIte]
    · simp only [h1, not_false_eq_true, ↓reduceIte]
  · rw [b2_f hw] at e0
    rw [wk_n hw]
    simp only [x109_0, x109_1, x109_4, x109_8, x109_11, x109_12, x109_13, x109_14, x109_19, x109_22, x109_23, x109_26, x109_27, x109_31, x109_34, x109_36, xc109_5 F.1 e0, G, and_self, ↓reduceIte]
theorem sp_misWorker (F : MF h o A B) {w : Int32} (h0 : ∃ k, k ≤ 10 ∧ A 0 = nI k) : Rf (d + 1) 132 0 [.ref o, .int w] [] h = some (some (.int (b2 (¬ w < 0 ∧ w < A 0))), h) := by
  have e : (¬ w < 0 ∧ ¬ A 0 - 1 < w) ↔ (¬ w < 0 ∧ w < A 0) := by
    obtain ⟨k, hk, e⟩ := h0
    constructor
    · rintro ⟨a, b⟩
      refine ⟨a, ?_⟩
      obtain ⟨j, hj, rfl⟩ := nI_of a
      rw [e] at b ⊢
      cases k with
      | zero => exact absurd (show nI 0 - 1 < nI j by
          rw [show nI 0 - 1 = -1 from by decide]
          rw [Int32.lt_iff_toInt_lt, nI_toInt hj]
          have : (-1 : Int32).toInt = -1 := by decide
          omega) b
      | succ k =>
        rw [nI_pred] at b
        rcases Nat.lt_or_ge j (k + 1) with z | z
        · exact nI_lt z (by omega)
        · exact absurd (nI_lt (a := k) (b := j) (by omega) hj) b
    · rintro ⟨a, b⟩
      refine ⟨a, ?_⟩
      obtain ⟨j, hj, rfl⟩ := nI_of a
      rw [e] at b ⊢
      have hjk := (nI_ltI hj (by omega)).mp b
      obtain ⟨i, rfl⟩ : ∃ i, k = i + 1 := ⟨k - 1, by omega⟩
      rw [nI_pred]
      exact nI_nlt (by omega) (by omega)
  have e2 : b2 (¬ w < 0 ∧ ¬ A 0 - 1 < w) = b2 (¬ w < 0 ∧ w < A 0) := by
    unfold b2
    by_cases z : ¬ w < 0 ∧ w < A 0
    · rw [if_pos z, if_pos (e.mpr z)]
    · rw [if_neg z, if_neg (fun y => z (e.mp y))]
  have r : retI (some .boolean) (b2 (¬ w < 0 ∧ w < A 0)) = true := by
    unfold b2
    split
    · exact retI_z1
    · exact retI_z0
  simp only [x132_0, x132_1, x132_2, x132_3, x132_6, x132_7, x132_8, x132_9, x132_13, xc132_10 (sp_mwithin (d := d)), F, ixL, e2, r, true_or, and_self, ↓reduceIte]
theorem lp_mspread (F : MF h o A B) (R : RG A n) {w0 : Nat} (hw0 : w0 < n) {x : Int32} : ∀ (k w : Nat) (a b : Int32), w + k = n → Rf (d + 1) 175 39 [.ref o, .int (nI w0), .int x, .int a, .int b, .int (nI w)] [] h = some (some (.int ((spS A (A (30 + w0)) x (a, b) w k).2 - (spS A (A (30 + w0)) x (a, b) w k).1)), h) := by
  have hn := R.1
  have h0 := R.2.1
  have j30 : (30 : Int32) + nI w0 = nI (30 + w0) ∧ inB (nI (30 + w0)) 931 = true ∧ (nI (30 + w0)).toNatClampNeg = 30 + w0 := ixs 30 w0 (by omega)
  intro k
  induction k with
  | zero =>
    intro w a b hw
    have c1 : ¬ nI w < nI n := nI_nlt (by omega) (by omega)
    simp only [x175_0, x175_1, x175_5, x175_8, x175_9, x175_10, x175_11, x175_12, x175_17, x175_20, x175_22, x175_23, x175_24, x175_27, x175_29, x175_30, x175_31, x175_32, x175_33, x175_34, x175_36, x175_37, x175_39, x175_41, x175_42, x175_45, x175_46, x175_47, x175_50, x175_51, x175_54, x175_56, x175_58, x175_59, x175_60, x175_61, x175_64, x175_66, x175_67, x175_68, x175_69, x175_73, x175_74, x175_77, x175_80, x175_81, x175_82, x175_85, x175_87, x175_89, x175_90, x175_94, x175_95, x175_97, x175_98, x175_101, x175_103, x175_105, x175_106, x175_110, x175_112, x175_115, x175_118, x175_120, x175_121, x175_122, F, ixL, h0, c1, true_or, and_self, ↓reduceIte, spS, lpF]
  | succ k ih =>
    intro w a b hw
    have c1 : nI w < nI n := nI_lt (by omega) (by omega)
    have i20 : (20 : Int32) + nI w = nI (20 + w) ∧ inB (nI (20 + w)) 931 = true ∧ (nI (20 + w)).toNatClampNeg = 20 + w := ixs 20 w (by omega)
    have i30 : (30 : Int32) + nI w = nI (30 + w) ∧ inB (nI (30 + w)) 931 = true ∧ (nI (30 + w)).toNatClampNeg = 30 + w := ixs 30 w (by omega)
    rw [x175_39]
    simp only [x175_41, x175_42, x175_45, x175_46, x175_47, x175_50, x175_51, x175_54, x175_56, x175_58, x175_59, x175_60, x175_61, x175_64, x175_66, x175_67, x175_68, x175_69, x175_73, x175_74, x175_77, x175_80, x175_81, x175_82, x175_85, x175_87, x175_89, x175_90, x175_94, x175_95, x175_97, x175_98, x175_101, x175_103, x175_105, x175_106, x175_110, x175_112, x175_115, xc175_70 (sp_abs (d := d)), xc175_91 (sp_min (d := d)), xc175_107 (sp_max (d := d)), F, ixL, h0, c1, i20, i30, j30, nI_1, true_or, and_self, ↓reduceIte]
    by_cases hl : x < ab (A (30 + w) - A (30 + w0))
    · have e1 := ih (w + 1) a b (by omega)
      simp only [hl, ↓reduceIte, spS, lpF]
      exact e1
    · have e1 := ih (w + 1) (mn a (A (20 + w))) (mx b (A (20 + w))) (by omega)
      simp only [hl, ↓reduceIte, spS, lpF]
      exact e1
theorem sp_mspread (F : MF h o A B) (R : RG A n) {w x : Int32} : Rf (d + 2) 175 0 [.ref o, .int w, .int x, noV, noV, noV] [] h = some (some (.int (wk A w (fun w => if ¬ x < 0 ∧ ¬ 99 < x then spF A n w x else -2) (-1))), h) := by
  have e0 := sp_misWorker (d := d) (w := w) F ⟨n, R.1, R.2.1⟩
  by_cases hw : ¬ w < 0 ∧ w < A 0
  · obtain ⟨k, hk, rfl⟩ := isW_of R hw
    have hn := R.1
    rw [b2_t hw] at e0
    rw [wk_y R hk]
    have i20 : (20 : Int32) + nI k = nI (20 + k) ∧ inB (nI (20 + k)) 931 = true ∧ (nI (20 + k)).toNatClampNeg = 20 + k := ixs 20 k (by omega)
    have e2 := lp_mspread (d := d + 1) F R hk (x := x) n 0 (A (20 + k)) (A (20 + k)) (by omega)
    rw [nI_0] at e2
    simp only [x175_0, x175_1, x175_5, x175_8, x175_9, x175_10, x175_11, x175_12, x175_17, x175_20, x175_22, x175_23, x175_24, x175_27, x175_29, x175_30, x175_31, x175_32, x175_33, x175_34, x175_36, x175_37, xc175_2 F.1 e0, xc175_14 (sp_mwithin (d := d + 1)), F, i20, b2_0, true_or, and_self, ↓reduceIte, litZ]
    by_cases h1 : ¬ x < 0 ∧ ¬ 99 < x
    · simp only [h1, not_true_eq_false, not_false_eq_true, and_self, ↓reduceIte, spF]
      exact e2
    · simp only [h1, not_false_eq_true, ↓reduceIte]
  · rw [b2_f hw] at e0
    rw [wk_n hw]
    simp only [x175_0, x175_1, x175_5, x175_8, x175_9, x175_10, x175_11, x175_12, x175_17, x175_20, x175_22, x175_23, x175_24, x175_27, x175_29, x175_30, x175_31, x175_32, x175_33, x175_34, x175_36, x175_37, xc175_2 F.1 e0, and_self, ↓reduceIte]
end EV
