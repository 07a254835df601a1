-- deps: 34.mholds
/-- the model's house: none, or the newest -/
def MH (A C : Nat → Int32) (cl : Nat) (ml : List Cl) : Prop := (A 1 = 0 ∧ ml = []) ∨ ∃ g, A 1 = nI (g + 1) ∧ ML A g C cl ml
def la (w : Int32) : Int32 → List Cl → Int32
  | a, [] => a
  | a, x :: r => la w (if x.1 = w then x.2.1 else a) r
section MS
variable {d o : Nat} {h : AHp} {A B C S : Nat → Int32} {g cl n : Nat} {ml : List Cl}
theorem sp_mholds (F : MF h o A B) (R : RG A n) (Z : ML A g C cl ml) (hg : A 1 = nI (g + 1)) {k w : Nat} {x : Cl} (hx : ml[k]? = some x) (h3 : x.1 = 0 ∨ x.1 = 1 ∨ x.1 = 2) (hw : w < n) : ∃ S', Rf (d + 1) 146 0 [.ref o, .int (nI (10 * g + k)), .int (nI w), noV, noV, noV, noV, noV, noV, noV] [] (stk h o S) = some (some (.int (b2 (hold (fcA A w) C x = true))), stk h o S') := by
  have F1 := MF_stk F S
  obtain ⟨z0, z1, z2, z3, z4, z5⟩ := id Z
  obtain ⟨y1, y2, y3, y4, y5⟩ := z5 k x hx
  obtain ⟨y6, y7, y8⟩ := y5 h3
  have hk : k < 10 := by
    have := (List.getElem?_eq_some_iff.mp hx).1
    omega
  have i1 := ix 331 (10 * g + k) 931 (by omega) (by decide)
  have e0 : (100 : Int32) * nI g = nI (100 * g) := pk_mul 100 g
  have e00 : (431 : Int32) + nI (100 * g) = nI (431 + 100 * g) := nI_add 431 (100 * g)
  obtain ⟨S', e1⟩ := lp_mholds (d := d) (C := C) F R Z hx h3 hw (x.2.2.2 - x.2.2.1) x.2.2.1 [] S noV noV noV noV (by omega) (fun i b hb => by cases hb) (by simp) y8
  refine ⟨S', ?_⟩
  simp only [List.length_nil, nI_0] at e1
  simp only [x146_0, x146_1, x146_2, x146_5, x146_7, x146_8, x146_11, x146_12, x146_13, x146_14, x146_15, x146_16, x146_17, x146_19, x146_20, x146_23, x146_26, x146_27, x146_28, x146_29, F1, ixL, hg, nI_pred, e0, e00, i1, y3, show (331 : Int32) = nI 331 from rfl, true_or, and_self, ↓reduceIte, hold]
  exact e1
theorem lp_sum (F : MF h o A B) (R : RG A n) (Z : ML A g C cl ml) (hg : A 1 = nI (g + 1)) {w : Nat} {y : Int32} (hy : y = 0 ∨ y = 1 ∨ y = 2) (hw : w < n) : ∀ (r : List Cl) (k : Nat) (a : Int32) (S : Nat → Int32), ml.drop k = r → k ≤ ml.length → ∃ S', Rf (d + 2) 148 30 [.ref o, .int y, .int (nI w), .int a, .int (nI (10 * g)), .int (nI (10 * g + k))] [] (stk h o S) = some (some (.int (tg (fcA A w) C y a r)), stk h o S') := by
  obtain ⟨z0, z1, z2, z3, z4, z5⟩ := id Z
  have e0 : (226 : Int32) + nI (g + 1) = nI (226 + g + 1) := nI_add 226 (g + 1)
  have i0 : inB (nI (226 + g)) 931 = true := nI_inB (by omega) (by decide)
  have i00 : (nI (226 + g)).toNatClampNeg = 226 + g := nI_clamp (by omega)
  have e1 : nI (10 * g) + nI ml.length = nI (10 * g + ml.length) := nI_add _ _
  intro r
  induction r with
  | nil =>
    intro k a S hr hc
    have F1 := MF_stk F S
    have hl : ml.length ≤ k := List.drop_eq_nil_iff.mp hr
    have c1 : ¬ nI (10 * g + k) < nI (10 * g + ml.length) := nI_nlt (by omega) (by omega)
    refine ⟨S, ?_⟩
    simp only [x148_0, x148_1, x148_4, x148_5, x148_6, x148_9, x148_10, x148_11, x148_12, x148_13, x148_15, x148_16, x148_19, x148_20, x148_21, x148_22, x148_23, x148_24, x148_26, x148_28, x148_30, x148_32, x148_34, x148_35, x148_38, x148_41, x148_42, x148_45, x148_46, x148_47, x148_48, x148_49, x148_50, x148_51, x148_52, x148_55, x148_56, x148_59, x148_62, x148_64, x148_65, x148_66, x148_67, x148_70, x148_71, x148_73, x148_77, x148_80, x148_81, x148_82, x148_85, x148_88, x148_90, x148_91, x148_92, x148_93, x148_94, x148_97, x148_100, x148_101, F1, ixL, hg, e0, nI_pred, i0, i00, z3, e1, c1, true_or, and_self, ↓reduceIte, tg]
  | cons x r ih =>
    intro k a S hr hc
    have F1 := MF_stk F S
    have hx : ml[k]? = some x := by
      have : (ml.drop k)[0]? = some x := by rw [hr]; rfl
      rwa [List.getElem?_drop, Nat.add_zero] at this
    have hlt : k < ml.length := (List.getElem?_eq_some_iff.mp hx).1
    have hr2 : ml.drop (k + 1) = r := by
      have : (ml.drop k).drop 1 = r := by rw [hr]; rfl
      rwa [List.drop_drop] at this
    have c1 : nI (10 * g + k) < nI (10 * g + ml.length) := nI_lt (by omega) (by omega)
    have i1 := ix 231 (10 * g + k) 931 (by omega) (by decide)
    have i2 := ix 281 (10 * g + k) 931 (by omega) (by decide)
    obtain ⟨y1, y2, -⟩ := z5 k x hx
    rw [x148_30]
    by_cases hxy : x.1 = y
    · obtain ⟨S1, e2⟩ := sp_mholds (d := d) (S := S) F R Z hg hx (by rw [hxy]; exact hy) hw
      have F2 := MF_stk F S1
      obtain ⟨S', e3⟩ := ih (k + 1) (if x.1 = y ∧ hold (fcA A w) C x = true then a + x.2.1 else a) S1 hr2 hlt
      refine ⟨S', ?_⟩
      simp only [x148_32, x148_34, x148_35, x148_38, x148_41, x148_42, x148_45, x148_46, x148_47, x148_48, x148_49, x148_50, x148_51, x148_52, x148_55, x148_56, x148_59, x148_62, x148_64, x148_65, x148_66, x148_67, x148_70, x148_71, x148_73, x148_77, x148_80, x148_81, x148_82, x148_85, x148_88, x148_90, x148_91, x148_92, x148_93, x148_94, x148_97, xc148_74 F1.1 e2, F1, F2, ixL, hg, e0, nI_pred, i0, i00, z3, e1, c1, show (231 : Int32) = nI 231 from rfl, show (281 : Int32) = nI 281 from rfl, i1, i2, y1, y2, hxy, b2_0, nI_1, true_or, and_self, ↓reduceIte, tg]
      by_cases hh : hold (fcA A w) C x = true
      · simp only [hxy, hh, and_self, not_true_eq_false, ↓reduceIte] at e3 ⊢
        exact e3
      · simp only [hxy, hh, and_false, not_false_eq_true, ↓reduceIte, Bool.false_eq_true] at e3 ⊢
        exact e3
    · obtain ⟨S', e3⟩ := ih (k + 1) (if x.1 = y ∧ hold (fcA A w) C x = true then a + x.2.1 else a) S hr2 hlt
      refine ⟨S', ?_⟩
      simp only [x148_32, x148_34, x148_35, x148_38, x148_41, x148_42, x148_45, x148_46, x148_47, x148_48, x148_49, x148_50, x148_51, x148_52, x148_55, x148_56, x148_59, x148_62, x148_64, x148_65, x148_66, x148_67, x148_70, x148_71, x148_73, x148_77, x148_80, x148_81, x148_82, x148_85, x148_88, x148_90, x148_91, x148_92, x148_93, x148_94, x148_97, F1, ixL, hg, e0, nI_pred, i0, i00, z3, e1, c1, show (231 : Int32) = nI 231 from rfl, i1, y1, hxy, nI_1, true_or, and_self, ↓reduceIte, tg]
      simp only [hxy, false_and, ↓reduceIte] at e3 ⊢
      exact e3
theorem sp_sum (F : MF h o A B) (R : RG A n) (Z : MH A C cl ml) {w : Nat} {y : Int32} (hy : y = 0 ∨ y = 1 ∨ y = 2) (hw : w < n) : ∃ S', Rf (d + 2) 148 0 [.ref o, .int y, .int (nI w), noV, noV, noV] [] (stk h o S) = some (some (.int (tg (fcA A w) C y 0 ml)), stk h o S') := by
  have F1 := MF_stk F S
  rcases Z with ⟨h1, h2⟩ | ⟨g, hg, Z⟩
  · refine ⟨S, ?_⟩
    subst h2
    simp only [x148_0, x148_1, x148_4, x148_5, x148_6, x148_9, x148_10, x148_11, x148_12, x148_13, F1, ixL, h1, true_or, and_self, ↓reduceIte, tg]
  · have hz := Z.1
    have c0 : ¬ nI (g + 1) = 0 := nI_ne0 (by omega) (by omega)
    obtain ⟨S', e1⟩ := lp_sum (d := d) F R Z hg hy hw ml 0 0 S rfl (Nat.zero_le _)
    refine ⟨S', ?_⟩
    have e2 : (10 : Int32) * nI g = nI (10 * g) := pk_mul 10 g
    rw [Nat.add_zero] at e1
    simp only [x148_0, x148_1, x148_4, x148_5, x148_6, x148_9, x148_10, x148_11, x148_12, x148_13, x148_15, x148_16, x148_19, x148_20, x148_21, x148_22, x148_23, x148_24, x148_26, x148_28, F1, ixL, hg, c0, nI_pred, e2, true_or, and_self, ↓reduceIte]
    exact e1
theorem lp_last (F : MF h o A B) (Z : ML A g C cl ml) (hg : A 1 = nI (g + 1)) {y v : Int32} : ∀ (r : List Cl) (k : Nat) (a : Int32), ml.drop k = r → k ≤ ml.length → Rf d 149 30 [.ref o, .int y, .int v, .int a, .int (nI (10 * g)), .int (nI (10 * g + k))] [] h = some (some (.int (la y a r)), h) := by
  obtain ⟨z0, z1, z2, z3, z4, z5⟩ := id Z
  have e0 : (226 : Int32) + nI (g + 1) = nI (226 + g + 1) := nI_add 226 (g + 1)
  have i0 : inB (nI (226 + g)) 931 = true := nI_inB (by omega) (by decide)
  have i00 : (nI (226 + g)).toNatClampNeg = 226 + g := nI_clamp (by omega)
  have e1 : nI (10 * g) + nI ml.length = nI (10 * g + ml.length) := nI_add _ _
  intro r
  induction r with
  | nil =>
    intro k a hr hc
    have hl : ml.length ≤ k := List.drop_eq_nil_iff.mp hr
    have c1 : ¬ nI (10 * g + k) < nI (10 * g + ml.length) := nI_nlt (by omega) (by omega)
    simp only [x149_0, x149_1, x149_4, x149_5, x149_6, x149_9, x149_10, x149_11, x149_12, x149_13, x149_15, x149_16, x149_19, x149_20, x149_21, x149_22, x149_23, x149_24, x149_26, x149_28, x149_30, x149_32, x149_34, x149_35, x149_38, x149_41, x149_42, x149_45, x149_46, x149_47, x149_48, x149_49, x149_50, x149_51, x149_52, x149_55, x149_56, x149_59, x149_62, x149_64, x149_65, x149_66, x149_67, x149_70, x149_71, x149_74, x149_77, x149_79, x149_80, x149_81, x149_82, x149_85, x149_88, x149_89, F, ixL, hg, e0, nI_pred, i0, i00, z3, e1, c1, true_or, and_self, ↓reduceIte, la]
  | cons x r ih =>
    intro k a hr hc
    have hx : ml[k]? = some x := by
      have : (ml.drop k)[0]? = some x := by rw [hr]; rfl
      rwa [List.getElem?_drop, Nat.add_zero] at this
    have hlt : k < ml.length := (List.getElem?_eq_some_iff.mp hx).1
    have hr2 : ml.drop (k + 1) = r := by
      have : (ml.drop k).drop 1 = r := by rw [hr]; rfl
      rwa [List.drop_drop] at this
    have c1 : nI (10 * g + k) < nI (10 * g + ml.length) := nI_lt (by omega) (by omega)
    have i1 := ix 231 (10 * g + k) 931 (by omega) (by decide)
    have i2 := ix 281 (10 * g + k) 931 (by omega) (by decide)
    obtain ⟨y1, y2, -⟩ := z5 k x hx
    have e3 := ih (k + 1) (if x.1 = y then x.2.1 else a) hr2 hlt
    rw [x149_30]
    simp only [x149_32, x149_34, x149_35, x149_38, x149_41, x149_42, x149_45, x149_46, x149_47, x149_48, x149_49, x149_50, x149_51, x149_52, x149_55, x149_56, x149_59, x149_62, x149_64, x149_65, x149_66, x149_67, x149_70, x149_71, x149_74, x149_77, x149_79, x149_80, x149_81, x149_82, x149_85, x149_88, x149_89, F, ixL, hg, e0, nI_pred, i0, i00, z3, e1, c1, show (231 : Int32) = nI 231 from rfl, show (281 : Int32) = nI 281 from rfl, i1, i2, y1, y2, nI_1, true_or, and_self, ↓reduceIte, la]
    by_cases hxy : x.1 = y
    · simp only [hxy, ↓reduceIte] at e3 ⊢
      exact e3
    · simp only [hxy, ↓reduceIte] at e3 ⊢
      exact e3
theorem sp_last (F : MF h o A B) (Z : MH A C cl ml) {y v : Int32} : Rf d 149 0 [.ref o, .int y, .int v, noV, noV, noV] [] h = some (some (.int (la y v ml)), h) := by
  rcases Z with ⟨h1, h2⟩ | ⟨g, hg, Z⟩
  · subst h2
    simp only [x149_0, x149_1, x149_4, x149_5, x149_6, x149_9, x149_10, x149_11, x149_12, x149_13, F, ixL, h1, true_or, and_self, ↓reduceIte, la]
  · have hz := Z.1
    have c0 : ¬ nI (g + 1) = 0 := nI_ne0 (by omega) (by omega)
    have e1 := lp_last (d := d) (y := y) (v := v) F Z hg ml 0 v rfl (Nat.zero_le _)
    have e2 : (10 : Int32) * nI g = nI (10 * g) := pk_mul 10 g
    rw [Nat.add_zero] at e1
    simp only [x149_0, x149_1, x149_4, x149_5, x149_6, x149_9, x149_10, x149_11, x149_12, x149_13, x149_15, x149_16, x149_19, x149_20, x149_21, x149_22, x149_23, x149_24, x149_26, x149_28, F, ixL, hg, c0, nI_pred, e2, true_or, and_self, ↓reduceIte]
    exact e1
end MS
