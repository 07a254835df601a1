-- deps: 54.act
/-! AN ACT of the model. -/
def mts (h : AHp) (o : Nat) (s : Nat × (Nat → Int32)) : AHp := hset (hset h (o + 7) (.inl (0, 20, .inl s.2))) o (oSet (h.1 o) 10 (.int (nI s.1)))
section MA
variable {d o n w k : Nat} {h : AHp} {s : Nat × (Nat → Int32)} {v x b : Int32} {A B : Nat → Int32}
theorem mts_at {p : Nat} (h1 : ¬ p = o) (h2 : ¬ p = o + 7) : (mts h o s).1 p = h.1 p := by
  rw [mts, hset_at, if_neg h1, hset_at, if_neg h2]
theorem mts_0 : (mts h o s).1 o = oSet (h.1 o) 10 (.int (nI s.1)) := by rw [mts, hset_at, if_pos rfl]
theorem mts_7 : (mts h o s).1 (o + 7) = .inl (0, 20, .inl s.2) := by rw [mts, hset_at, if_neg (by omega), hset_at, if_pos rfl]
theorem MF_mts (F : MF h o A B) (s : Nat × (Nat → Int32)) : MF (mts h o s) o A B := by
  have hl : 10 < oL (h.1 o) := by simp only [F]; decide
  have a : ∀ i, 0 < i → ¬ i = 7 → (mts h o s).1 (o + i) = h.1 (o + i) := fun i h1 h2 => mts_at (by omega) (by omega)
  simp only [MF, mts_0, mts_7, a 1 (by decide) (by decide), a 2 (by decide) (by decide), a 3 (by decide) (by decide), a 4 (by decide) (by decide), a 5 (by decide) (by decide), a 6 (by decide) (by decide), cls_set, oL_set, oKi_eq hl, aT_i, aN_i, aF_i,
    oKr_ne (show ¬ 0 = 10 by decide), oR_ne (show ¬ 0 = 10 by decide),
    oKr_ne (show ¬ 1 = 10 by decide), oR_ne (show ¬ 1 = 10 by decide),
    oKr_ne (show ¬ 6 = 10 by decide), oR_ne (show ¬ 6 = 10 by decide),
    oKr_ne (show ¬ 7 = 10 by decide), oR_ne (show ¬ 7 = 10 by decide),
    oKr_ne (show ¬ 8 = 10 by decide), oR_ne (show ¬ 8 = 10 by decide),
    oKr_ne (show ¬ 9 = 10 by decide), oR_ne (show ¬ 9 = 10 by decide),
    oKr_ne (show ¬ 11 = 10 by decide), oR_ne (show ¬ 11 = 10 by decide),
    oKi_ne (show ¬ 2 = 10 by decide),
    oKi_ne (show ¬ 3 = 10 by decide),
    oKi_ne (show ¬ 4 = 10 by decide),
    oKi_ne (show ¬ 5 = 10 by decide),
    F, and_self]
theorem mts_set {r : Int32} {U : Nat → Int32} {n : Nat} (hr : r = nI n) : hset (hset (mts h o s) (o + 7) (.inl (0, 20, .inl U))) o (oSet (oSet (h.1 o) 10 (.int (nI s.1))) 10 (.int r)) = mts h o (n, U) := by
  subst hr
  rw [oSet_twice]
  unfold mts hset
  refine Prod.ext (funext fun q => ?_) rfl
  simp only
  by_cases h1 : q = o
  · simp only [h1, ↓reduceIte]
  · by_cases h2 : q = o + 7
    · subst h2; simp
    · simp only [h1, h2, ↓reduceIte]
theorem sp_begin (F : MF h o A B) (hs : s.1 < 20) : Rf d 189 0 [.ref o, .int b] [] (mts h o s) = some (none, mts h o (bg s b)) := by
  have c1 : nI s.1 < 20 := nI_lt (a := s.1) (b := 20) hs (by omega)
  have c2 : inB (nI s.1) 20 = true := nI_inB hs (by omega)
  have c3 : (nI s.1).toNatClampNeg = s.1 := nI_clamp (by omega)
  have l1 : 10 < oL (h.1 o) := by simp only [F]; decide
  simp only [x189_0, x189_1, x189_4, x189_6, x189_9, x189_10, x189_13, x189_14, x189_17, x189_18, x189_19, x189_20, x189_21, x189_24, x189_25, x189_26, x189_29, mts_0, mts_7, cls_set, oL_set, oN_eq l1, oKi_eq l1, oKr_ne (show ¬ 11 = 10 by decide), oR_ne (show ¬ 11 = 10 by decide), F, c1, c2, c3, aT_i, aN_i, aF_i, hset_at, plus_ne0 o 7 (by decide), and_self, ↓reduceIte]
  rw [mts_set (n := s.1 + 1) (nI_1 _)]
  rfl
theorem mh0 (F : MF h o A B) (hs : s.1 < 20) : Rf (d + 1) 190 0 [.ref o, .int 0, .int (nI w), .int x] [] (mts h o s) = some (some (.int (x + nI w)), mts h o (bg s 1)) := by
  simp only [x190_0, x190_1, x190_2, x190_5, x190_6, x190_11, x190_12, x190_13, x190_14, x190_18, x190_19, x190_20, x190_21, x190_22, x190_23, x190_26, x190_27, x190_32, x190_33, x190_34, x190_35, x190_36, x190_37, x190_41, x190_42, x190_43, x190_46, x190_47, x190_51, x190_52, x190_56, x190_57, x190_58, x190_62, x190_63, x190_64, x190_65, xc190_59 (MF_mts F s).1 (sp_begin (d := d) F hs), l06, ↓reduceIte]
theorem mab (j : Nat) (hj : j ≤ 6) {q : Int32} (e : nI j = q) {r : Int32} (e2 : nI (j - 3) = r) : Rf d 188 0 [.int q] [] h = some (some (.int r), h) := by
  subst e e2
  exact sp_above hj
theorem mh2 (F : MF h o A B) (hs : s.1 < 20) : Rf (d + 2) 190 0 [.ref o, .int 2, .int (nI w), .int x] [] (mts h o s) = some (some (.int (x + nI w)), mts h o (bg s 1)) := by
  simp only [x190_0, x190_1, x190_2, x190_5, x190_6, x190_11, x190_12, x190_13, x190_14, x190_18, x190_19, x190_20, x190_21, x190_22, x190_23, x190_26, x190_27, x190_32, x190_33, x190_34, x190_35, x190_36, x190_37, x190_41, x190_42, x190_43, x190_46, x190_47, x190_51, x190_52, x190_56, x190_57, x190_58, x190_62, x190_63, x190_64, x190_65, xc190_48 (mab (d := d + 1) 2 (by decide) (q := 2) rfl (r := 0) rfl), xc190_53 (MF_mts F s).1 (mh0 (d := d) F hs), l06, ↓reduceIte]
theorem mh3 (F : MF h o A B) (hs : s.1 < 20) : Rf (d + 2) 190 0 [.ref o, .int 3, .int (nI w), .int x] [] (mts h o s) = some (some (.int (x + nI w)), mts h o (bg s 1)) := by
  simp only [x190_0, x190_1, x190_2, x190_5, x190_6, x190_11, x190_12, x190_13, x190_14, x190_18, x190_19, x190_20, x190_21, x190_22, x190_23, x190_26, x190_27, x190_32, x190_33, x190_34, x190_35, x190_36, x190_37, x190_41, x190_42, x190_43, x190_46, x190_47, x190_51, x190_52, x190_56, x190_57, x190_58, x190_62, x190_63, x190_64, x190_65, xc190_48 (mab (d := d + 1) 3 (by decide) (q := 3) rfl (r := 0) rfl), xc190_53 (MF_mts F s).1 (mh0 (d := d) F hs), l06, ↓reduceIte]
theorem mh1 (F : MF h o A B) (hs : s.1 < 19) : Rf (d + 2) 190 0 [.ref o, .int 1, .int (nI w), .int x] [] (mts h o s) = some (some (.int (x * 3 + nI w)), mts h o (bg (bg s 11) 1)) := by
  simp only [x190_0, x190_1, x190_2, x190_5, x190_6, x190_11, x190_12, x190_13, x190_14, x190_18, x190_19, x190_20, x190_21, x190_22, x190_23, x190_26, x190_27, x190_32, x190_33, x190_34, x190_35, x190_36, x190_37, x190_41, x190_42, x190_43, x190_46, x190_47, x190_51, x190_52, x190_56, x190_57, x190_58, x190_62, x190_63, x190_64, x190_65, xc190_29 (MF_mts F s).1 (sp_begin (d := d + 1) F (by omega)), xc190_38 (MF_mts F _).1 (mh0 (s := bg s 11) (d := d) F (by rw [bg_1]; omega)), l06, ↓reduceIte]
theorem mh4 (F : MF h o A B) (hs : s.1 < 19) : Rf (d + 3) 190 0 [.ref o, .int 4, .int (nI w), .int x] [] (mts h o s) = some (some (.int (x * 3 + nI w)), mts h o (bg (bg s 11) 1)) := by
  simp only [x190_0, x190_1, x190_2, x190_5, x190_6, x190_11, x190_12, x190_13, x190_14, x190_18, x190_19, x190_20, x190_21, x190_22, x190_23, x190_26, x190_27, x190_32, x190_33, x190_34, x190_35, x190_36, x190_37, x190_41, x190_42, x190_43, x190_46, x190_47, x190_51, x190_52, x190_56, x190_57, x190_58, x190_62, x190_63, x190_64, x190_65, xc190_48 (mab (d := d + 2) 4 (by decide) (q := 4) rfl (r := 1) rfl), xc190_53 (MF_mts F s).1 (mh1 (d := d) F hs), l06, ↓reduceIte]
theorem mh5 (F : MF h o A B) (hs : s.1 < 19) : Rf (d + 3) 190 0 [.ref o, .int 5, .int (nI w), .int x] [] (mts h o s) = some (some (.int ((x + nI w) ^^^ nI w)), mts h o (bg (bg s 51) 1)) := by
  simp only [x190_0, x190_1, x190_2, x190_5, x190_6, x190_11, x190_12, x190_13, x190_14, x190_18, x190_19, x190_20, x190_21, x190_22, x190_23, x190_26, x190_27, x190_32, x190_33, x190_34, x190_35, x190_36, x190_37, x190_41, x190_42, x190_43, x190_46, x190_47, x190_51, x190_52, x190_56, x190_57, x190_58, x190_62, x190_63, x190_64, x190_65, xc190_8 (MF_mts F s).1 (sp_begin (d := d + 2) F (by omega)), xc190_15 (MF_mts F _).1 (mh2 (s := bg s 51) (d := d) F (by rw [bg_1]; omega)), l06, ↓reduceIte]
theorem mh6 (F : MF h o A B) (hs : s.1 < 20) : Rf (d + 3) 190 0 [.ref o, .int 6, .int (nI w), .int x] [] (mts h o s) = some (some (.int (x + nI w)), mts h o (bg s 1)) := by
  simp only [x190_0, x190_1, x190_2, x190_5, x190_6, x190_11, x190_12, x190_13, x190_14, x190_18, x190_19, x190_20, x190_21, x190_22, x190_23, x190_26, x190_27, x190_32, x190_33, x190_34, x190_35, x190_36, x190_37, x190_41, x190_42, x190_43, x190_46, x190_47, x190_51, x190_52, x190_56, x190_57, x190_58, x190_62, x190_63, x190_64, x190_65, xc190_48 (mab (d := d + 2) 6 (by decide) (q := 6) rfl (r := 3) rfl), xc190_53 (MF_mts F s).1 (mh3 (d := d) F hs), l06, ↓reduceIte]
theorem mh (F : MF h o A B) (hk : k ≤ 6) (hs : s.1 < 19) : Rf (d + 3) 190 0 [.ref o, .int (nI k), .int (nI w), .int x] [] (mts h o s) = some (some (.int (hV k (nI w) x)), mts h o (hT k s)) := by
  match k, hk with
  | 0, _ => exact mh0 (d := d + 2) F (by omega)
  | 1, _ => exact mh1 (d := d + 1) F hs
  | 2, _ => exact mh2 (d := d + 1) F (by omega)
  | 3, _ => exact mh3 (d := d + 1) F (by omega)
  | 4, _ => exact mh4 (d := d) F hs
  | 5, _ => exact mh5 (d := d) F hs
  | 6, _ => exact mh6 (d := d) F (by omega)
theorem ma0 (F : MF h o A B) (hk : k ≤ 6) (hw : w < 10) (ek : A (60 + w) = nI k) (hs : s.1 < 18) : Rf (d + 4) 191 0 [.ref o, .int 0, .int (nI w), .int x] [] (mts h o s) = some (some (.int (hV k (nI w) x - A (70 + w))), mts h o (hT k (bg s 2))) := by
  have i60 : (60 : Int32) + nI w = nI (60 + w) ∧ inB (nI (60 + w)) 931 = true ∧ (nI (60 + w)).toNatClampNeg = 60 + w := ixs 60 w (by omega)
  have i70 : (70 : Int32) + nI w = nI (70 + w) ∧ inB (nI (70 + w)) 931 = true ∧ (nI (70 + w)).toNatClampNeg = 70 + w := ixs 70 w (by omega)
  have F1 := MF_mts F
  simp only [x191_0, x191_1, x191_2, x191_5, x191_6, x191_11, x191_12, x191_13, x191_14, x191_18, x191_19, x191_20, x191_21, x191_23, x191_26, x191_27, x191_32, x191_33, x191_34, x191_35, x191_39, x191_40, x191_43, x191_45, x191_46, x191_47, x191_48, x191_49, x191_50, x191_51, x191_54, x191_55, x191_59, x191_60, x191_64, x191_65, x191_66, x191_70, x191_71, x191_72, x191_75, x191_77, x191_78, x191_79, x191_80, x191_81, x191_85, x191_86, x191_89, x191_91, x191_92, x191_93, x191_94, x191_95, xc191_67 (MF_mts F s).1 (sp_begin (d := d + 3) F (by omega)), xc191_82 (MF_mts F _).1 (mh (s := bg s 2) (d := d) F hk (by rw [bg_1]; omega)), F1, i60, i70, ek, l06, true_or, and_self, ↓reduceIte]
theorem ma1 (F : MF h o A B) (hk : k ≤ 6) (hw : w < 10) (ek : A (60 + w) = nI k) (hs : s.1 < 18) : Rf (d + 5) 191 0 [.ref o, .int 1, .int (nI w), .int x] [] (mts h o s) = some (some (.int (hV k (nI w) x - A (70 + w))), mts h o (hT k (bg s 2))) := by
  simp only [x191_0, x191_1, x191_2, x191_5, x191_6, x191_11, x191_12, x191_13, x191_14, x191_18, x191_19, x191_20, x191_21, x191_23, x191_26, x191_27, x191_32, x191_33, x191_34, x191_35, x191_39, x191_40, x191_43, x191_45, x191_46, x191_47, x191_48, x191_49, x191_50, x191_51, x191_54, x191_55, x191_59, x191_60, x191_64, x191_65, x191_66, x191_70, x191_71, x191_72, x191_75, x191_77, x191_78, x191_79, x191_80, x191_81, x191_85, x191_86, x191_89, x191_91, x191_92, x191_93, x191_94, x191_95, xc191_56 (mab (d := d + 4) 1 (by decide) (q := 1) rfl (r := 0) rfl), xc191_61 (MF_mts F s).1 (ma0 (d := d) F hk hw ek hs), l06, ↓reduceIte]
theorem ma3 (F : MF h o A B) (hk : k ≤ 6) (hw : w < 10) (ek : A (60 + w) = nI k) (hs : s.1 < 18) : Rf (d + 5) 191 0 [.ref o, .int 3, .int (nI w), .int x] [] (mts h o s) = some (some (.int (hV k (nI w) x - A (70 + w))), mts h o (hT k (bg s 2))) := by
  simp only [x191_0, x191_1, x191_2, x191_5, x191_6, x191_11, x191_12, x191_13, x191_14, x191_18, x191_19, x191_20, x191_21, x191_23, x191_26, x191_27, x191_32, x191_33, x191_34, x191_35, x191_39, x191_40, x191_43, x191_45, x191_46, x191_47, x191_48, x191_49, x191_50, x191_51, x191_54, x191_55, x191_59, x191_60, x191_64, x191_65, x191_66, x191_70, x191_71, x191_72, x191_75, x191_77, x191_78, x191_79, x191_80, x191_81, x191_85, x191_86, x191_89, x191_91, x191_92, x191_93, x191_94, x191_95, xc191_56 (mab (d := d + 4) 3 (by decide) (q := 3) rfl (r := 0) rfl), xc191_61 (MF_mts F s).1 (ma0 (d := d) F hk hw ek hs), l06, ↓reduceIte]
theorem ma4 (F : MF h o A B) (hk : k ≤ 6) (hw : w < 10) (ek : A (60 + w) = nI k) (hs : s.1 < 18) : Rf (d + 6) 191 0 [.ref o, .int 4, .int (nI w), .int x] [] (mts h o s) = some (some (.int (hV k (nI w) x - A (70 + w))), mts h o (hT k (bg s 2))) := by
  simp only [x191_0, x191_1, x191_2, x191_5, x191_6, x191_11, x191_12, x191_13, x191_14, x191_18, x191_19, x191_20, x191_21, x191_23, x191_26, x191_27, x191_32, x191_33, x191_34, x191_35, x191_39, x191_40, x191_43, x191_45, x191_46, x191_47, x191_48, x191_49, x191_50, x191_51, x191_54, x191_55, x191_59, x191_60, x191_64, x191_65, x191_66, x191_70, x191_71, x191_72, x191_75, x191_77, x191_78, x191_79, x191_80, x191_81, x191_85, x191_86, x191_89, x191_91, x191_92, x191_93, x191_94, x191_95, xc191_56 (mab (d := d + 5) 4 (by decide) (q := 4) rfl (r := 1) rfl), xc191_61 (MF_mts F s).1 (ma1 (d := d) F hk hw ek hs), l06, ↓reduceIte]
theorem ma2 (F : MF h o A B) (hk : k ≤ 6) (hw : w < 10) (ek : A (60 + w) = nI k) (hs : s.1 < 17) : Rf (d + 5) 191 0 [.ref o, .int 2, .int (nI w), .int x] [] (mts h o s) = some (some (.int (-(hV k (nI w) x - A (70 + w)))), mts h o (hT k (bg (bg s 21) 2))) := by
  simp only [x191_0, x191_1, x191_2, x191_5, x191_6, x191_11, x191_12, x191_13, x191_14, x191_18, x191_19, x191_20, x191_21, x191_23, x191_26, x191_27, x191_32, x191_33, x191_34, x191_35, x191_39, x191_40, x191_43, x191_45, x191_46, x191_47, x191_48, x191_49, x191_50, x191_51, x191_54, x191_55, x191_59, x191_60, x191_64, x191_65, x191_66, x191_70, x191_71, x191_72, x191_75, x191_77, x191_78, x191_79, x191_80, x191_81, x191_85, x191_86, x191_89, x191_91, x191_92, x191_93, x191_94, x191_95, xc191_8 (MF_mts F s).1 (sp_begin (d := d + 4) F (by omega)), xc191_15 (MF_mts F _).1 (ma0 (s := bg s 21) (d := d) F hk hw ek (by rw [bg_1]; omega)), l06, ↓reduceIte]
theorem ma5 (F : MF h o A B) (hk : k ≤ 6) (hw : w < 10) (ek : A (60 + w) = nI k) (hs : s.1 < 17) : Rf (d + 6) 191 0 [.ref o, .int 5, .int (nI w), .int x] [] (mts h o s) = some (some (.int (-(hV k (nI w) x - A (70 + w)))), mts h o (hT k (bg (bg s 21) 2))) := by
  simp only [x191_0, x191_1, x191_2, x191_5, x191_6, x191_11, x191_12, x191_13, x191_14, x191_18, x191_19, x191_20, x191_21, x191_23, x191_26, x191_27, x191_32, x191_33, x191_34, x191_35, x191_39, x191_40, x191_43, x191_45, x191_46, x191_47, x191_48, x191_49, x191_50, x191_51, x191_54, x191_55, x191_59, x191_60, x191_64, x191_65, x191_66, x191_70, x191_71, x191_72, x191_75, x191_77, x191_78, x191_79, x191_80, x191_81, x191_85, x191_86, x191_89, x191_91, x191_92, x191_93, x191_94, x191_95, xc191_56 (mab (d := d + 5) 5 (by decide) (q := 5) rfl (r := 2) rfl), xc191_61 (MF_mts F s).1 (ma2 (d := d) F hk hw ek hs), l06, ↓reduceIte]
theorem ma6 (F : MF h o A B) (hk : k ≤ 6) (hw : w < 10) (ek : A (60 + w) = nI k) (hs : s.1 < 17) : Rf (d + 6) 191 0 [.ref o, .int 6, .int (nI w), .int x] [] (mts h o s) = some (some (.int (hV k (nI w) x - A (70 + w) + A (70 + w))), mts h o (hT k (bg (bg s 61) 2))) := by
  have i70 : (70 : Int32) + nI w = nI (70 + w) ∧ inB (nI (70 + w)) 931 = true ∧ (nI (70 + w)).toNatClampNeg = 70 + w := ixs 70 w (by omega)
  have F1 := MF_mts F
  simp only [x191_0, x191_1, x191_2, x191_5, x191_6, x191_11, x191_12, x191_13, x191_14, x191_18, x191_19, x191_20, x191_21, x191_23, x191_26, x191_27, x191_32, x191_33, x191_34, x191_35, x191_39, x191_40, x191_43, x191_45, x191_46, x191_47, x191_48, x191_49, x191_50, x191_51, x191_54, x191_55, x191_59, x191_60, x191_64, x191_65, x191_66, x191_70, x191_71, x191_72, x191_75, x191_77, x191_78, x191_79, x191_80, x191_81, x191_85, x191_86, x191_89, x191_91, x191_92, x191_93, x191_94, x191_95, xc191_29 (MF_mts F s).1 (sp_begin (d := d + 5) F (by omega)), xc191_36 (MF_mts F _).1 (ma3 (s := bg s 61) (d := d) F hk hw ek (by rw [bg_1]; omega)), F1, i70, l06, true_or, and_self, ↓reduceIte]
theorem ma (F : MF h o A B) (hk : k ≤ 6) (hw : w < 10) (ek : A (60 + w) = nI k) (hs : s.1 < 17) : Rf (d + 6) 191 0 [.ref o, .int (nI k), .int (nI w), .int x] [] (mts h o s) = some (some (.int (aV k k (nI w) (A (70 + w)) x)), mts h o (aT1 k k s)) := by
  match k, hk with
  | 0, hk => exact ma0 (d := d + 2) F hk hw ek (by omega)
  | 1, hk => exact ma1 (d := d + 1) F hk hw ek (by omega)
  | 2, hk => exact ma2 (d := d + 1) F hk hw ek hs
  | 3, hk => exact ma3 (d := d + 1) F hk hw ek (by omega)
  | 4, hk => exact ma4 (d := d) F hk hw ek (by omega)
  | 5, hk => exact ma5 (d := d) F hk hw ek hs
  | 6, hk => exact ma6 (d := d) F hk hw ek hs
theorem mt0 (F : MF h o A B) (hk : k ≤ 6) (hw : w < 10) (ek : A (60 + w) = nI k) (hs : s.1 < 16) : Rf (d + 7) 192 0 [.ref o, .int 0, .int (nI w), .int x, noV] [] (mts h o s) = some (some (.int (aV k k (nI w) (A (70 + w)) x * 2)), mts h o (aT1 k k (bg s 3))) := by
  have i60 : (60 : Int32) + nI w = nI (60 + w) ∧ inB (nI (60 + w)) 931 = true ∧ (nI (60 + w)).toNatClampNeg = 60 + w := ixs 60 w (by omega)
  have F1 := MF_mts F
  simp only [x192_0, x192_1, x192_2, x192_5, x192_6, x192_11, x192_12, x192_13, x192_14, x192_18, x192_20, x192_21, x192_22, x192_23, x192_24, x192_27, x192_28, x192_33, x192_34, x192_35, x192_36, x192_37, x192_38, x192_42, x192_44, x192_46, x192_47, x192_48, x192_51, x192_53, x192_54, x192_55, x192_56, x192_57, x192_61, x192_62, x192_63, x192_64, x192_67, x192_68, x192_72, x192_73, x192_77, x192_78, x192_79, x192_83, x192_84, x192_85, x192_88, x192_90, x192_91, x192_92, x192_93, x192_94, x192_98, x192_99, x192_100, xc192_80 (MF_mts F s).1 (sp_begin (d := d + 6) F (by omega)), xc192_95 (MF_mts F _).1 (ma (s := bg s 3) (d := d) F hk hw ek (by rw [bg_1]; omega)), F1, i60, ek, l06, true_or, and_self, ↓reduceIte]
theorem mt1 (F : MF h o A B) (hk : k ≤ 6) (hw : w < 10) (ek : A (60 + w) = nI k) (hs : s.1 < 16) : Rf (d + 8) 192 0 [.ref o, .int 1, .int (nI w), .int x, noV] [] (mts h o s) = some (some (.int (aV k k (nI w) (A (70 + w)) x * 2)), mts h o (aT1 k k (bg s 3))) := by
  simp only [x192_0, x192_1, x192_2, x192_5, x192_6, x192_11, x192_12, x192_13, x192_14, x192_18, x192_20, x192_21, x192_22, x192_23, x192_24, x192_27, x192_28, x192_33, x192_34, x192_35, x192_36, x192_37, x192_38, x192_42, x192_44, x192_46, x192_47, x192_48, x192_51, x192_53, x192_54, x192_55, x192_56, x192_57, x192_61, x192_62, x192_63, x192_64, x192_67, x192_68, x192_72, x192_73, x192_77, x192_78, x192_79, x192_83, x192_84, x192_85, x192_88, x192_90, x192_91, x192_92, x192_93, x192_94, x192_98, x192_99, x192_100, xc192_69 (mab (d := d + 7) 1 (by decide) (q := 1) rfl (r := 0) rfl), xc192_74 (MF_mts F s).1 (mt0 (d := d) F hk hw ek hs), l06, ↓reduceIte]
theorem mt2 (F : MF h o A B) (hk : k ≤ 6) (hw : w < 10) (ek : A (60 + w) = nI k) (hs : s.1 < 16) : Rf (d + 8) 192 0 [.ref o, .int 2, .int (nI w), .int x, noV] [] (mts h o s) = some (some (.int (aV k k (nI w) (A (70 + w)) x * 2)), mts h o (aT1 k k (bg s 3))) := by
  simp only [x192_0, x192_1, x192_2, x192_5, x192_6, x192_11, x192_12, x192_13, x192_14, x192_18, x192_20, x192_21, x192_22, x192_23, x192_24, x192_27, x192_28, x192_33, x192_34, x192_35, x192_36, x192_37, x192_38, x192_42, x192_44, x192_46, x192_47, x192_48, x192_51, x192_53, x192_54, x192_55, x192_56, x192_57, x192_61, x192_62, x192_63, x192_64, x192_67, x192_68, x192_72, x192_73, x192_77, x192_78, x192_79, x192_83, x192_84, x192_85, x192_88, x192_90, x192_91, x192_92, x192_93, x192_94, x192_98, x192_99, x192_100, xc192_69 (mab (d := d + 7) 2 (by decide) (q := 2) rfl (r := 0) rfl), xc192_74 (MF_mts F s).1 (mt0 (d := d) F hk hw ek hs), l06, ↓reduceIte]
theorem mt5 (F : MF h o A B) (hk : k ≤ 6) (hw : w < 10) (ek : A (60 + w) = nI k) (hs : s.1 < 16) : Rf (d + 9) 192 0 [.ref o, .int 5, .int (nI w), .int x, noV] [] (mts h o s) = some (some (.int (aV k k (nI w) (A (70 + w)) x * 2)), mts h o (aT1 k k (bg s 3))) := by
  simp only [x192_0, x192_1, x192_2, x192_5, x192_6, x192_11, x192_12, x192_13, x192_14, x192_18, x192_20, x192_21, x192_22, x192_23, x192_24, x192_27, x192_28, x192_33, x192_34, x192_35, x192_36, x192_37, x192_38, x192_42, x192_44, x192_46, x192_47, x192_48, x192_51, x192_53, x192_54, x192_55, x192_56, x192_57, x192_61, x192_62, x192_63, x192_64, x192_67, x192_68, x192_72, x192_73, x192_77, x192_78, x192_79, x192_83, x192_84, x192_85, x192_88, x192_90, x192_91, x192_92, x192_93, x192_94, x192_98, x192_99, x192_100, xc192_69 (mab (d := d + 8) 5 (by decide) (q := 5) rfl (r := 2) rfl), xc192_74 (MF_mts F s).1 (mt2 (d := d) F hk hw ek hs), l06, ↓reduceIte]
theorem mt3 (F : MF h o A B) (hk : k ≤ 6) (hw : w < 10) (ek : A (60 + w) = nI k) (hs : s.1 < 15) : Rf (d + 8) 192 0 [.ref o, .int 3, .int (nI w), .int x, noV] [] (mts h o s) = some (some (.int ((aV k k (nI w) (A (70 + w)) x * 2) ^^^ 7)), mts h o (aT1 k k (bg (bg s 31) 3))) := by
  simp only [x192_0, x192_1, x192_2, x192_5, x192_6, x192_11, x192_12, x192_13, x192_14, x192_18, x192_20, x192_21, x192_22, x192_23, x192_24, x192_27, x192_28, x192_33, x192_34, x192_35, x192_36, x192_37, x192_38, x192_42, x192_44, x192_46, x192_47, x192_48, x192_51, x192_53, x192_54, x192_55, x192_56, x192_57, x192_61, x192_62, x192_63, x192_64, x192_67, x192_68, x192_72, x192_73, x192_77, x192_78, x192_79, x192_83, x192_84, x192_85, x192_88, x192_90, x192_91, x192_92, x192_93, x192_94, x192_98, x192_99, x192_100, xc192_8 (MF_mts F s).1 (sp_begin (d := d + 7) F (by omega)), xc192_15 (MF_mts F _).1 (mt0 (s := bg s 31) (d := d) F hk hw ek (by rw [bg_1]; omega)), l06, ↓reduceIte]
theorem mt6 (F : MF h o A B) (hk : k ≤ 6) (hw : w < 10) (ek : A (60 + w) = nI k) (hs : s.1 < 15) : Rf (d + 9) 192 0 [.ref o, .int 6, .int (nI w), .int x, noV] [] (mts h o s) = some (some (.int ((aV k k (nI w) (A (70 + w)) x * 2) ^^^ 7)), mts h o (aT1 k k (bg (bg s 31) 3))) := by
  simp only [x192_0, x192_1, x192_2, x192_5, x192_6, x192_11, x192_12, x192_13, x192_14, x192_18, x192_20, x192_21, x192_22, x192_23, x192_24, x192_27, x192_28, x192_33, x192_34, x192_35, x192_36, x192_37, x192_38, x192_42, x192_44, x192_46, x192_47, x192_48, x192_51, x192_53, x192_54, x192_55, x192_56, x192_57, x192_61, x192_62, x192_63, x192_64, x192_67, x192_68, x192_72, x192_73, x192_77, x192_78, x192_79, x192_83, x192_84, x192_85, x192_88, x192_90, x192_91, x192_92, x192_93, x192_94, x192_98, x192_99, x192_100, xc192_69 (mab (d := d + 8) 6 (by decide) (q := 6) rfl (r := 3) rfl), xc192_74 (MF_mts F s).1 (mt3 (d := d) F hk hw ek hs), l06, ↓reduceIte]
theorem mt4 (F : MF h o A B) (hk : k ≤ 6) (hw : w < 10) (ek : A (60 + w) = nI k) (hs : s.1 < 10) : Rf (d + 9) 192 0 [.ref o, .int 4, .int (nI w), .int x, noV] [] (mts h o s) = some (some (.int (aV k k (nI w) (A (70 + w)) (x - 1) * 2 + hV k (nI w) 2)), mts h o (hT k (aT1 k k (bg (bg s 41) 3)))) := by
  have i60 : (60 : Int32) + nI w = nI (60 + w) ∧ inB (nI (60 + w)) 931 = true ∧ (nI (60 + w)).toNatClampNeg = 60 + w := ixs 60 w (by omega)
  have F1 := MF_mts F
  have b1 : (aT1 k k (bg (bg s 41) 3)).1 < 19 := by
    have := aT_le k k (bg (bg s 41) 3)
    simp only [bg_1] at this
    omega
  simp only [x192_0, x192_1, x192_2, x192_5, x192_6, x192_11, x192_12, x192_13, x192_14, x192_18, x192_20, x192_21, x192_22, x192_23, x192_24, x192_27, x192_28, x192_33, x192_34, x192_35, x192_36, x192_37, x192_38, x192_42, x192_44, x192_46, x192_47, x192_48, x192_51, x192_53, x192_54, x192_55, x192_56, x192_57, x192_61, x192_62, x192_63, x192_64, x192_67, x192_68, x192_72, x192_73, x192_77, x192_78, x192_79, x192_83, x192_84, x192_85, x192_88, x192_90, x192_91, x192_92, x192_93, x192_94, x192_98, x192_99, x192_100, xc192_30 (MF_mts F s).1 (sp_begin (d := d + 8) F (by omega)), xc192_39 (MF_mts F _).1 (mt1 (s := bg s 41) (d := d) F hk hw ek (by rw [bg_1]; omega)), xc192_58 (MF_mts F _).1 (mh (d := d + 5) F hk b1), F1, i60, ek, l06, true_or, and_self, ↓reduceIte]
theorem mt (F : MF h o A B) (hk : k ≤ 6) (hw : w < 10) (ek : A (60 + w) = nI k) (hs : s.1 < 10) : Rf (d + 9) 192 0 [.ref o, .int (nI k), .int (nI w), .int x, noV] [] (mts h o s) = some (some (.int (eV k k (nI w) (A (70 + w)) x)), mts h o (eT k k s)) := by
  match k, hk with
  | 0, hk => exact mt0 (d := d + 2) F hk hw ek (by omega)
  | 1, hk => exact mt1 (d := d + 1) F hk hw ek (by omega)
  | 2, hk => exact mt2 (d := d + 1) F hk hw ek (by omega)
  | 3, hk => exact mt3 (d := d + 1) F hk hw ek (by omega)
  | 4, hk => exact mt4 (d := d) F hk hw ek (by omega)
  | 5, hk => exact mt5 (d := d) F hk hw ek (by omega)
  | 6, hk => exact mt6 (d := d) F hk hw ek (by omega)
theorem mts_i {im rn : Int32} {T : Nat → Int32} (M : MM h o A B im rn T) : hset h o (oSet (h.1 o) 10 (.int 0)) = mts h o (0, T) := by
  have F := M.1
  have e7 := cell_eq (c := h.1 (o + 7)) (t := 0) (by simp only [F]) (by decide)
  have n7 : aN (h.1 (o + 7)) = 20 := by simp only [F]
  rw [n7, M.2.2.2] at e7
  unfold mts
  rw [hset_self e7]
  rfl
end MA
section AC
variable {A B C T : Nat → Int32} {im rn : Int32} {n cl q n2 cl2 q2 : Nat} {ml ml2 : List Cl} {kn kn2 : Nat → Nat} {C2 : Nat → Int32} {h : AHp} {s : Nat × (Nat → Int32)}
theorem GX_act (G : GX h A B im rn T n C cl ml q kn n2 C2 cl2 ml2 q2 kn2) (hs : s.1 ≤ 100) : GX (mts (ts h s) 128 s) A B im (nI s.1) s.2 n C cl ml q kn n2 C2 cl2 ml2 q2 kn2 := by
  obtain ⟨x1, x2, x3, s1, s2, ⟨A3, q3, kn3, f3⟩, t1, t2, m1, w⟩ := G
  have e : ∀ p, ¬ p = 126 → ¬ p = 127 → ¬ p = 128 → ¬ p = 135 → (mts (ts h s) 128 s).1 p = h.1 p := fun p a b c d => (mts_at c d).trans (ts_at a b)
  have hz : h.2.1 ≤ (mts (ts h s) 128 s).2.1 := Nat.le_refl _
  have hl : 1 < oL (h.1 126) := by rw [t1.2.1]; decide
  have hl2 : 10 < oL ((ts h s).1 128) := by
    rw [ts_at (by decide) (by decide)]
    have := m1.1
    simp only [this]
    decide
  have Mt : MM (ts h s) 128 A B im rn T := MM_ne m1 (fun p a b => ts_at (by omega) (by omega))
  refine ⟨XF_ne x1 (e 32 (by omega) (by omega) (by omega) (by omega)), by rw [e 32 (by omega) (by omega) (by omega) (by omega)]; exact x2, x3, SD_ne s1 hz (fun p hp => e p (by unfold dyn at hp; omega) (by unfold dyn at hp; omega) (by unfold dyn at hp; omega) (by unfold dyn at hp; omega)), SD_ne s2 hz (fun p hp => e p (by unfold dyn at hp; omega) (by unfold dyn at hp; omega) (by unfold dyn at hp; omega) (by unfold dyn at hp; omega)), ⟨A3, q3, kn3, OF_ne f3 (fun p a b => e p (by omega) (by omega) (by omega) (by omega))⟩, ?_, ⟨s.1, hs, rfl⟩, ⟨MF_mts Mt.1 s, ?_, ?_, ?_⟩, w⟩
  · have e6 : (mts (ts h s) 128 s).1 126 = oSet (h.1 126) 1 (.int (nI s.1)) := (mts_at (by decide) (by decide)).trans ts_6
    have e7 : (mts (ts h s) 128 s).1 127 = .inl (0, 20, .inl s.2) := (mts_at (by decide) (by decide)).trans ts_7
    unfold TR at t1 ⊢
    simp only [e6, e7, cls_set, oL_set, oN_eq hl, oKi_eq hl, oKr_ne (show ¬ 0 = 1 by decide), oR_ne (show ¬ 0 = 1 by decide), t1, aT_i, aN_i, aF_i, and_self]
  · rw [mts_0, oN_ne (by decide)]; exact Mt.2.1
  · rw [mts_0, oN_eq hl2]
  · rw [mts_7]; rfl
theorem pr_act (G : GI h) {w a x : Int32} : PR h 122 193 [.ref 32, .int w, .int a, .int x, noV] [.ref 128, .int w, .int a, .int x, noV] := by
  obtain ⟨A, B, im, rn, T, n, C, cl, ml, q, kn, n2, C2, cl2, ml2, q2, kn2, G⟩ := G
  obtain ⟨F, K, D, R, Q, H, Mh, HRm, DD, l1, l2⟩ := G.2.2.2.1
  have X0 := G.1
  have hnn := R.1
  have tr := G.2.2.2.2.2.2.1
  have m0 := G.2.2.2.2.2.2.2.2.1
  have Z : TB h := ⟨tr.1, tr.2.1, tr.2.2.1, tr.2.2.2.1⟩
  have G0 := GX_act (s := (0, T)) G (by simp)
  have F0 : OF (ts h (0, T)) 33 A q kn := OF_ne F (fun p a b => ts_at (by omega) (by omega))
  have X1 : XF (ts h (0, T)) := XF_ne X0 (ts_at (by omega) (by omega))
  have Mt : ∀ s, MM (ts h s) 128 A B im rn T := fun s => MM_ne m0 (fun p a b => ts_at (by omega) (by omega))
  have e0 := sp_isWorker (d := 7) (w := w) F0
  have f0 := fun s => sp_misWorker (d := 8) (w := w) (MF_mts (Mt s).1 (0, T)) ⟨n, R.1, R.2.1⟩
  have t0 := ts_0 tr
  have u0 := fun s => mts_i (Mt s)
  by_cases hw : ¬ w < 0 ∧ w < A 0
  · rw [b2_t hw] at e0
    have f1 := fun s => f0 s
    simp only [b2_t hw] at f1
    obtain ⟨v, hv, rfl⟩ := isW_of R hw
    have hv10 : v < 10 := by omega
    have c2 : inB (nI v) 10 = true := nI_inB (by omega) (by omega)
    have c3 : (nI v).toNatClampNeg = v := nI_clamp (by omega)
    have i60 : (60 : Int32) + nI v = nI (60 + v) ∧ inB (nI (60 + v)) 931 = true ∧ (nI (60 + v)).toNatClampNeg = 60 + v := ixs 60 v (by omega)
    obtain ⟨k, hk, ek⟩ := kind_of R hv10
    have kd := DD.2 v hv10
    have KCv : KC h (kn v) k (nI v) (A (70 + v)) := by
      obtain ⟨a1, a2, a3, a4, a5, a6⟩ := K v hv10
      exact ⟨a1.trans (by rw [ek]), a2, a3, a4, a5, by unfold dyn at kd; omega, by unfold dyn at kd; omega⟩
    have M1 := fun s => MF_mts (Mt s).1 (0, T)
    by_cases a0 : a = 0
    · subst a0
      refine PR_of (h1 := ts h (hT k (0, T))) (h2 := mts (ts h (hT k (0, T))) 128 (hT k (0, T))) (dc := 8) (dm := 10) (v := hV k (nI v) x) ?_ ?_ (by decide) (by decide) (GX_act G (Nat.le_trans (hT_le _ _) (by simp))) (same2 rfl)
      · simp only [x122_0, x122_1, x122_4, x122_5, x122_8, x122_9, x122_12, x122_16, x122_19, x122_20, x122_21, x122_22, x122_25, x122_28, x122_29, x122_30, x122_32, x122_33, x122_60, x122_62, x122_63, x122_66, x122_70, x122_71, x122_73, x122_74, x122_77, x122_81, x122_82, x122_84, x122_85, x122_88, x122_92, x122_93, x122_94, xc122_13 F0.1 e0, vh_122 (d := 5) hk Z KCv (s := (0, T)) (by simp), Z, X0, X1, F0, t0, c2, c3, krR_at hv10, Option.isSome_some, Option.getD_some, l06, and_self, ↓reduceIte]
      · simp only [x193_0, x193_1, x193_2, x193_5, x193_6, x193_10, x193_13, x193_14, x193_15, x193_19, x193_22, x193_23, x193_24, x193_25, x193_28, x193_30, x193_31, x193_32, x193_33, x193_35, x193_36, x193_39, x193_40, x193_42, x193_43, x193_47, x193_50, x193_51, x193_52, x193_55, x193_56, x193_58, x193_59, x193_63, x193_66, x193_67, x193_69, x193_70, x193_74, xc193_7 (M1 _).1 (f1 _), xc193_16 (sp_mwithin (d := 9)), xc193_44 (M1 _).1 (mh (d := 6) (Mt _).1 hk (s := (0, T)) (by simp)), (Mt _).1, M1, u0, i60, ek, b2_0, l06, show ¬ (2 : Int32) < 0 from by decide, true_or, not_true_eq_false, not_false_eq_true, and_self, ↓reduceIte]
    · by_cases a1 : a = 1
      · subst a1
        refine PR_of (h1 := ts h (aT1 k k (0, T))) (h2 := mts (ts h (aT1 k k (0, T))) 128 (aT1 k k (0, T))) (dc := 8) (dm := 10) (v := aV k k (nI v) (A (70 + v)) x) ?_ ?_ (by decide) (by decide) (GX_act G (Nat.le_trans (aT_le _ _ _) (by simp))) (same2 rfl)
        · simp only [x122_0, x122_1, x122_4, x122_5, x122_8, x122_9, x122_12, x122_16, x122_19, x122_20, x122_21, x122_22, x122_25, x122_28, x122_29, x122_30, x122_32, x122_33, x122_60, x122_62, x122_63, x122_66, x122_70, x122_71, x122_73, x122_74, x122_77, x122_81, x122_82, x122_84, x122_85, x122_88, x122_92, x122_93, x122_94, xc122_13 F0.1 e0, va_122 (d := 3) hk Z KCv (s := (0, T)) (by simp), Z, X0, X1, F0, t0, c2, c3, krR_at hv10, Option.isSome_some, Option.getD_some, l06, and_self, ↓reduceIte]
        · simp only [x193_0, x193_1, x193_2, x193_5, x193_6, x193_10, x193_13, x193_14, x193_15, x193_19, x193_22, x193_23, x193_24, x193_25, x193_28, x193_30, x193_31, x193_32, x193_33, x193_35, x193_36, x193_39, x193_40, x193_42, x193_43, x193_47, x193_50, x193_51, x193_52, x193_55, x193_56, x193_58, x193_59, x193_63, x193_66, x193_67, x193_69, x193_70, x193_74, xc193_7 (M1 _).1 (f1 _), xc193_16 (sp_mwithin (d := 9)), xc193_60 (M1 _).1 (ma (d := 3) (Mt _).1 hk hv10 ek (s := (0, T)) (by simp)), (Mt _).1, M1, u0, i60, ek, b2_0, l06, show ¬ (1 : Int32) < 0 from by decide, show ¬ (2 : Int32) < 1 from by decide, true_or, not_true_eq_false, not_false_eq_true, and_self, ↓reduceIte]
      · by_cases a2 : a = 2
        · subst a2
          refine PR_of (h1 := ts h (eT k k (0, T))) (h2 := mts (ts h (eT k k (0, T))) 128 (eT k k (0, T))) (dc := 8) (dm := 10) (v := eV k k (nI v) (A (70 + v)) x) ?_ ?_ (by decide) (by decide) (GX_act G (Nat.le_trans (eT_le _ _ _) (by simp))) (same2 rfl)
          · simp only [x122_0, x122_1, x122_4, x122_5, x122_8, x122_9, x122_12, x122_16, x122_19, x122_20, x122_21, x122_22, x122_25, x122_28, x122_29, x122_30, x122_32, x122_33, x122_60, x122_62, x122_63, x122_66, x122_70, x122_71, x122_73, x122_74, x122_77, x122_81, x122_82, x122_84, x122_85, x122_88, x122_92, x122_93, x122_94, xc122_13 F0.1 e0, vt_122 (d := 1) hk Z KCv (s := (0, T)) (by simp), Z, X0, X1, F0, t0, c2, c3, krR_at hv10, Option.isSome_some, Option.getD_some, l06, and_self, ↓reduceIte]
          · simp only [x193_0, x193_1, x193_2, x193_5, x193_6, x193_10, x193_13, x193_14, x193_15, x193_19, x193_22, x193_23, x193_24, x193_25, x193_28, x193_30, x193_31, x193_32, x193_33, x193_35, x193_36, x193_39, x193_40, x193_42, x193_43, x193_47, x193_50, x193_51, x193_52, x193_55, x193_56, x193_58, x193_59, x193_63, x193_66, x193_67, x193_69, x193_70, x193_74, xc193_7 (M1 _).1 (f1 _), xc193_16 (sp_mwithin (d := 9)), xc193_71 (M1 _).1 (mt (d := 0) (Mt _).1 hk hv10 ek (s := (0, T)) (by simp)), (Mt _).1, M1, u0, i60, ek, b2_0, l06, show ¬ (2 : Int32) < 0 from by decide, show ¬ (2 : Int32) < 2 from by decide, true_or, not_true_eq_false, not_false_eq_true, and_self, ↓reduceIte]
        · have hb : ¬ (¬ a < 0 ∧ ¬ 2 < a) := by
            rintro ⟨b1, b2⟩
            obtain ⟨j, hj, rfl⟩ := nI_of2 (M := 2) (n := 2) (by decide) b1 (Int32.not_lt.mp b2)
            match j, hj with
            | 0, _ => exact a0 rfl
            | 1, _ => exact a1 rfl
            | 2, _ => exact a2 rfl
          refine PR_of (h1 := ts h (0, T)) (h2 := mts (ts h (0, T)) 128 (0, T)) (dc := 8) (dm := 10) (v := 0) ?_ ?_ (by decide) (by decide) G0 (same2 rfl)
          · simp only [x122_0, x122_1, x122_4, x122_5, x122_8, x122_9, x122_12, x122_16, x122_19, x122_20, x122_21, x122_22, x122_25, x122_28, x122_29, x122_30, x122_32, x122_33, x122_60, x122_62, x122_63, x122_66, x122_70, x122_71, x122_73, x122_74, x122_77, x122_81, x122_82, x122_84, x122_85, x122_88, x122_92, x122_93, x122_94, xc122_13 F0.1 e0, Z, X0, X1, F0, t0, c2, c3, krR_at hv10, Option.isSome_some, Option.getD_some, a0, a1, a2, l06, and_self, ↓reduceIte]
          · simp only [x193_0, x193_1, x193_2, x193_5, x193_6, x193_10, x193_13, x193_14, x193_15, x193_19, x193_22, x193_23, xc193_7 (M1 _).1 (f1 _), xc193_16 (sp_mwithin (d := 9)), (Mt _).1, M1, u0, b2_0, hb, l06, true_or, not_true_eq_false, not_false_eq_true, and_self, ↓reduceIte]
  · rw [b2_f hw] at e0
    have f1 := fun s => f0 s
    simp only [b2_f hw] at f1
    refine PR_of (h1 := ts h (0, T)) (h2 := mts (ts h (0, T)) 128 (0, T)) (dc := 8) (dm := 10) (v := 0) ?_ ?_ (by decide) (by decide) G0 (same2 rfl)
    · simp only [x122_0, x122_1, x122_4, x122_5, x122_8, x122_9, x122_12, x122_16, x122_19, x122_20, x122_21, x122_22, x122_25, x122_28, x122_29, x122_30, x122_32, x122_33, x122_60, x122_62, x122_63, x122_66, x122_70, x122_71, x122_73, x122_74, x122_77, x122_81, x122_82, x122_84, x122_85, x122_88, x122_92, x122_93, x122_94, xc122_13 F0.1 e0, Z, X0, X1, F0, t0, l06, and_self, ↓reduceIte]
    · simp only [x193_0, x193_1, x193_2, x193_5, x193_6, x193_10, x193_13, x193_14, x193_15, x193_19, x193_22, x193_23, xc193_7 (MF_mts (Mt _).1 (0, T)).1 (f1 _), (Mt _).1, u0, l06, true_or, and_self, ↓reduceIte]
end AC
