-- deps: 41.even
section BG
variable {d o q n cl : Nat} {kn : Nat → Nat} {A B C S : Nat → Int32} {h : AHp} {ml : List Cl}
def bgP (A C : Nat → Int32) (ml : List Cl) (n : Nat) (w first b : Int32) : Int32 := wk A w (fun w => if ¬ first < 0 ∧ ¬ 2 < first then (if ¬ b < 0 ∧ ¬ 999 < b then baF A (beF A n w) (wiF A C ml w) (la 4 5 ml) w first b else -2) else -1) (-1)
theorem sp_bargainOf (F : OF h o A q kn) (K : KN h A kn) (R : RG A n) (P : AP o q kn) (H : HO h q C cl ml) {w : Nat} (hw : w < n) {first b : Int32} : ∃ S', Rf (d + 5) 68 0 [.ref o, .int (nI w), .int first, .int b, noV, noV, noV, noV, noV] [] (fst h o S) = some (some (.int (baF A (beF A n w) (wiF A C ml w) (la 4 5 ml) w first b)), fst h o S') := by
  have hn := R.1
  have hw10 : w < 10 := by omega
  have c2 : inB (nI w) 10 = true := nI_inB (by omega) (by omega)
  have c3 : (nI w).toNatClampNeg = w := nI_clamp (by omega)
  have F1 := OF_fst F
  have K1 : ∀ S, KN (fst h o S) A kn := fun S => KN_ne K (fun j hj => fst_ne (by have := P.2 j hj; omega) S)
  obtain ⟨k, hk, hk2⟩ := kind_of R hw10
  have e1 := sp_beliefOf (d := d) (F1 S) (K1 S) R hw
  obtain ⟨S1, e2⟩ := sp_wishOf (d := d + 1) (S := S) F K R P H hw
  obtain ⟨W, N, E, G, Z⟩ := HO_fst H P.1 S1
  obtain ⟨k1, k2, k3, k4, k5, k6⟩ := K1 S1 w hw10
  have hfx : fIx [(0, 1), (1, 1), (2, 1), (4, 1), (5, 1), (8, 1), (9, 1)] (cls ((fst h o S1).1 (kn w))) = some 1 := by
    rw [k1, hk2]
    match k, hk with
    | 0, _ => rfl
    | 1, _ => rfl
    | 2, _ => rfl
    | 3, _ => rfl
    | 4, _ => rfl
    | 5, _ => rfl
    | 6, _ => rfl
  refine ⟨S1, ?_⟩
  simp only [x68_0, x68_1, x68_5, x68_7, x68_9, x68_10, x68_14, x68_15, x68_17, x68_18, x68_19, x68_22, x68_23, x68_24, x68_25, x68_28, x68_31, x68_35, x68_37, x68_39, x68_41, x68_42, x68_45, x68_46, x68_47, x68_50, x68_51, x68_52, x68_54, x68_55, x68_58, x68_60, x68_62, x68_65, x68_67, x68_69, x68_70, x68_71, x68_72, x68_75, x68_77, x68_79, x68_82, x68_83, x68_84, x68_87, x68_89, x68_90, x68_93, x68_95, x68_96, x68_97, x68_98, x68_99, x68_102, x68_104, x68_106, x68_109, x68_111, x68_113, x68_114, x68_115, x68_116, x68_118, x68_120, x68_122, x68_125, x68_127, x68_128, x68_131, x68_133, x68_136, x68_138, xc68_2 (F1 S).1 e1, xc68_11 (F1 S).1 e2, xc68_32 (sp_min (d := d + 4)), F1, G, hfx, k4, k5, c2, c3, sub_at hw10, krR_at hw10, Option.isSome_some, Option.getD_some, true_or, and_self, ↓reduceIte, litZ, not_false_eq_true, baF]
  by_cases f0 : first = 0
  · simp only [f0, ↓reduceIte]
    split <;> split <;> first | rfl | (split <;> rfl)
  · by_cases f1 : first = 1
    · simp only [f1, ↓reduceIte, litZ]
      split <;> split <;> first | rfl | (split <;> rfl)
    · simp only [f0, f1, ↓reduceIte]
      split <;> first | rfl | (split <;> rfl)
theorem sp_bargain (G : XF h) (F : OF h 33 A q kn) (K : KN h A kn) (R : RG A n) (P : AP 33 q kn) (H : HO h q C cl ml) {w first b : Int32} : ∃ h', Rf (d + 6) 110 0 [.ref 32, .int w, .int first, .int b] [] h = some (some (.int (bgP A C ml n w first b)), h') ∧ OF h' 33 A q kn ∧ OE h h' 33 := by
  have e0 := sp_isWorker (d := d + 5) (w := w) F
  unfold bgP
  by_cases hw : ¬ w < 0 ∧ w < A 0
  · obtain ⟨k, hk, rfl⟩ := isW_of R hw
    have hn := R.1
    rw [b2_t hw] at e0
    rw [wk_y R hk]
    by_cases h1 : ¬ first < 0 ∧ ¬ 2 < first
    · by_cases h2 : ¬ b < 0 ∧ ¬ 999 < b
      · obtain ⟨S, N, L, hh⟩ := yst_self F
        have hf : h = fst h 33 S := by
          have e8 := cell_eq (c := h.1 (33 + 8)) (t := 0) (by simp only [F]) (by decide)
          have n8 : aN (h.1 (33 + 8)) = 6 := by simp only [F]
          rw [n8] at e8
          have z : aF (h.1 (33 + 8)) = S := by rw [hh]; exact (fstF S).2.2
          rw [z] at e8
          exact (hset_self e8).symm
        obtain ⟨S', e1⟩ := sp_bargainOf (d := d) (S := S) F K R P H hk (first := first) (b := b)
        rw [← hf] at e1
        refine ⟨fst h 33 S', ?_, OF_fst F S', OE_set (k := 8) (by decide)⟩
        simp only [x110_0, x110_1, x110_4, x110_8, x110_11, x110_12, x110_16, x110_19, x110_20, x110_21, x110_22, x110_28, x110_31, x110_32, x110_35, x110_36, x110_37, x110_41, x110_44, x110_46, xc110_5 F.1 e0, xc110_13 (sp_within (d := d + 5)), xc110_25 (sp_within (d := d + 5)), xc110_38 F.1 e1, G, b2_0, h1, h2, not_true_eq_false, not_false_eq_true, and_self, ↓reduceIte, litZ]
      · refine ⟨h, ?_, F, OE_rf⟩
        simp only [x110_0, x110_1, x110_4, x110_8, x110_11, x110_12, x110_16, x110_19, x110_20, x110_21, x110_22, x110_28, x110_31, x110_32, x110_35, x110_36, x110_37, x110_41, x110_44, x110_46, xc110_5 F.1 e0, xc110_13 (sp_within (d := d + 5)), xc110_25 (sp_within (d := d + 5)), G, b2_0, h1, h2, not_true_eq_false, not_false_eq_true, and_self, ↓reduceIte, litZ]
    · refine ⟨h, ?_, F, OE_rf⟩
      simp only [x110_0, x110_1, x110_4, x110_8, x110_11, x110_12, x110_16, x110_19, x110_20, x110_21, x110_22, x110_28, x110_31, x110_32, x110_35, x110_36, x110_37, x110_41, x110_44, x110_46, xc110_5 F.1 e0, xc110_13 (sp_within (d := d + 5)), xc110_25 (sp_within (d := d + 5)), G, b2_0, h1, not_false_eq_true, and_self, ↓reduceIte, litZ]
  · rw [b2_f hw] at e0
    rw [wk_n hw]
    refine ⟨h, ?_, F, OE_rf⟩
    simp only [x110_0, x110_1, x110_4, x110_8, x110_11, x110_12, x110_16, x110_19, x110_20, x110_21, x110_22, x110_28, x110_31, x110_32, x110_35, x110_36, x110_37, x110_41, x110_44, x110_46, xc110_5 F.1 e0, G, and_self, ↓reduceIte]
/-- the model's frame -/
def ME (h h' : AHp) (o : Nat) : Prop := h'.2 = h.2 ∧ ∀ p, (p < o ∨ o + 7 < p) → h'.1 p = h.1 p
theorem ME_rf : ME h h o := ⟨rfl, fun _ _ => rfl⟩
theorem ME_tr {h1 h2 : AHp} (a : ME h h1 o) (b : ME h1 h2 o) : ME h h2 o := ⟨b.1.trans a.1, fun p hp => (b.2 p hp).trans (a.2 p hp)⟩
theorem ME_set {k : Nat} {c : va_E} (hk : k ≤ 7) : ME h (hset h (o + k) c) o := ⟨rfl, fun p hp => by rw [hset_at, if_neg (by omega)]⟩
/-- the model, and what it keeps aside -/
def MM (h : AHp) (o : Nat) (A B : Nat → Int32) (im rn : Int32) (T : Nat → Int32) : Prop := MF h o A B ∧ oN (h.1 o) 2 = im ∧ oN (h.1 o) 10 = rn ∧ aF (h.1 (o + 7)) = T
theorem MM_stk {im rn : Int32} {T : Nat → Int32} (M : MM h o A B im rn T) (S : Nat → Int32) : MM (stk h o S) o A B im rn T := by
  obtain ⟨F, a, b, c⟩ := M
  refine ⟨MF_stk F S, ?_, ?_, ?_⟩
  · simp only [stk, hset_at, plus_ne0 o 3 (by decide), ↓reduceIte, a]
  · simp only [stk, hset_at, plus_ne0 o 3 (by decide), ↓reduceIte, b]
  · simp only [stk, hset_at, plus_ne o 7 3 (by decide), ↓reduceIte, c]
theorem stk_self (F : MF h o A B) : ∃ S, h = stk h o S := by
  refine ⟨aF (h.1 (o + 3)), ?_⟩
  have e3 := cell_eq (c := h.1 (o + 3)) (t := 0) (by simp only [F]) (by decide)
  have n3 : aN (h.1 (o + 3)) = 101 := by simp only [F]
  rw [n3] at e3
  exact (hset_self e3).symm
theorem sp_mbargain {im rn : Int32} {T : Nat → Int32} (M : MM h o A B im rn T) (R : RG A n) (Z : MH A C cl ml) {w first b : Int32} : ∃ h', Rf (d + 4) 176 0 [.ref o, .int w, .int first, .int b, noV, noV, noV, noV, noV] [] h = some (some (.int (bgP A C ml n w first b)), h') ∧ MM h' o A B im rn T ∧ ME h h' o := by
  have F := M.1
  have e0 := sp_misWorker (d := d + 2) (w := w) F ⟨n, R.1, R.2.1⟩
  unfold bgP
  by_cases hw : ¬ w < 0 ∧ w < A 0
  · obtain ⟨k, hk, rfl⟩ := isW_of R hw
    have hn := R.1
    rw [b2_t hw] at e0
    rw [wk_y R hk]
    by_cases h1 : ¬ first < 0 ∧ ¬ 2 < first
    · by_cases h2 : ¬ b < 0 ∧ ¬ 999 < b
      · obtain ⟨S, hh⟩ := stk_self F
        have e1 := sp_mbelief (d := d + 1) F R hk
        obtain ⟨S', e2⟩ := sp_wish (d := d) (S := S) F R Z hk
        rw [← hh] at e2
        have F2 := MF_stk F S'
        have e3 := sp_rise (d := d + 2) F2 Z
        have i20 : (20 : Int32) + nI k = nI (20 + k) ∧ inB (nI (20 + k)) 931 = true ∧ (nI (20 + k)).toNatClampNeg = 20 + k := ixs 20 k (by omega)
        have i70 : (70 : Int32) + nI k = nI (70 + k) ∧ inB (nI (70 + k)) 931 = true ∧ (nI (70 + k)).toNatClampNeg = 70 + k := ixs 70 k (by omega)
        refine ⟨stk h o S', ?_, MM_stk M S', ME_set (k := 3) (by decide)⟩
        rw [if_pos h1, if_pos h2]
        simp only [x176_0, x176_1, x176_5, x176_8, x176_9, x176_10, x176_14, x176_17, x176_18, x176_19, x176_20, x176_21, x176_27, x176_30, x176_32, x176_33, x176_34, x176_38, x176_40, x176_42, x176_43, x176_47, x176_48, x176_50, x176_51, x176_52, x176_55, x176_57, x176_58, x176_59, x176_60, x176_64, x176_68, x176_70, x176_72, x176_74, x176_75, x176_78, x176_80, x176_81, x176_82, x176_83, x176_84, x176_85, x176_87, x176_88, x176_91, x176_93, x176_95, x176_98, x176_100, x176_102, x176_103, x176_104, x176_105, x176_108, x176_110, x176_112, x176_115, x176_116, x176_117, x176_120, x176_122, x176_123, x176_126, x176_128, x176_129, x176_130, x176_131, x176_132, x176_135, x176_137, x176_139, x176_142, x176_144, x176_146, x176_147, x176_148, x176_149, x176_151, x176_153, x176_155, x176_158, x176_160, x176_161, x176_164, x176_166, x176_169, x176_171, xc176_2 F.1 e0, xc176_11 (sp_mwithin (d := d + 3)), xc176_24 (sp_mwithin (d := d + 3)), xc176_35 F.1 e1, xc176_44 F.1 e2, xc176_61 F2.1 e3, xc176_65 (sp_min (d := d + 3)), F2, i20, i70, b2_0, h1, h2, true_or, not_true_eq_false, not_false_eq_true, and_self, ↓reduceIte, litZ, baF]
        by_cases f0 : first = 0
        · simp only [f0, ↓reduceIte]
          split <;> split <;> first | rfl | (split <;> rfl)
        · by_cases f1 : first = 1
          · simp only [f1, ↓reduceIte, litZ]
            split <;> split <;> first | rfl | (split <;> rfl)
          · simp only [f0, f1, ↓reduceIte]
            split <;> first | rfl | (split <;> rfl)
      · refine ⟨h, ?_, M, ME_rf⟩
        simp only [x176_0, x176_1, x176_5, x176_8, x176_9, x176_10, x176_14, x176_17, x176_18, x176_19, x176_20, x176_21, x176_27, x176_30, x176_32, xc176_2 F.1 e0, xc176_11 (sp_mwithin (d := d + 3)), xc176_24 (sp_mwithin (d := d + 3)), b2_0, h1, h2, not_true_eq_false, not_false_eq_true, and_self, ↓reduceIte, litZ]
    · refine ⟨h, ?_, M, ME_rf⟩
      simp only [x176_0, x176_1, x176_5, x176_8, x176_9, x176_10, x176_14, x176_17, x176_18, x176_19, x176_20, x176_21, x176_27, x176_30, x176_32, xc176_2 F.1 e0, xc176_11 (sp_mwithin (d := d + 3)), xc176_24 (sp_mwithin (d := d + 3)), b2_0, h1, not_false_eq_true, and_self, ↓reduceIte, litZ]
  · rw [b2_f hw] at e0
    rw [wk_n hw]
    refine ⟨h, ?_, M, ME_rf⟩
    simp only [x176_0, x176_1, x176_5, x176_8, x176_9, x176_10, x176_14, x176_17, x176_18, x176_19, x176_20, x176_21, x176_27, x176_30, x176_32, xc176_2 F.1 e0, and_self, ↓reduceIte]
end BG
