-- deps: 38.mbelief
/-! A YEAR of the model. -/
theorem hset_comm {h : AHp} {p q : Nat} {c e : va_E} (hp : ¬ p = q) : hset (hset h p c) q e = hset (hset h q e) p c := by
  unfold hset
  refine Prod.ext (funext fun x => ?_) rfl
  simp only
  by_cases h1 : x = q
  · subst h1
    rw [if_pos rfl, if_neg (fun z => hp z.symm), if_pos rfl]
  · rw [if_neg h1]
    by_cases h2 : x = p
    · rw [if_pos h2, if_pos h2]
    · rw [if_neg h2, if_neg h2, if_neg h1]
/-- the rows that a year works in -/
def gs2 (h : AHp) (o : Nat) (R N : Nat → Int32) : AHp := hset (hset h (o + 4) (.inl (0, 10, .inl R))) (o + 5) (.inl (0, 10, .inl N))
def gst (h : AHp) (o : Nat) (R N S : Nat → Int32) : AHp := stk (gs2 h o R N) o S
/-- what a WORKER does; its PAY behind the year; the whole row behind it -/
def dnF (A C : Nat → Int32) (ml : List Cl) (n w : Nat) : Int32 := doF A (la 3 20 ml) w (beF A n w) (ofF A C ml w) (wiF A C ml w)
def npF (A C : Nat → Int32) (ml : List Cl) (n w : Nat) : Int32 := pbF A (la 4 5 ml) w (dnF A C ml n w) (ofF A C ml w) (wiF A C ml w)
def lfF (A C : Nat → Int32) (ml : List Cl) (n : Nat) : Int32 → Nat → Nat → Int32 := lpF (fun a w => if dnF A C ml n w = 2 then a + 1 else a)
def yaS (A C : Nat → Int32) (ml : List Cl) (n : Nat) (X : Nat → Int32) (w : Nat) : Nat → Int32 := if dnF A C ml n w = 2 then upd (upd X (20 + w) (npF A C ml n w)) (50 + w) (-1) else upd X (20 + w) (npF A C ml n w)
def yaF (A C : Nat → Int32) (ml : List Cl) (n : Nat) : (Nat → Int32) → Nat → Nat → (Nat → Int32) := lpF (yaS A C ml n)
def yrF (A C : Nat → Int32) (ml : List Cl) (n : Nat) : Nat → Int32 := upd (yaF A C ml n A 0 n) 6 (A 6 + 1)
theorem doF_rng {A : Nat → Int32} {lv b of wi : Int32} {w : Nat} : doF A lv w b of wi = 0 ∨ doF A lv w b of wi = 1 ∨ doF A lv w b of wi = 2 := by
  unfold doF
  split
  · exact Or.inr (Or.inr rfl)
  · split
    · exact Or.inr (Or.inl rfl)
    · exact Or.inl rfl
section MG
variable {d o n cl : Nat} {A B C S Rw Nx X : Nat → Int32} {h : AHp} {ml : List Cl}
theorem MF_gs2 (F : MF h o A B) (Rw Nx : Nat → Int32) : MF (gs2 h o Rw Nx) o A B := by
  simp only [MF, gs2, hset_at, plus_ne o 1 5 (by decide), plus_ne o 2 5 (by decide), plus_ne o 3 5 (by decide), plus_ne o 4 5 (by decide), plus_ne o 6 5 (by decide), plus_ne o 7 5 (by decide), plus_ne o 1 4 (by decide), plus_ne o 2 4 (by decide), plus_ne o 3 4 (by decide), plus_ne o 5 4 (by decide), plus_ne o 6 4 (by decide), plus_ne o 7 4 (by decide), plus_ne0 o 5 (by decide), plus_ne0 o 4 (by decide), ↓reduceIte, aT_i, aN_i, F, and_self]
theorem MF_gst (F : MF h o A B) (Rw Nx S : Nat → Int32) : MF (gst h o Rw Nx S) o A B := MF_stk (MF_gs2 F Rw Nx) S
theorem gstF (Rw Nx S : Nat → Int32) : aT ((gst h o Rw Nx S).1 (o + 4)) = 0 ∧ aN ((gst h o Rw Nx S).1 (o + 4)) = 10 ∧ aF ((gst h o Rw Nx S).1 (o + 4)) = Rw ∧ aT ((gst h o Rw Nx S).1 (o + 5)) = 0 ∧ aN ((gst h o Rw Nx S).1 (o + 5)) = 10 ∧ aF ((gst h o Rw Nx S).1 (o + 5)) = Nx := by
  simp only [gst, stk, gs2, hset_at, plus_ne o 4 3 (by decide), plus_ne o 5 3 (by decide), plus_ne o 4 5 (by decide), ↓reduceIte, aT_i, aN_i, aF_i, and_self]
theorem gst_5 {T : Nat → Int32} : hset (gst h o Rw Nx S) (o + 5) (.inl (0, 10, .inl T)) = gst h o Rw T S := by
  unfold gst stk gs2
  rw [hset_comm (by simp), hset_hset]
theorem gst_4 {T : Nat → Int32} : hset (gst h o Rw Nx S) (o + 4) (.inl (0, 10, .inl T)) = gst h o T Nx S := by
  unfold gst stk gs2
  rw [hset_comm (by simp), hset_comm (p := o + 5) (q := o + 4) (by simp), hset_hset]
theorem sp_does (F : MF h o A B) (R : RG A n) (Z : MH A C cl ml) {w : Nat} (hw : w < n) : ∃ S', Rf (d + 4) 164 0 [.ref o, .int (nI w), noV] [] (stk h o S) = some (some (.int (dnF A C ml n w)), stk h o S') := by
  have hn := R.1
  have i20 : (20 : Int32) + nI w = nI (20 + w) ∧ inB (nI (20 + w)) 931 = true ∧ (nI (20 + w)).toNatClampNeg = 20 + w := ixs 20 w (by omega)
  have F1 := MF_stk F
  have e1 := sp_glad (d := d) (F1 S) R hw
  have e2 := sp_leave (d := d + 2) (F1 S) Z
  obtain ⟨S1, e3⟩ := sp_offer (d := d) (S := S) F R Z hw
  obtain ⟨S2, e4⟩ := sp_wish (d := d) (S := S) F R Z hw
  obtain ⟨S3, e5⟩ := sp_wish (d := d) (S := S1) F R Z hw
  unfold dnF doF
  by_cases h1 : glF A w (beF A n w) + la 3 20 ml < 0
  · by_cases h2 : A (20 + w) < ofF A C ml w
    · exact ⟨S1, by simp only [x164_0, x164_1, x164_5, x164_6, x164_7, x164_11, x164_12, x164_15, x164_16, x164_20, x164_21, x164_24, x164_26, x164_27, x164_28, x164_29, x164_32, x164_33, x164_34, x164_35, x164_38, x164_39, x164_43, x164_46, x164_47, x164_50, x164_51, xc164_2 (F1 S).1 e1, xc164_8 (F1 S).1 e2, xc164_17 (F1 S).1 e3, F1, h1, h2, i20, true_or, and_self, ↓reduceIte]⟩
    · by_cases h3 : glF A w (beF A n w) < 0
      · exact ⟨S1, by simp only [x164_0, x164_1, x164_5, x164_6, x164_7, x164_11, x164_12, x164_15, x164_16, x164_20, x164_21, x164_24, x164_26, x164_27, x164_28, x164_29, x164_32, x164_33, x164_34, x164_35, x164_38, x164_39, x164_43, x164_46, x164_47, x164_50, x164_51, xc164_2 (F1 S).1 e1, xc164_8 (F1 S).1 e2, xc164_17 (F1 S).1 e3, F1, h1, h2, h3, i20, true_or, and_self, and_false, ↓reduceIte]⟩
      · by_cases h4 : 0 < wiF A C ml w
        · exact ⟨S3, by simp only [x164_0, x164_1, x164_5, x164_6, x164_7, x164_11, x164_12, x164_15, x164_16, x164_20, x164_21, x164_24, x164_26, x164_27, x164_28, x164_29, x164_32, x164_33, x164_34, x164_35, x164_38, x164_39, x164_43, x164_46, x164_47, x164_50, x164_51, xc164_2 (F1 S).1 e1, xc164_8 (F1 S).1 e2, xc164_17 (F1 S).1 e3, xc164_40 (F1 S1).1 e5, F1, h1, h2, h3, h4, i20, true_or, or_true, and_self, and_false, ↓reduceIte]⟩
        · exact ⟨S3, by simp only [x164_0, x164_1, x164_5, x164_6, x164_7, x164_11, x164_12, x164_15, x164_16, x164_20, x164_21, x164_24, x164_26, x164_27, x164_28, x164_29, x164_32, x164_33, x164_34, x164_35, x164_38, x164_39, x164_43, x164_46, x164_47, x164_50, x164_51, xc164_2 (F1 S).1 e1, xc164_8 (F1 S).1 e2, xc164_17 (F1 S).1 e3, xc164_40 (F1 S1).1 e5, F1, h1, h2, h3, h4, i20, true_or, or_self, and_self, and_false, ↓reduceIte]⟩
  · by_cases h3 : glF A w (beF A n w) < 0
    · exact ⟨S, by simp only [x164_0, x164_1, x164_5, x164_6, x164_7, x164_11, x164_12, x164_15, x164_16, x164_20, x164_21, x164_24, x164_26, x164_27, x164_28, x164_29, x164_32, x164_33, x164_34, x164_35, x164_38, x164_39, x164_43, x164_46, x164_47, x164_50, x164_51, xc164_2 (F1 S).1 e1, xc164_8 (F1 S).1 e2, h1, h3, true_or, false_and, ↓reduceIte]⟩
    · by_cases h4 : 0 < wiF A C ml w
      · exact ⟨S2, by simp only [x164_0, x164_1, x164_5, x164_6, x164_7, x164_11, x164_12, x164_15, x164_16, x164_20, x164_21, x164_24, x164_26, x164_27, x164_28, x164_29, x164_32, x164_33, x164_34, x164_35, x164_38, x164_39, x164_43, x164_46, x164_47, x164_50, x164_51, xc164_2 (F1 S).1 e1, xc164_8 (F1 S).1 e2, xc164_40 (F1 S).1 e4, h1, h3, h4, or_true, false_and, ↓reduceIte]⟩
      · exact ⟨S2, by simp only [x164_0, x164_1, x164_5, x164_6, x164_7, x164_11, x164_12, x164_15, x164_16, x164_20, x164_21, x164_24, x164_26, x164_27, x164_28, x164_29, x164_32, x164_33, x164_34, x164_35, x164_38, x164_39, x164_43, x164_46, x164_47, x164_50, x164_51, xc164_2 (F1 S).1 e1, xc164_8 (F1 S).1 e2, xc164_40 (F1 S).1 e4, h1, h3, h4, or_self, false_and, ↓reduceIte]⟩
/-- one WORKER's year, told -/
theorem go_step (F : MF h o A B) (R : RG A n) (Z : MH A C cl ml) {w : Nat} (hw : w < n) {l : Int32} {v3 v4 v5 : Value} : ∃ S' v3' v4' v5', Rf (d + 5) 168 4 [.ref o, .int l, .int (nI w), v3, v4, v5] [] (gst h o Rw Nx S) = Rf (d + 5) 168 4 [.ref o, .int (if dnF A C ml n w = 2 then l + 1 else l), .int (nI (w + 1)), v3', v4', v5'] [] (gst h o (upd Rw w (dnF A C ml n w)) (upd Nx w (npF A C ml n w)) S') := by
  have hn := R.1
  have h0 := R.2.1
  have hw10 : w < 10 := by omega
  have i20 : (20 : Int32) + nI w = nI (20 + w) ∧ inB (nI (20 + w)) 931 = true ∧ (nI (20 + w)).toNatClampNeg = 20 + w := ixs 20 w (by omega)
  have c1 : nI w < nI n := nI_lt hw (by omega)
  have c2 : inB (nI w) 10 = true := nI_inB hw10 (by decide)
  have c3 : (nI w).toNatClampNeg = w := nI_clamp (by omega)
  have F1 := MF_gst F
  have F2 := fun Rw Nx => MF_gs2 F Rw Nx
  obtain ⟨S1, e1⟩ := sp_does (d := d) (S := S) (F2 Rw Nx) R Z hw
  have uu : ∀ (f : Nat → Int32) (a b : Int32), upd (upd f w a) w b = upd f w b := fun f a b => by
    funext j; unfold upd; split <;> rfl
  have u2 : ∀ v, upd (upd Nx w v) w v = upd Nx w v := fun v => uu _ _ _
  rcases doF_rng (A := A) (lv := la 3 20 ml) (b := beF A n w) (of := ofF A C ml w) (wi := wiF A C ml w) (w := w) with e | e | e
  · have e' : dnF A C ml n w = 0 := e
    rw [e'] at e1
    refine ⟨S1, .int 0, .int (A (20 + w)), v5, ?_⟩
    rw [x168_4]
    simp only [x168_5, x168_6, x168_9, x168_10, x168_11, x168_14, x168_15, x168_19, x168_20, x168_21, x168_24, x168_26, x168_27, x168_28, x168_29, x168_31, x168_32, x168_35, x168_36, x168_38, x168_39, x168_40, x168_43, x168_44, x168_45, x168_46, x168_47, x168_48, x168_51, x168_52, x168_55, x168_56, x168_57, x168_61, x168_62, x168_65, x168_66, x168_67, x168_70, x168_72, x168_76, x168_77, x168_78, x168_82, x168_83, x168_85, x168_87, x168_88, x168_92, x168_95, x168_97, x168_98, x168_105, x168_107, x168_108, x168_111, x168_112, x168_115, x168_120, x168_121, x168_124, xc168_16 (F1 _ _ _).1 e1, F1, ixL, h0, c1, c2, c3, i20, show ∀ Rw Nx S, stk (gs2 h o Rw Nx) o S = gst h o Rw Nx S from fun _ _ _ => rfl, gstF, gst_4, gst_5, nI_1, true_or, and_self, ↓reduceIte, show ¬ (0 : Int32) = 2 from by decide, show ¬ (0 : Int32) = 1 from by decide, npF, pbF, e', not_false_eq_true]
  · have e' : dnF A C ml n w = 1 := e
    rw [e'] at e1
    obtain ⟨S2, e2⟩ := sp_wish (d := d + 1) (S := S1) (F2 (upd Rw w 1) (upd Nx w (A (20 + w)))) R Z hw
    obtain ⟨S3, e3⟩ := sp_offer (d := d + 1) (S := S2) (F2 (upd Rw w 1) (upd Nx w (A (20 + w)))) R Z hw
    obtain ⟨S4, e4⟩ := sp_offer (d := d + 1) (S := S3) (F2 (upd Rw w 1) (upd Nx w (A (20 + w)))) R Z hw
    have eR := fun S => sp_rise (d := d + 3) (F1 (upd Rw w 1) (upd Nx w (A (20 + w))) S) Z
    by_cases hp : A (20 + w) < ofF A C ml w
    · refine ⟨S4, .int 1, .int (A (20 + w)), .int (mn (A (20 + w) + la 4 5 ml + wiF A C ml w) (ofF A C ml w)), ?_⟩
      rw [x168_4]
      simp only [x168_5, x168_6, x168_9, x168_10, x168_11, x168_14, x168_15, x168_19, x168_20, x168_21, x168_24, x168_26, x168_27, x168_28, x168_29, x168_31, x168_32, x168_35, x168_36, x168_38, x168_39, x168_40, x168_43, x168_44, x168_45, x168_46, x168_47, x168_48, x168_51, x168_52, x168_55, x168_56, x168_57, x168_61, x168_62, x168_65, x168_66, x168_67, x168_70, x168_72, x168_76, x168_77, x168_78, x168_82, x168_83, x168_85, x168_87, x168_88, x168_92, x168_95, x168_97, x168_98, x168_105, x168_107, x168_108, x168_111, x168_112, x168_115, x168_120, x168_121, x168_124, xc168_16 (F1 _ _ _).1 e1, xc168_73 (F1 _ _ _).1 (eR _), xc168_79 (F1 _ _ _).1 e2, xc168_89 (F1 _ _ _).1 e3, xc168_99 (F1 _ _ _).1 e3, xc168_58 (F1 _ _ _).1 e3, xc168_89 (F1 _ _ _).1 e4, xc168_99 (F1 _ _ _).1 e4, xc168_58 (F1 _ _ _).1 e4, xc168_117 (sp_min (d := d + 4)), xc168_102 (sp_min (d := d + 4)), F1, ixL, h0, c1, c2, c3, i20, show ∀ Rw Nx S, stk (gs2 h o Rw Nx) o S = gst h o Rw Nx S from fun _ _ _ => rfl, gstF, gst_4, gst_5, nI_1, true_or, and_self, ↓reduceIte, show ¬ (1 : Int32) = 2 from by decide, npF, pbF, e', hp, not_true_eq_false, uu, mn_comm 999]
    · refine ⟨S3, .int 1, .int (A (20 + w)), .int (A (20 + w) + la 4 5 ml + wiF A C ml w), ?_⟩
      rw [x168_4]
      simp only [x168_5, x168_6, x168_9, x168_10, x168_11, x168_14, x168_15, x168_19, x168_20, x168_21, x168_24, x168_26, x168_27, x168_28, x168_29, x168_31, x168_32, x168_35, x168_36, x168_38, x168_39, x168_40, x168_43, x168_44, x168_45, x168_46, x168_47, x168_48, x168_51, x168_52, x168_55, x168_56, x168_57, x168_61, x168_62, x168_65, x168_66, x168_67, x168_70, x168_72, x168_76, x168_77, x168_78, x168_82, x168_83, x168_85, x168_87, x168_88, x168_92, x168_95, x168_97, x168_98, x168_105, x168_107, x168_108, x168_111, x168_112, x168_115, x168_120, x168_121, x168_124, xc168_16 (F1 _ _ _).1 e1, xc168_73 (F1 _ _ _).1 (eR _), xc168_79 (F1 _ _ _).1 e2, xc168_89 (F1 _ _ _).1 e3, xc168_99 (F1 _ _ _).1 e3, xc168_58 (F1 _ _ _).1 e3, xc168_117 (sp_min (d := d + 4)), xc168_102 (sp_min (d := d + 4)), F1, ixL, h0, c1, c2, c3, i20, show ∀ Rw Nx S, stk (gs2 h o Rw Nx) o S = gst h o Rw Nx S from fun _ _ _ => rfl, gstF, gst_4, gst_5, nI_1, true_or, and_self, ↓reduceIte, show ¬ (1 : Int32) = 2 from by decide, npF, pbF, e', hp, not_true_eq_false, uu, mn_comm 999]
  · have e' : dnF A C ml n w = 2 := e
    rw [e'] at e1
    obtain ⟨S2, e2⟩ := sp_offer (d := d + 1) (S := S1) (F2 (upd Rw w 2) (upd Nx w (A (20 + w)))) R Z hw
    refine ⟨S2, .int 2, .int (A (20 + w)), v5, ?_⟩
    rw [x168_4]
    simp only [x168_5, x168_6, x168_9, x168_10, x168_11, x168_14, x168_15, x168_19, x168_20, x168_21, x168_24, x168_26, x168_27, x168_28, x168_29, x168_31, x168_32, x168_35, x168_36, x168_38, x168_39, x168_40, x168_43, x168_44, x168_45, x168_46, x168_47, x168_48, x168_51, x168_52, x168_55, x168_56, x168_57, x168_61, x168_62, x168_65, x168_66, x168_67, x168_70, x168_72, x168_76, x168_77, x168_78, x168_82, x168_83, x168_85, x168_87, x168_88, x168_92, x168_95, x168_97, x168_98, x168_105, x168_107, x168_108, x168_111, x168_112, x168_115, x168_120, x168_121, x168_124, xc168_16 (F1 _ _ _).1 e1, xc168_89 (F1 _ _ _).1 e2, xc168_99 (F1 _ _ _).1 e2, xc168_58 (F1 _ _ _).1 e2, F1, ixL, h0, c1, c2, c3, i20, show ∀ Rw Nx S, stk (gs2 h o Rw Nx) o S = gst h o Rw Nx S from fun _ _ _ => rfl, gstF, gst_4, gst_5, nI_1, true_or, and_self, ↓reduceIte, show ¬ (2 : Int32) = 1 from by decide, npF, pbF, e', not_false_eq_true, uu]
/-- all told -/
theorem go_told (F : MF h o A B) (R : RG A n) (Z : MH A C cl ml) : ∀ (k w : Nat) (l : Int32) (v3 v4 v5 : Value) (Rw Nx S : Nat → Int32), w + k = n → (∀ j, j < w → Rw j = dnF A C ml n j ∧ Nx j = npF A C ml n j) → ∃ v3' v4' v5' R' N' S', (∀ j, j < n → R' j = dnF A C ml n j ∧ N' j = npF A C ml n j) ∧ Rf (d + 5) 168 4 [.ref o, .int l, .int (nI w), v3, v4, v5] [] (gst h o Rw Nx S) = Rf (d + 5) 168 129 [.ref o, .int (lfF A C ml n l w k), .int 0, v3', v4', v5'] [] (gst h o R' N' S') := by
  have hn := R.1
  have h0 := R.2.1
  have F1 := MF_gst F
  intro k
  induction k with
  | zero =>
    intro w l v3 v4 v5 Rw Nx S hw hj
    have c1 : ¬ nI w < nI n := nI_nlt (by omega) (by omega)
    refine ⟨v3, v4, v5, Rw, Nx, S, fun j h => hj j (by omega), ?_⟩
    simp only [x168_4, x168_5, x168_6, x168_9, x168_10, x168_11, x168_14, x168_15, x168_19, x168_20, x168_21, x168_24, x168_26, x168_27, x168_28, x168_29, x168_31, x168_32, x168_35, x168_36, x168_38, x168_39, x168_40, x168_43, x168_44, x168_45, x168_46, x168_47, x168_48, x168_51, x168_52, x168_55, x168_56, x168_57, x168_61, x168_62, x168_65, x168_66, x168_67, x168_70, x168_72, x168_76, x168_77, x168_78, x168_82, x168_83, x168_85, x168_87, x168_88, x168_92, x168_95, x168_97, x168_98, x168_105, x168_107, x168_108, x168_111, x168_112, x168_115, x168_120, x168_121, x168_124, x168_127, x168_128, F1, ixL, h0, c1, true_or, and_self, ↓reduceIte, lfF, lpF]
  | succ k ih =>
    intro w l v3 v4 v5 Rw Nx S hw hj
    obtain ⟨S1, w3, w4, w5, e1⟩ := go_step (d := d) (Rw := Rw) (Nx := Nx) (S := S) (l := l) (v3 := v3) (v4 := v4) (v5 := v5) F R Z (w := w) (by omega)
    obtain ⟨u3, u4, u5, R', N', S', e2, e3⟩ := ih (w + 1) (if dnF A C ml n w = 2 then l + 1 else l) w3 w4 w5 (upd Rw w (dnF A C ml n w)) (upd Nx w (npF A C ml n w)) S1 (by omega) (fun j hj2 => by
      by_cases q : j = w
      · subst q; exact ⟨if_pos rfl, if_pos rfl⟩
      · rw [upd_at, if_neg q, upd_at, if_neg q]; exact hj j (by omega))
    exact ⟨u3, u4, u5, R', N', S', e2, e1.trans e3⟩
/-- the model's whole row, put anew -/
def rst (h : AHp) (o : Nat) (X : Nat → Int32) : AHp := hset h (o + 1) (.inl (0, 931, .inl X))
theorem MF_rst (F : MF h o A B) (X : Nat → Int32) : MF (rst h o X) o X B := by
  simp only [MF, rst, hset_at, plus_ne o 2 1 (by decide), plus_ne o 3 1 (by decide), plus_ne o 4 1 (by decide), plus_ne o 5 1 (by decide), plus_ne o 6 1 (by decide), plus_ne o 7 1 (by decide), plus_ne0 o 1 (by decide), ↓reduceIte, aT_i, aN_i, aF_i, F, and_self]
theorem rst_rst {X Y : Nat → Int32} : hset (rst h o X) (o + 1) (.inl (0, 931, .inl Y)) = rst h o Y := hset_hset
theorem lp_done (F : MF h o A B) (h0 : A 0 = nI n) (hn : n ≤ 10) (r1 : aT (h.1 (o + 4)) = 0 ∧ aN (h.1 (o + 4)) = 10 ∧ aF (h.1 (o + 4)) = Rw ∧ aT (h.1 (o + 5)) = 0 ∧ aN (h.1 (o + 5)) = 10 ∧ aF (h.1 (o + 5)) = Nx) (hj : ∀ j, j < n → Rw j = dnF A C ml n j ∧ Nx j = npF A C ml n j) {l : Int32} {v3 v4 v5 : Value} : ∀ (k w : Nat) (X : Nat → Int32), w + k = n → X 0 = nI n → X 6 = A 6 → Rf d 168 129 [.ref o, .int l, .int (nI w), v3, v4, v5] [] (rst h o X) = some (some (.int l), rst h o (upd (yaF A C ml n X w k) 6 (A 6 + 1))) := by
  have F1 := MF_rst F
  have r2 : ∀ X, aT ((rst h o X).1 (o + 4)) = 0 ∧ aN ((rst h o X).1 (o + 4)) = 10 ∧ aF ((rst h o X).1 (o + 4)) = Rw ∧ aT ((rst h o X).1 (o + 5)) = 0 ∧ aN ((rst h o X).1 (o + 5)) = 10 ∧ aF ((rst h o X).1 (o + 5)) = Nx := by
    intro X
    simp only [rst, hset_at, plus_ne o 4 1 (by decide), plus_ne o 5 1 (by decide), ↓reduceIte, r1, and_self]
  intro k
  induction k with
  | zero =>
    intro w X hw hX h6
    have c1 : ¬ nI w < nI n := nI_nlt (by omega) (by omega)
    simp only [x168_129, x168_130, x168_131, x168_134, x168_135, x168_136, x168_139, x168_140, x168_143, x168_145, x168_146, x168_147, x168_148, x168_151, x168_152, x168_153, x168_154, x168_155, x168_158, x168_159, x168_160, x168_161, x168_164, x168_165, x168_168, x168_170, x168_171, x168_172, x168_173, x168_174, x168_177, x168_180, x168_181, x168_184, x168_186, x168_187, x168_188, x168_189, x168_190, x168_191, x168_192, F1, ixL, hX, h6, c1, true_or, and_self, ↓reduceIte, rst_rst, yaF, lpF]
  | succ k ih =>
    intro w X hw hX h6
    have c1 : nI w < nI n := nI_lt (by omega) (by omega)
    have c2 : inB (nI w) 10 = true := nI_inB (by omega) (by decide)
    have c3 : (nI w).toNatClampNeg = w := nI_clamp (by omega)
    have i20 : (20 : Int32) + nI w = nI (20 + w) ∧ inB (nI (20 + w)) 931 = true ∧ (nI (20 + w)).toNatClampNeg = 20 + w := ixs 20 w (by omega)
    have i50 : (50 : Int32) + nI w = nI (50 + w) ∧ inB (nI (50 + w)) 931 = true ∧ (nI (50 + w)).toNatClampNeg = 50 + w := ixs 50 w (by omega)
    obtain ⟨q1, q2⟩ := hj w (by omega)
    have e1 := ih (w + 1) (yaS A C ml n X w) (by omega) (by
      unfold yaS
      split
      · rw [upd_at, if_neg (by omega), upd_at, if_neg (by omega)]; exact hX
      · rw [upd_at, if_neg (by omega)]; exact hX) (by
      unfold yaS
      split
      · rw [upd_at, if_neg (by omega), upd_at, if_neg (by omega)]; exact h6
      · rw [upd_at, if_neg (by omega)]; exact h6)
    rw [x168_129]
    by_cases hd : dnF A C ml n w = 2
    · have hy : yaS A C ml n X w = upd (upd X (20 + w) (npF A C ml n w)) (50 + w) (-1) := if_pos hd
      rw [hy] at e1
      simp only [x168_130, x168_131, x168_134, x168_135, x168_136, x168_139, x168_140, x168_143, x168_145, x168_146, x168_147, x168_148, x168_151, x168_152, x168_153, x168_154, x168_155, x168_158, x168_159, x168_160, x168_161, x168_164, x168_165, x168_168, x168_170, x168_171, x168_172, x168_173, x168_174, x168_177, F1, r2, ixL, hX, c1, c2, c3, q1, q2, hd, i20, i50, rst_rst, nI_1, true_or, and_self, ↓reduceIte, yaF, lpF, hy]
      exact e1
    · have hy : yaS A C ml n X w = upd X (20 + w) (npF A C ml n w) := if_neg hd
      rw [hy] at e1
      simp only [x168_130, x168_131, x168_134, x168_135, x168_136, x168_139, x168_140, x168_143, x168_145, x168_146, x168_147, x168_148, x168_151, x168_152, x168_153, x168_154, x168_155, x168_158, x168_159, x168_160, x168_161, x168_164, x168_165, x168_168, x168_170, x168_171, x168_172, x168_173, x168_174, x168_177, F1, r2, ixL, hX, c1, c2, c3, q1, q2, hd, i20, rst_rst, nI_1, true_or, and_self, ↓reduceIte, yaF, lpF, hy]
      exact e1
end MG
