-- deps: 32.model
/-! A HOUSE of the class, asked. -/
abbrev HF (h : AHp) (q : Nat) (lv rs : Int32) (W N E C : Nat → Int32) (nc cl : Nat) : Prop :=
  cls (h.1 q) = 3 ∧ oL (h.1 q) = 10 ∧ oKi (h.1 q) 0 = true ∧ oN (h.1 q) 0 = lv ∧ oKi (h.1 q) 1 = true ∧ oN (h.1 q) 1 = rs ∧ oKi (h.1 q) 4 = true ∧ oN (h.1 q) 4 = nI nc ∧ oKr (h.1 q) 5 = true ∧ oR (h.1 q) 5 = q + 2 ∧ oKr (h.1 q) 6 = true ∧ oR (h.1 q) 6 = q + 3 ∧ oKr (h.1 q) 7 = true ∧ oR (h.1 q) 7 = q + 4 ∧ oKr (h.1 q) 8 = true ∧ oR (h.1 q) 8 = q + 5 ∧
  aT (h.1 (q + 2)) = 0 ∧ aN (h.1 (q + 2)) = 10 ∧ aF (h.1 (q + 2)) = W ∧ aT (h.1 (q + 3)) = 0 ∧ aN (h.1 (q + 3)) = 10 ∧ aF (h.1 (q + 3)) = N ∧ aT (h.1 (q + 4)) = 0 ∧ aN (h.1 (q + 4)) = 10 ∧ aF (h.1 (q + 4)) = E ∧ aT (h.1 (q + 5)) = 0 ∧ aN (h.1 (q + 5)) = cl ∧ aF (h.1 (q + 5)) = C
/-- a clause: its word, its n, where its code begins and ends -/
abbrev Cl : Type := Int32 × Int32 × Nat × Nat
/-- the rows hold the clauses -/
def HL (W N E C : Nat → Int32) (cl : Nat) (cc : List Cl) : Prop := cc.length ≤ 10 ∧ cl ≤ 100 ∧ ∀ (c : Nat) (x : Cl), cc[c]? = some x → W c = x.1 ∧ N c = x.2.1 ∧ E c = nI x.2.2.2 ∧ (c = 0 → x.2.2.1 = 0) ∧ (∀ k, c = k + 1 → E k = nI x.2.2.1) ∧ x.2.2.1 ≤ x.2.2.2 ∧ x.2.2.2 ≤ cl ∧ rnD C x.2.2.1 (x.2.2.2 - x.2.2.1) 0 = some 1
def hold (f C : Nat → Int32) (x : Cl) : Bool := (evB f C [] x.2.2.1 (x.2.2.2 - x.2.2.1)).headD false
def tg (f C : Nat → Int32) (w : Int32) : Int32 → List Cl → Int32
  | a, [] => a
  | a, x :: r => tg f C w (if x.1 = w ∧ hold f C x = true then a + x.2.1 else a) r
theorem tg_congr {f g C : Nat → Int32} (h : ∀ j, j < 6 → f j = g j) {w : Int32} : ∀ (r : List Cl) (a : Int32), tg f C w a r = tg g C w a r := by
  intro r
  induction r with
  | nil => intro a; rfl
  | cons x r ih =>
    intro a
    have e : hold f C x = hold g C x := by unfold hold; rw [evB_congr h]
    unfold tg
    rw [e]
    exact ih _
theorem tc {c : Nat} (hc : c < 1800) : nI c / 300 = nI (c / 300) ∧ remI (nI c) 100 = nI (c % 100) ∧ nI c / 100 = nI (c / 100) ∧ remI (nI (c / 100)) 3 = nI (c / 100 % 3) ∧ inB (nI (c / 300)) 6 = true ∧ (nI (c / 300)).toNatClampNeg = c / 300 ∧ ¬ nI (c / 300) < 0 ∧ nI (c / 300) < nI 6 := ⟨pk_div (d := 300) (by omega) (by omega) (by omega), pk_rem (d := 100) (by omega) (by omega) (by omega), pk_div (d := 100) (by omega) (by omega) (by omega), pk_rem (d := 3) (by omega) (by omega) (by omega), nI_inB (by omega) (by omega), nI_clamp (by omega), nI_pos (by omega), nI_lt (by omega) (by omega)⟩
theorem tc3 (c : Nat) : (nI (c / 100 % 3) = 0) = (c / 100 % 3 = 0) ∧ (nI (c / 100 % 3) = 1) = (c / 100 % 3 = 1) := ⟨propext (nI_eq (b := 0) (by omega) (by omega)), propext (nI_eq (b := 1) (by omega) (by omega))⟩
theorem litZ : ¬ (300 : Int32) = 0 ∧ ¬ (100 : Int32) = 0 ∧ ¬ (3 : Int32) = 0 ∧ ¬ (1 : Int32) = 0 ∧ ¬ (10 : Int32) = 0 ∧ ¬ (2 : Int32) = 0 ∧ ¬ (10000 : Int32) = 0 ∧ ¬ (-1 : Int32) = 0 := by decide +kernel
section HH
variable {d q pf : Nat} {h : AHp} {lv rs : Int32} {W N E C f : Nat → Int32} {nc cl : Nat} {cc : List Cl}
theorem sp_testHolds {c : Nat} (hc : c < 1800) (f0 : aT (h.1 pf) = 0) (f1 : aN (h.1 pf) = 6) (f2 : aF (h.1 pf) = f) : Rf d 27 0 [.int (nI c), .ref pf, noV, noV, noV] [] h = some (some (.int (b2 (tst f c = true))), h) := by
  simp only [x27_0, x27_1, x27_4, x27_5, x27_6, x27_7, x27_10, x27_11, x27_12, x27_13, x27_16, x27_17, x27_18, x27_19, x27_20, x27_21, x27_22, x27_23, x27_25, x27_26, x27_28, x27_29, x27_31, x27_32, x27_33, x27_34, x27_60, x27_61, x27_63, x27_66, x27_67, x27_70, x27_71, x27_72, x27_73, x27_75, x27_78, x27_79, x27_82, x27_83, x27_84, x27_85, x27_87, x27_90, x27_91, x27_94, x27_95, f0, f1, f2, tc hc, tc3, litZ, true_or, and_self, not_false_eq_true, ↓reduceIte, retI_z0, retI_z1]
  have e6 : c / 300 % 6 = c / 300 := Nat.mod_eq_of_lt (by omega)
  unfold b2 tst
  rw [e6]
  by_cases h0 : c / 100 % 3 = 0
  · simp only [h0, ↓reduceIte, decide_eq_true_eq]
    split <;> rfl
  · by_cases h1 : c / 100 % 3 = 1
    · simp only [h1, ↓reduceIte, decide_eq_true_eq, show ¬ (1 : Nat) = 0 from by decide]
      split <;> rfl
    · simp only [h0, h1, ↓reduceIte, decide_eq_true_eq]
      split <;> rfl
theorem lp_holds (F : HF h q lv rs W N E C nc cl) (hcl : cl ≤ 100) (f0 : aT (h.1 pf) = 0) (f1 : aN (h.1 pf) = 6) (f2 : aF (h.1 pf) = f) {ci e : Nat} {v : Value} (hci : ci < 10) (hE : E ci = nI e) (he : e ≤ cl) : ∀ (k i : Nat) (st : List Bool) (x : Int32), i + k = e → BR x st → st.length ≤ 20 → rnD C i k st.length = some 1 → Rf (d + 1) 26 24 [.ref q, .int (nI ci), .ref pf, .int x, v, .int (nI i)] [] h = some (some (.int (b2 ((evB f C st i k).headD false = true))), h) := by
  have c4 : inB (nI ci) 10 = true := nI_inB hci (by omega)
  have c5 : (nI ci).toNatClampNeg = ci := nI_clamp (by omega)
  intro k
  induction k with
  | zero =>
    intro i st x hi hb hl hr
    have c1 : ¬ nI i < nI e := nI_nlt (by omega) (by omega)
    unfold rnD at hr
    have hlen : st.length = 1 := Option.some.inj hr
    match st, hlen with
    | [a], _ =>
      have ht := BR_top hb
      simp only [x26_0, x26_1, x26_2, x26_3, x26_6, x26_7, x26_10, x26_11, x26_14, x26_15, x26_16, x26_17, x26_18, x26_20, x26_22, x26_24, x26_26, x26_27, x26_30, x26_31, x26_32, x26_35, x26_36, x26_39, x26_41, x26_42, x26_43, x26_46, x26_47, x26_48, x26_49, x26_50, x26_53, x26_54, x26_57, x26_59, x26_60, x26_62, x26_65, x26_66, x26_67, x26_68, x26_69, x26_71, x26_72, x26_73, x26_74, x26_77, x26_78, x26_81, x26_83, x26_84, x26_86, x26_89, x26_90, x26_91, x26_92, x26_93, x26_94, x26_95, x26_96, x26_97, x26_100, x26_101, x26_102, x26_103, x26_104, x26_107, x26_109, x26_110, x26_114, x26_117, x26_118, x26_121, x26_122, x26_123, x26_124, x26_127, x26_130, x26_131, x26_132, x26_133, x26_136, x26_137, x26_140, x26_141, F, c1, c4, c5, hE, ht, true_or, and_self, ↓reduceIte, retI_z0, retI_z1, evB, List.headD_cons]
      cases a
      · simp only [Bool.false_eq_true, ↓reduceIte, b2, retI_z0, retI_z1]
      · simp only [litZ, ↓reduceIte, b2, retI_z0, retI_z1]
  | succ k ih =>
    intro i st x hi hb hl hr
    have c1 : nI i < nI e := nI_lt (by omega) (by omega)
    have c2 : inB (nI i) cl = true := nI_inB (by omega) (by omega)
    have c3 : (nI i).toNatClampNeg = i := nI_clamp (by omega)
    obtain ⟨r1, r2, r3, r4, r5⟩ := rnD_step (f := f) hr
    have hl2 : (stT f (C i) st).length ≤ 20 := by
      by_cases hm : C i = -1
      · have := r3 hm
        unfold stT
        rw [if_pos hm]
        match st, this with
        | a :: r, _ => exact hl
      · by_cases hm2 : C i = -2 ∨ C i = -3
        · have := r4 hm2
          unfold stT
          rw [if_neg hm]
          match st, this with
          | a :: c :: r, _ =>
            rcases hm2 with z | z
            · rw [if_pos z]; simp at hl ⊢; omega
            · rw [if_neg (by rw [z]; decide), if_pos z]; simp at hl ⊢; omega
        · rcases r2 with r2 | r2
          · unfold stT
            rw [if_neg hm, if_neg (fun z => hm2 (Or.inl z)), if_neg (fun z => hm2 (Or.inr z))]
            simp
            omega
          · rcases r5 with z | z | z | z
            · exact absurd z hm
            · exact absurd (Or.inl z) hm2
            · exact absurd (Or.inr z) hm2
            · exact absurd r2 z.1
    have e1 := fun y (hy : BR y (stT f (C i) st)) => ih (i + 1) (stT f (C i) st) y (by omega) hy hl2 r1
    rw [x26_24]
    rcases r5 with z | z | z | z
    · have hst := r3 z
      match st, hst with
      | a :: r, _ =>
        have e2 := e1 (x ^^^ 1) (by rw [z]; exact BR_not hb hl)
        simp only [x26_26, x26_27, x26_30, x26_31, x26_32, x26_35, x26_36, x26_39, x26_41, x26_42, x26_43, x26_46, x26_47, x26_48, x26_49, x26_50, x26_53, x26_54, x26_57, x26_59, x26_60, x26_62, x26_65, x26_66, x26_67, x26_68, x26_69, x26_71, x26_72, x26_73, x26_74, x26_77, x26_78, x26_81, x26_83, x26_84, x26_86, x26_89, x26_90, x26_91, x26_92, x26_93, x26_94, x26_95, x26_96, x26_97, x26_100, x26_101, x26_102, x26_103, x26_104, x26_107, x26_109, x26_110, x26_114, x26_123, x26_124, x26_127, F, c1, c2, c3, c4, c5, hE, z, nI_1, true_or, and_self, ↓reduceIte, evB]
        rw [z] at e2
        exact e2
    · have hst := r4 (Or.inl z)
      match st, hst with
      | a :: c :: r, _ =>
        have e2 := e1 ((x.toUInt32 >>> ((1 : Int32).toUInt32 &&& Int32.toUInt32 31)).toInt32 &&& (x ||| -2)) (by rw [z]; exact BR_and hb hl)
        simp only [x26_26, x26_27, x26_30, x26_31, x26_32, x26_35, x26_36, x26_39, x26_41, x26_42, x26_43, x26_46, x26_47, x26_48, x26_49, x26_50, x26_53, x26_54, x26_57, x26_59, x26_60, x26_62, x26_65, x26_66, x26_67, x26_68, x26_69, x26_71, x26_72, x26_73, x26_74, x26_77, x26_78, x26_81, x26_83, x26_84, x26_86, x26_89, x26_90, x26_91, x26_92, x26_93, x26_94, x26_95, x26_96, x26_97, x26_100, x26_101, x26_102, x26_103, x26_104, x26_107, x26_109, x26_110, x26_114, x26_123, x26_124, x26_127, F, c1, c2, c3, c4, c5, hE, z, nI_1, true_or, and_self, ↓reduceIte, evB, show ¬ (-2 : Int32) = -1 from by decide]
        rw [z] at e2
        exact e2
    · have hst := r4 (Or.inr z)
      match st, hst with
      | a :: c :: r, _ =>
        have e2 := e1 ((x.toUInt32 >>> ((1 : Int32).toUInt32 &&& Int32.toUInt32 31)).toInt32 ||| (x &&& 1)) (by rw [z]; exact BR_or hb hl)
        simp only [x26_26, x26_27, x26_30, x26_31, x26_32, x26_35, x26_36, x26_39, x26_41, x26_42, x26_43, x26_46, x26_47, x26_48, x26_49, x26_50, x26_53, x26_54, x26_57, x26_59, x26_60, x26_62, x26_65, x26_66, x26_67, x26_68, x26_69, x26_71, x26_72, x26_73, x26_74, x26_77, x26_78, x26_81, x26_83, x26_84, x26_86, x26_89, x26_90, x26_91, x26_92, x26_93, x26_94, x26_95, x26_96, x26_97, x26_100, x26_101, x26_102, x26_103, x26_104, x26_107, x26_109, x26_110, x26_114, x26_123, x26_124, x26_127, F, c1, c2, c3, c4, c5, hE, z, nI_1, true_or, and_self, ↓reduceIte, evB, show ¬ (-3 : Int32) = -1 from by decide, show ¬ (-3 : Int32) = -2 from by decide]
        rw [z] at e2
        exact e2
    · have n1 : ¬ C i = -1 := fun y => z.1 (by rw [y]; decide)
      have n2 : ¬ C i = -2 := fun y => z.1 (by rw [y]; decide)
      have n3 : ¬ C i = -3 := fun y => z.1 (by rw [y]; decide)
      obtain ⟨cv, hcv, hcv2⟩ := nI_of z.1
      have hcv3 : cv < 1800 := by
        have := z.2
        rw [hcv2] at this
        exact (nI_ltI hcv (by omega)).mp this
      have hlt : st.length < 20 := by
        rcases r2 with r2 | r2
        · exact r2
        · exact absurd r2 z.1
      have eT := sp_testHolds (d := d) (h := h) hcv3 f0 f1 f2
      rw [← hcv2] at eT
      have hst : stT f (C i) st = tst f cv :: st := by
        unfold stT
        rw [if_neg n1, if_neg n2, if_neg n3, hcv2, nI_clamp hcv]
      have e2 := e1 ((x <<< ((1 : Int32) &&& 31)) ||| (if tst f cv = true then 1 else 0)) (by rw [hst]; exact BR_psh hb hlt)
      simp only [x26_26, x26_27, x26_30, x26_31, x26_32, x26_35, x26_36, x26_39, x26_41, x26_42, x26_43, x26_46, x26_47, x26_48, x26_49, x26_50, x26_53, x26_54, x26_57, x26_59, x26_60, x26_62, x26_65, x26_66, x26_67, x26_68, x26_69, x26_71, x26_72, x26_73, x26_74, x26_77, x26_78, x26_81, x26_83, x26_84, x26_86, x26_89, x26_90, x26_91, x26_92, x26_93, x26_94, x26_95, x26_96, x26_97, x26_100, x26_101, x26_102, x26_103, x26_104, x26_107, x26_109, x26_110, x26_114, x26_117, x26_118, x26_121, x26_122, x26_123, x26_124, x26_127, xc26_111 eT, F, c1, c2, c3, c4, c5, hE, n1, n2, n3, b2_0, nI_1, true_or, and_self, ↓reduceIte, evB, Decidable.not_not]
      by_cases ht : tst f cv = true
      · simp only [ht, not_true_eq_false, ↓reduceIte] at e2 ⊢
        exact e2
      · simp only [ht, not_false_eq_true, ↓reduceIte] at e2 ⊢
        exact e2
theorem sp_holds (F : HF h q lv rs W N E C nc cl) (Z : HL W N E C cl cc) (f0 : aT (h.1 pf) = 0) (f1 : aN (h.1 pf) = 6) (f2 : aF (h.1 pf) = f) {ci : Nat} {x : Cl} (hx : cc[ci]? = some x) : Rf (d + 1) 26 0 [.ref q, .int (nI ci), .ref pf, noV, noV, noV] [] h = some (some (.int (b2 (hold f C x = true))), h) := by
  obtain ⟨z1, z2, z3⟩ := Z
  obtain ⟨y1, y2, y3, y4, y5, y6, y7, y8⟩ := z3 ci x hx
  have hci : ci < 10 := by
    have := (List.getElem?_eq_some_iff.mp hx).1
    omega
  have hb0 : BR 0 [] := fun i b hb => by cases hb
  have e1 := lp_holds (d := d) (v := .int (nI x.2.2.1)) F z2 f0 f1 f2 hci y3 y7 (x.2.2.2 - x.2.2.1) x.2.2.1 [] 0 (by omega) hb0 (by simp) y8
  cases ci with
  | zero =>
    have y9 := y4 rfl
    rw [y9] at e1
    simp only [nI_0] at e1
    simp only [x26_0, x26_1, x26_2, x26_3, x26_6, x26_7, x26_10, x26_11, x26_14, x26_15, x26_16, x26_17, x26_18, x26_20, x26_22, nI_0, ↓reduceIte, hold, y9]
    exact e1
  | succ k =>
    have y9 := y5 k rfl
    have c1 : ¬ nI (k + 1) = 0 := nI_ne0 (by omega) (by omega)
    have c2 : inB (nI k) 10 = true := nI_inB (by omega) (by omega)
    have c3 : (nI k).toNatClampNeg = k := nI_clamp (by omega)
    simp only [x26_0, x26_1, x26_2, x26_3, x26_6, x26_7, x26_10, x26_11, x26_14, x26_15, x26_16, x26_17, x26_18, x26_20, x26_22, F, c1, nI_pred, c2, c3, y9, true_or, and_self, ↓reduceIte, hold]
    exact e1
theorem lp_together (F : HF h q lv rs W N E C cc.length cl) (Z : HL W N E C cl cc) (f0 : aT (h.1 pf) = 0) (f1 : aN (h.1 pf) = 6) (f2 : aF (h.1 pf) = f) {w : Int32} : ∀ (r : List Cl) (ci : Nat) (a : Int32), cc.drop ci = r → ci ≤ cc.length → Rf (d + 2) 25 5 [.ref q, .int w, .ref pf, .int a, .int (nI ci)] [] h = some (some (.int (tg f C w a r)), h) := by
  have z1 := Z.1
  intro r
  induction r with
  | nil =>
    intro ci a hr hc
    have hl : cc.length ≤ ci := List.drop_eq_nil_iff.mp hr
    have c1 : ¬ nI ci < nI cc.length := nI_nlt hl (by omega)
    simp only [x25_0, x25_1, x25_2, x25_3, x25_5, x25_7, x25_8, x25_11, x25_14, x25_15, x25_18, x25_20, x25_21, x25_22, x25_25, x25_26, x25_28, x25_32, x25_35, x25_36, x25_37, x25_40, x25_42, x25_43, x25_44, x25_45, x25_48, x25_51, x25_52, F, c1, and_self, ↓reduceIte, tg]
  | cons x r ih =>
    intro ci a hr hc
    have hx : cc[ci]? = some x := by
      have : (cc.drop ci)[0]? = some x := by rw [hr]; rfl
      rwa [List.getElem?_drop, Nat.add_zero] at this
    have hlt : ci < cc.length := (List.getElem?_eq_some_iff.mp hx).1
    have hr2 : cc.drop (ci + 1) = r := by
      have : (cc.drop ci).drop 1 = r := by rw [hr]; rfl
      rwa [List.drop_drop] at this
    have c1 : nI ci < nI cc.length := nI_lt hlt (by omega)
    have c2 : inB (nI ci) 10 = true := nI_inB (by omega) (by omega)
    have c3 : (nI ci).toNatClampNeg = ci := nI_clamp (by omega)
    obtain ⟨y1, y2, -⟩ := Z.2.2 ci x hx
    have e1 := ih (ci + 1) (if x.1 = w ∧ hold f C x = true then a + x.2.1 else a) hr2 hlt
    have e2 := sp_holds (d := d) F Z f0 f1 f2 hx
    rw [x25_5]
    simp only [x25_7, x25_8, x25_11, x25_14, x25_15, x25_18, x25_20, x25_21, x25_22, x25_25, x25_26, x25_28, x25_32, x25_35, x25_36, x25_37, x25_40, x25_42, x25_43, x25_44, x25_45, x25_48, xc25_29 F.1 e2, F, c1, c2, c3, y1, y2, b2_0, nI_1, true_or, and_self, ↓reduceIte, tg]
    by_cases hw : x.1 = w
    · by_cases hh : hold f C x = true
      · simp only [hw, hh, and_self, not_true_eq_false, ↓reduceIte] at e1 ⊢
        exact e1
      · simp only [hw, hh, and_false, not_false_eq_true, ↓reduceIte] at e1 ⊢
        exact e1
    · simp only [hw, false_and, ↓reduceIte] at e1 ⊢
      exact e1
theorem sp_together (F : HF h q lv rs W N E C cc.length cl) (Z : HL W N E C cl cc) (f0 : aT (h.1 pf) = 0) (f1 : aN (h.1 pf) = 6) (f2 : aF (h.1 pf) = f) {w : Int32} : Rf (d + 2) 25 0 [.ref q, .int w, .ref pf, noV, noV] [] h = some (some (.int (tg f C w 0 cc)), h) := by
  have e1 := lp_together (d := d) F Z f0 f1 f2 (w := w) cc 0 0 rfl (Nat.zero_le _)
  rw [nI_0] at e1
  simp only [x25_0, x25_1, x25_2, x25_3]
  exact e1
end HH
