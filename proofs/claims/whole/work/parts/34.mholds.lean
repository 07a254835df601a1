-- deps: 33.holds
/-! THE MODEL's clauses, asked. -/
def mtok (t : Int32) : Int32 := if t < 0 then -4 - t else t
/-- the FACTS of a WORKER -/
def fcA (A : Nat → Int32) (w : Nat) : Nat → Int32 := fun j => if j = 0 then nI w else if j = 1 then A (60 + w) else if j = 2 then A (40 + w) else if j = 3 then A (20 + w) / 10 else if j = 4 then A (30 + w) / 10 else remI (A 6) 10
/-- the model's rows hold the clauses of the house g -/
def ML (A : Nat → Int32) (g : Nat) (C : Nat → Int32) (cl : Nat) (ml : List Cl) : Prop := g < 5 ∧ cl ≤ 100 ∧ ml.length ≤ 10 ∧ A (226 + g) = nI ml.length ∧ (∀ i, i < cl → (∃ (k : Nat) (x : Cl), ml[k]? = some x ∧ i < x.2.2.2) → A (431 + (100 * g + i)) = mtok (C i)) ∧ ∀ (k : Nat) (x : Cl), ml[k]? = some x → A (231 + (10 * g + k)) = x.1 ∧ A (281 + (10 * g + k)) = x.2.1 ∧ A (331 + (10 * g + k)) = nI x.2.2.1 ∧ A (381 + (10 * g + k)) = nI x.2.2.2 ∧ (x.1 = 0 ∨ x.1 = 1 ∨ x.1 = 2 → x.2.2.1 ≤ x.2.2.2 ∧ x.2.2.2 ≤ cl ∧ rnD C x.2.2.1 (x.2.2.2 - x.2.2.1) 0 = some 1)
/-- the row of numbers holds the stack -/
def SR (S : Nat → Int32) (st : List Bool) : Prop := ∀ i b, st[i]? = some b → S (st.length - 1 - i) = if b = true then 1 else 0
def stk (h : AHp) (o : Nat) (S : Nat → Int32) : AHp := hset h (o + 3) (.inl (0, 101, .inl S))
theorem plus_ne (o a b : Nat) (h : ¬ a = b) : (o + a = o + b) = False := by simp; omega
theorem plus_ne0 (o a : Nat) (h : ¬ a = 0) : (o = o + a) = False ∧ (o + a = o) = False := by
  constructor <;> simp <;> omega
section MH
variable {d o : Nat} {h : AHp} {A B C f S : Nat → Int32} {g cl n : Nat} {ml : List Cl}
theorem MF_stk (F : MF h o A B) (S : Nat → Int32) : MF (stk h o S) o A B := by
  simp only [MF, stk, hset_at, plus_ne o 1 3 (by decide), plus_ne o 2 3 (by decide), plus_ne o 4 3 (by decide), plus_ne o 5 3 (by decide), plus_ne o 6 3 (by decide), plus_ne o 7 3 (by decide), plus_ne0 o 3 (by decide), ↓reduceIte, aT_i, aN_i, F, and_self]
theorem stk_at : (stk h o S).1 (o + 3) = .inl (0, 101, .inl S) := if_pos rfl
theorem stk_stk {S T : Nat → Int32} : stk (stk h o S) o T = stk h o T := hset_hset
theorem sp_value (F : MF h o A B) (R : RG A n) {w j : Nat} (hw : w < n) (hj : j < 6) : Rf d 147 0 [.ref o, .int (nI j), .int (nI w)] [] h = some (some (.int (fcA A w j)), h) := by
  have hn := R.1
  have i6 : inB 6 931 = true ∧ (6 : Int32).toNatClampNeg = 6 := ⟨by decide, by decide⟩
  match j, hj with
  | 0, _ => simp only [x147_0, x147_1, x147_36, x147_37, x147_38, x147_39, x147_42, x147_44, x147_45, x147_46, x147_47, x147_48, x147_49, x147_52, x147_54, x147_55, x147_56, x147_57, x147_58, x147_59, x147_62, x147_64, x147_65, x147_66, x147_67, x147_69, x147_70, x147_71, x147_72, x147_75, x147_77, x147_78, x147_79, x147_80, x147_82, x147_83, x147_84, x147_85, x147_88, x147_90, x147_91, x147_93, x147_94, nI_0, ↓reduceIte, fcA]
  | 1, _ => simp only [x147_0, x147_1, x147_36, x147_37, x147_38, x147_39, x147_42, x147_44, x147_45, x147_46, x147_47, x147_48, x147_49, x147_52, x147_54, x147_55, x147_56, x147_57, x147_58, x147_59, x147_62, x147_64, x147_65, x147_66, x147_67, x147_69, x147_70, x147_71, x147_72, x147_75, x147_77, x147_78, x147_79, x147_80, x147_82, x147_83, x147_84, x147_85, x147_88, x147_90, x147_91, x147_93, x147_94, F, show ¬ (nI 1) = 0 from by decide, show nI 1 = 1 from rfl, ix 60 w 931 (by omega) (by decide), show (60 : Int32) = nI 60 from rfl, ↓reduceIte, fcA, true_or, and_self, litZ, show ¬ (1 : Nat) = 0 from by decide]
  | 2, _ => simp only [x147_0, x147_1, x147_36, x147_37, x147_38, x147_39, x147_42, x147_44, x147_45, x147_46, x147_47, x147_48, x147_49, x147_52, x147_54, x147_55, x147_56, x147_57, x147_58, x147_59, x147_62, x147_64, x147_65, x147_66, x147_67, x147_69, x147_70, x147_71, x147_72, x147_75, x147_77, x147_78, x147_79, x147_80, x147_82, x147_83, x147_84, x147_85, x147_88, x147_90, x147_91, x147_93, x147_94, F, show nI 2 = 2 from rfl, ix 40 w 931 (by omega) (by decide), show (40 : Int32) = nI 40 from rfl, ↓reduceIte, fcA, true_or, and_self, litZ, show ¬ (2 : Int32) = 1 from by decide, show ¬ (2 : Nat) = 0 from by decide, show ¬ (2 : Nat) = 1 from by decide]
  | 3, _ => simp only [x147_0, x147_1, x147_36, x147_37, x147_38, x147_39, x147_42, x147_44, x147_45, x147_46, x147_47, x147_48, x147_49, x147_52, x147_54, x147_55, x147_56, x147_57, x147_58, x147_59, x147_62, x147_64, x147_65, x147_66, x147_67, x147_69, x147_70, x147_71, x147_72, x147_75, x147_77, x147_78, x147_79, x147_80, x147_82, x147_83, x147_84, x147_85, x147_88, x147_90, x147_91, x147_93, x147_94, F, show nI 3 = 3 from rfl, ix 20 w 931 (by omega) (by decide), show (20 : Int32) = nI 20 from rfl, ↓reduceIte, fcA, true_or, and_self, litZ, not_false_eq_true, show ¬ (3 : Int32) = 1 from by decide, show ¬ (3 : Int32) = 2 from by decide, show ¬ (3 : Nat) = 0 from by decide, show ¬ (3 : Nat) = 1 from by decide, show ¬ (3 : Nat) = 2 from by decide]
  | 4, _ => simp only [x147_0, x147_1, x147_36, x147_37, x147_38, x147_39, x147_42, x147_44, x147_45, x147_46, x147_47, x147_48, x147_49, x147_52, x147_54, x147_55, x147_56, x147_57, x147_58, x147_59, x147_62, x147_64, x147_65, x147_66, x147_67, x147_69, x147_70, x147_71, x147_72, x147_75, x147_77, x147_78, x147_79, x147_80, x147_82, x147_83, x147_84, x147_85, x147_88, x147_90, x147_91, x147_93, x147_94, F, show nI 4 = 4 from rfl, ix 30 w 931 (by omega) (by decide), show (30 : Int32) = nI 30 from rfl, ↓reduceIte, fcA, true_or, and_self, litZ, not_false_eq_true, show ¬ (4 : Int32) = 0 from by decide, show ¬ (4 : Int32) = 1 from by decide, show ¬ (4 : Int32) = 2 from by decide, show ¬ (4 : Int32) = 3 from by decide, show ¬ (4 : Nat) = 0 from by decide, show ¬ (4 : Nat) = 1 from by decide, show ¬ (4 : Nat) = 2 from by decide, show ¬ (4 : Nat) = 3 from by decide]
  | 5, _ => simp only [x147_0, x147_1, x147_36, x147_37, x147_38, x147_39, x147_42, x147_44, x147_45, x147_46, x147_47, x147_48, x147_49, x147_52, x147_54, x147_55, x147_56, x147_57, x147_58, x147_59, x147_62, x147_64, x147_65, x147_66, x147_67, x147_69, x147_70, x147_71, x147_72, x147_75, x147_77, x147_78, x147_79, x147_80, x147_82, x147_83, x147_84, x147_85, x147_88, x147_90, x147_91, x147_93, x147_94, F, show nI 5 = 5 from rfl, i6, ↓reduceIte, fcA, true_or, and_self, litZ, not_false_eq_true, show ¬ (5 : Int32) = 0 from by decide, show ¬ (5 : Int32) = 1 from by decide, show ¬ (5 : Int32) = 2 from by decide, show ¬ (5 : Int32) = 3 from by decide, show ¬ (5 : Int32) = 4 from by decide, show ¬ (5 : Nat) = 0 from by decide, show ¬ (5 : Nat) = 1 from by decide, show ¬ (5 : Nat) = 2 from by decide, show ¬ (5 : Nat) = 3 from by decide, show ¬ (5 : Nat) = 4 from by decide]
theorem SR_psh {a : Bool} {st : List Bool} {x : Int32} (hs : SR S st) (hx : x = if a = true then 1 else 0) : SR (upd S st.length x) (a :: st) := by
  intro i b hb
  cases i with
  | zero =>
    cases hb
    rw [upd_at, if_pos (by simp), hx]
  | succ i =>
    have hl := (List.getElem?_eq_some_iff.mp hb).1
    simp only [List.length_cons] at hl ⊢
    rw [upd_at, if_neg (by omega), show st.length + 1 - 1 - (i + 1) = st.length - 1 - i by omega]
    exact hs i b hb
theorem SR_tl {a : Bool} {st : List Bool} (hs : SR S (a :: st)) : SR S st := by
  intro i b hb
  have h1 := hs (i + 1) b hb
  simp only [List.length_cons] at h1
  rwa [show st.length + 1 - 1 - (i + 1) = st.length - 1 - i by omega] at h1
theorem SR_top {a : Bool} {st : List Bool} (hs : SR S (a :: st)) : S st.length = if a = true then 1 else 0 := by
  have h1 := hs 0 a rfl
  simpa using h1
theorem stkF : aT ((stk h o S).1 (o + 3)) = 0 ∧ aN ((stk h o S).1 (o + 3)) = 101 ∧ aF ((stk h o S).1 (o + 3)) = S := by
  rw [stk_at]; exact ⟨rfl, rfl, rfl⟩
theorem lp_mholds (F : MF h o A B) (R : RG A n) (Z : ML A g C cl ml) {k w : Nat} {x : Cl} (hx : ml[k]? = some x) (h3 : x.1 = 0 ∨ x.1 = 1 ∨ x.1 = 2) (hw : w < n) : ∀ (r i : Nat) (st : List Bool) (S : Nat → Int32) (v6 v7 v8 v9 : Value), i + r = x.2.2.2 → SR S st → st.length ≤ 20 → rnD C i r st.length = some 1 → ∃ S', Rf (d + 1) 146 31 [.ref o, .int (nI (10 * g + k)), .int (nI w), .int (nI st.length), .int (nI (431 + 100 * g)), .int (nI i), v6, v7, v8, v9] [] (stk h o S) = some (some (.int (b2 ((evB (fcA A w) C st i r).headD false = true))), stk h o S') := by
  obtain ⟨z0, z1, z2, z3, z4, z5⟩ := Z
  obtain ⟨y1, y2, y3, y4, y5⟩ := z5 k x hx
  obtain ⟨y6, y7, y8⟩ := y5 h3
  have hk : k < 10 := by
    have := (List.getElem?_eq_some_iff.mp hx).1
    omega
  have i1 := ix 381 (10 * g + k) 931 (by omega) (by decide)
  intro r
  induction r with
  | zero =>
    intro i st S v6 v7 v8 v9 hi hs hl hr
    have F1 := MF_stk F S
    have c1 : ¬ nI i < nI x.2.2.2 := nI_nlt (by omega) (by omega)
    unfold rnD at hr
    have hlen : st.length = 1 := Option.some.inj hr
    match st, hlen with
    | [a], _ =>
      have ht : S 0 = if a = true then 1 else 0 := SR_top hs
      refine ⟨S, ?_⟩
      simp only [x146_0, x146_1, x146_2, x146_5, x146_7, x146_8, x146_11, x146_12, x146_13, x146_14, x146_15, x146_16, x146_17, x146_19, x146_20, x146_23, x146_26, x146_27, x146_28, x146_29, x146_31, x146_33, x146_34, x146_37, x146_40, x146_41, x146_42, x146_43, x146_46, x146_47, x146_50, x146_52, x146_54, x146_55, x146_56, x146_58, x146_60, x146_62, x146_65, x146_66, x146_69, x146_70, x146_71, x146_72, x146_73, x146_74, x146_77, x146_78, x146_79, x146_80, x146_81, x146_82, x146_83, x146_86, x146_88, x146_91, x146_94, x146_95, x146_98, x146_99, x146_100, x146_101, x146_103, x146_104, x146_107, x146_108, x146_111, x146_112, x146_113, x146_114, x146_115, x146_116, x146_119, x146_120, x146_121, x146_122, x146_125, x146_126, x146_129, x146_130, x146_131, x146_132, x146_133, x146_134, x146_137, x146_138, x146_139, x146_140, x146_141, x146_144, x146_146, x146_148, x146_149, x146_151, x146_152, x146_154, x146_157, x146_158, x146_162, x146_164, x146_166, x146_168, x146_169, x146_170, x146_171, x146_173, x146_174, x146_177, x146_178, x146_181, x146_183, x146_186, x146_188, x146_190, x146_193, x146_196, x146_198, x146_199, x146_202, x146_204, x146_206, x146_209, x146_212, x146_214, x146_216, x146_219, x146_220, x146_223, x146_224, x146_225, x146_228, x146_231, x146_232, x146_235, x146_236, x146_237, x146_238, x146_241, x146_242, x146_245, x146_246, F1, stkF, c1, show (381 : Int32) = nI 381 from rfl, i1, y4, show inB 0 101 = true from by decide, show (0 : Int32).toNatClampNeg = 0 from by decide, ht, true_or, and_self, ↓reduceIte, retI_z0, retI_z1, evB, List.headD_cons]
      cases a
      · simp only [Bool.false_eq_true, ↓reduceIte, b2, retI_z0, retI_z1, show ¬ (0 : Int32) = 1 from by decide]
      · simp only [↓reduceIte, b2, retI_z0, retI_z1]
  | succ r ih =>
    intro i st S v6 v7 v8 v9 hi hs hl hr
    have F1 := MF_stk F S
    have c1 : nI i < nI x.2.2.2 := nI_lt (by omega) (by omega)
    have i2 := ix (431 + 100 * g) i 931 (by omega) (by decide)
    have hA : A (431 + 100 * g + i) = mtok (C i) := by rw [← z4 i (by omega) ⟨k, x, hx, by omega⟩]; congr 1; omega
    obtain ⟨r1, r2, r3, r4, r5⟩ := rnD_step (f := fcA A w) hr
    rw [x146_31]
    rcases r5 with z | z | z | z
    · have hst := r3 z
      match st, hst with
      | a :: q, _ =>
        have j1 : inB (nI q.length) 101 = true := nI_inB (by simp at hl; omega) (by decide)
        have j2 : (nI q.length).toNatClampNeg = q.length := nI_clamp (by simp at hl; omega)
        have ht := SR_top hs
        have hm : mtok (C i) = -3 := by rw [z]; decide
        have e1 := fun v6 => ih (i + 1) ((!a) :: q) (upd S q.length (1 - S q.length)) v6 v7 v8 v9 (by omega) (SR_psh (SR_tl hs) (by rw [ht]; cases a <;> decide)) hl (by rw [z] at r1; exact r1)
        obtain ⟨S', e2⟩ := e1 (.int (-3))
        refine ⟨S', ?_⟩
        rw [← stk_stk (S := S)] at e2
        simp only [x146_33, x146_34, x146_37, x146_40, x146_41, x146_42, x146_43, x146_46, x146_47, x146_50, x146_52, x146_54, x146_55, x146_56, x146_58, x146_60, x146_62, x146_65, x146_66, x146_69, x146_70, x146_71, x146_72, x146_73, x146_74, x146_77, x146_78, x146_79, x146_80, x146_81, x146_82, x146_83, x146_86, x146_88, x146_91, x146_94, x146_95, x146_98, x146_99, x146_100, x146_101, x146_103, x146_104, x146_107, x146_108, x146_111, x146_112, x146_113, x146_114, x146_115, x146_116, x146_119, x146_120, x146_121, x146_122, x146_125, x146_126, x146_129, x146_130, x146_131, x146_132, x146_133, x146_134, x146_137, x146_138, x146_139, x146_140, x146_141, x146_144, x146_146, x146_148, x146_149, x146_151, x146_152, x146_154, x146_157, x146_158, x146_162, x146_164, x146_166, x146_168, x146_169, x146_170, x146_171, x146_173, x146_174, x146_177, x146_178, x146_181, x146_183, x146_186, x146_188, x146_190, x146_193, x146_196, x146_198, x146_199, x146_202, x146_204, x146_206, x146_209, x146_212, x146_214, x146_216, x146_225, x146_228, F1, stkF, c1, show (381 : Int32) = nI 381 from rfl, i1, i2, y4, hA, hm, List.length_cons, nI_pred, j1, j2, nI_1, true_or, and_self, ↓reduceIte, evB, z, show stT (fcA A w) (-1) (a :: q) = (!a) :: q from by unfold stT; rw [if_pos rfl]]
        exact e2
    · have hst := r4 (Or.inl z)
      match st, hst with
      | a :: c :: q, _ =>
        have j1 : inB (nI q.length) 101 = true := nI_inB (by simp at hl; omega) (by decide)
        have j2 : (nI q.length).toNatClampNeg = q.length := nI_clamp (by simp at hl; omega)
        have j3 : inB (nI (q.length + 1)) 101 = true := nI_inB (by simp at hl; omega) (by decide)
        have j4 : (nI (q.length + 1)).toNatClampNeg = q.length + 1 := nI_clamp (by simp at hl; omega)
        have ht := SR_top hs
        have ht2 := SR_top (SR_tl hs)
        simp only [List.length_cons] at ht
        have hm : mtok (C i) = -2 := by rw [z]; decide
        have e1 := fun v6 => ih (i + 1) ((c && a) :: q) (upd S q.length (S q.length &&& S (q.length + 1))) v6 v7 v8 v9 (by omega) (SR_psh (SR_tl (SR_tl hs)) (by rw [ht, ht2]; cases a <;> cases c <;> decide)) (by simp at hl ⊢; omega) (by rw [z] at r1; exact r1)
        obtain ⟨S', e2⟩ := e1 (.int (-2))
        refine ⟨S', ?_⟩
        rw [← stk_stk (S := S)] at e2
        simp only [x146_33, x146_34, x146_37, x146_40, x146_41, x146_42, x146_43, x146_46, x146_47, x146_50, x146_52, x146_54, x146_55, x146_56, x146_58, x146_60, x146_62, x146_65, x146_66, x146_69, x146_70, x146_71, x146_72, x146_73, x146_74, x146_77, x146_78, x146_79, x146_80, x146_81, x146_82, x146_83, x146_86, x146_88, x146_91, x146_94, x146_95, x146_98, x146_99, x146_100, x146_101, x146_103, x146_104, x146_107, x146_108, x146_111, x146_112, x146_113, x146_114, x146_115, x146_116, x146_119, x146_120, x146_121, x146_122, x146_125, x146_126, x146_129, x146_130, x146_131, x146_132, x146_133, x146_134, x146_137, x146_138, x146_139, x146_140, x146_141, x146_144, x146_146, x146_148, x146_149, x146_151, x146_152, x146_154, x146_157, x146_158, x146_162, x146_164, x146_166, x146_168, x146_169, x146_170, x146_171, x146_173, x146_174, x146_177, x146_178, x146_181, x146_183, x146_186, x146_188, x146_190, x146_193, x146_196, x146_198, x146_199, x146_202, x146_204, x146_206, x146_209, x146_212, x146_214, x146_216, x146_225, x146_228, F1, stkF, c1, show (381 : Int32) = nI 381 from rfl, i1, i2, y4, hA, hm, List.length_cons, pk_m1, nI_pred, j1, j2, j3, j4, nI_1, true_or, and_self, ↓reduceIte, evB, show ¬ (-2 : Int32) = -3 from by decide, show (-2 : Int32) < 0 from by decide, show ¬ (-2 : Int32) = -1 from by decide, z, show stT (fcA A w) (-2) (a :: c :: q) = (c && a) :: q from by unfold stT; rw [if_neg (by decide), if_pos rfl]]
        exact e2
    · have hst := r4 (Or.inr z)
      match st, hst with
      | a :: c :: q, _ =>
        have j1 : inB (nI q.length) 101 = true := nI_inB (by simp at hl; omega) (by decide)
        have j2 : (nI q.length).toNatClampNeg = q.length := nI_clamp (by simp at hl; omega)
        have j3 : inB (nI (q.length + 1)) 101 = true := nI_inB (by simp at hl; omega) (by decide)
        have j4 : (nI (q.length + 1)).toNatClampNeg = q.length + 1 := nI_clamp (by simp at hl; omega)
        have ht := SR_top hs
        have ht2 := SR_top (SR_tl hs)
        simp only [List.length_cons] at ht
        have hm : mtok (C i) = -1 := by rw [z]; decide
        have e1 := fun v6 => ih (i + 1) ((c || a) :: q) (upd S q.length (S q.length ||| S (q.length + 1))) v6 v7 v8 v9 (by omega) (SR_psh (SR_tl (SR_tl hs)) (by rw [ht, ht2]; cases a <;> cases c <;> decide)) (by simp at hl ⊢; omega) (by rw [z] at r1; exact r1)
        obtain ⟨S', e2⟩ := e1 (.int (-1))
        refine ⟨S', ?_⟩
        rw [← stk_stk (S := S)] at e2
        simp only [x146_33, x146_34, x146_37, x146_40, x146_41, x146_42, x146_43, x146_46, x146_47, x146_50, x146_52, x146_54, x146_55, x146_56, x146_58, x146_60, x146_62, x146_65, x146_66, x146_69, x146_70, x146_71, x146_72, x146_73, x146_74, x146_77, x146_78, x146_79, x146_80, x146_81, x146_82, x146_83, x146_86, x146_88, x146_91, x146_94, x146_95, x146_98, x146_99, x146_100, x146_101, x146_103, x146_104, x146_107, x146_108, x146_111, x146_112, x146_113, x146_114, x146_115, x146_116, x146_119, x146_120, x146_121, x146_122, x146_125, x146_126, x146_129, x146_130, x146_131, x146_132, x146_133, x146_134, x146_137, x146_138, x146_139, x146_140, x146_141, x146_144, x146_146, x146_148, x146_149, x146_151, x146_152, x146_154, x146_157, x146_158, x146_162, x146_164, x146_166, x146_168, x146_169, x146_170, x146_171, x146_173, x146_174, x146_177, x146_178, x146_181, x146_183, x146_186, x146_188, x146_190, x146_193, x146_196, x146_198, x146_199, x146_202, x146_204, x146_206, x146_209, x146_212, x146_214, x146_216, x146_225, x146_228, F1, stkF, c1, show (381 : Int32) = nI 381 from rfl, i1, i2, y4, hA, hm, List.length_cons, pk_m1, nI_pred, j1, j2, j3, j4, nI_1, true_or, and_self, ↓reduceIte, evB, show ¬ (-1 : Int32) = -3 from by decide, show (-1 : Int32) < 0 from by decide, z, show stT (fcA A w) (-3) (a :: c :: q) = (c || a) :: q from by unfold stT; rw [if_neg (by decide), if_neg (by decide), if_pos rfl]]
        exact e2
    · obtain ⟨cv, hcv, hcv2⟩ := nI_of z.1
      have hcv3 : cv < 1800 := by
        have := z.2
        rw [hcv2] at this
        exact (nI_ltI hcv (by omega)).mp this
      have hlt : st.length < 20 := by
        rcases r2 with r2 | r2
        · exact r2
        · exact absurd r2 z.1
      have n1 : ¬ C i = -1 := fun y => z.1 (by rw [y]; decide)
      have n2 : ¬ C i = -2 := fun y => z.1 (by rw [y]; decide)
      have n3 : ¬ C i = -3 := fun y => z.1 (by rw [y]; decide)
      have hm : mtok (C i) = nI cv := by unfold mtok; rw [if_neg z.1, hcv2]
      have m1 : ¬ nI cv = -3 := fun y => by rw [← hcv2] at y; exact n3 y
      have m2 : ¬ nI cv < 0 := by rw [← hcv2]; exact z.1
      have j1 : inB (nI st.length) 101 = true := nI_inB (by omega) (by decide)
      have j2 : (nI st.length).toNatClampNeg = st.length := nI_clamp (by omega)
      have eT := sp_value (d := d) F1 R hw (j := cv / 300) (by omega)
      have e6 : cv / 300 % 6 = cv / 300 := Nat.mod_eq_of_lt (by omega)
      have hst : stT (fcA A w) (C i) st = tst (fcA A w) cv :: st := by
        unfold stT
        rw [if_neg n1, if_neg n2, if_neg n3, hcv2, nI_clamp hcv]
      rw [hst] at r1
      have e1 := ih (i + 1) (tst (fcA A w) cv :: st) (upd S st.length (if tst (fcA A w) cv = true then 1 else 0)) (.int (nI cv)) (.int (nI (cv % 100))) (.int (fcA A w (cv / 300))) (.int (nI (cv / 100 % 3))) (by omega) (SR_psh hs rfl) (by simp; omega) r1
      obtain ⟨S', e2⟩ := e1
      refine ⟨S', ?_⟩
      rw [← stk_stk (S := S)] at e2
      simp only [List.length_cons] at e2
      simp only [x146_33, x146_34, x146_37, x146_40, x146_41, x146_42, x146_43, x146_46, x146_47, x146_50, x146_52, x146_54, x146_55, x146_56, x146_58, x146_60, x146_62, x146_65, x146_66, x146_69, x146_70, x146_71, x146_72, x146_73, x146_74, x146_77, x146_78, x146_79, x146_80, x146_81, x146_82, x146_83, x146_86, x146_88, x146_91, x146_94, x146_95, x146_98, x146_99, x146_100, x146_101, x146_103, x146_104, x146_107, x146_108, x146_111, x146_112, x146_113, x146_114, x146_115, x146_116, x146_119, x146_120, x146_121, x146_122, x146_125, x146_126, x146_129, x146_130, x146_131, x146_132, x146_133, x146_134, x146_137, x146_138, x146_139, x146_140, x146_141, x146_144, x146_146, x146_148, x146_149, x146_151, x146_152, x146_154, x146_157, x146_158, x146_162, x146_164, x146_166, x146_168, x146_169, x146_170, x146_171, x146_173, x146_174, x146_177, x146_178, x146_181, x146_183, x146_186, x146_188, x146_190, x146_193, x146_196, x146_198, x146_199, x146_202, x146_204, x146_206, x146_209, x146_212, x146_214, x146_216, x146_219, x146_220, x146_223, x146_224, x146_225, x146_228, xc146_159 F1.1 eT, F1, stkF, c1, show (381 : Int32) = nI 381 from rfl, i1, i2, y4, hA, hm, m1, m2, tc hcv3, tc3, litZ, j1, j2, nI_1, true_or, and_self, not_false_eq_true, ↓reduceIte, evB, hst]
      unfold tst at e2 ⊢
      rw [e6] at e2 ⊢
      by_cases h0 : cv / 100 % 3 = 0
      · by_cases hc : fcA A w (cv / 300) < nI (cv % 100)
        · simp only [h0, hc, ↓reduceIte, decide_true] at e2 ⊢
          exact e2
        · simp only [h0, hc, ↓reduceIte, decide_false, Bool.false_eq_true] at e2 ⊢
          exact e2
      · by_cases h1 : cv / 100 % 3 = 1
        · by_cases hc : fcA A w (cv / 300) = nI (cv % 100)
          · simp only [h1, hc, ↓reduceIte, decide_true, show ¬ (1 : Nat) = 0 from by decide] at e2 ⊢
            exact e2
          · simp only [h1, hc, ↓reduceIte, decide_false, Bool.false_eq_true, show ¬ (1 : Nat) = 0 from by decide] at e2 ⊢
            exact e2
        · by_cases hc : nI (cv % 100) < fcA A w (cv / 300)
          · simp only [h0, h1, hc, ↓reduceIte, decide_true] at e2 ⊢
            exact e2
          · simp only [h0, h1, hc, ↓reduceIte, decide_false, Bool.false_eq_true] at e2 ⊢
            exact e2
end MH
