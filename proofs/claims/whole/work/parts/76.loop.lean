-- deps: 75.whole
section WL
variable {n g : Nat} {u : Nat → Nat}
theorem J_loop (hn : n < 100) : ∀ (f p l : Nat) (C : Nat → Int32) (lv rs : Int32) (nc : Nat) (W N E X : Nat → Int32) (ml : List Cl), n - p ≤ f → p ≤ n → l ≤ p → ml.length ≤ 9 → XO X n g u → WI n g X W N E C ml lv rs nc l →
    ∃ (r : Bool) (p' op' l' : Nat) (lv' rs' : Int32) (nc' : Nat) (W' N' E' C' X' : Nat → Int32) (ml' : List Cl), p' ≤ n ∧ (∀ i, ¬ slo g i → X' i = X i) ∧ (r = true → WI n g X' W' N' E' C' ml' lv' rs' nc' l' ∧ X' (226 + g) = nI ml'.length ∧ ml'.length ≤ 10) ∧
      (∀ d h q v2, HB h q n u → Rf (d + 31) 13 2 [.ref q, .int (nI ml.length), v2] [] (PS h q n lv rs p nc l W N E C) = some (some (.int (if r = true then -1 else nI p')), PS h q n lv' rs' p' nc' l' W' N' E' C')) ∧
      (∀ d h o A B, MF h o A B → LO h → 32 ≤ o → Rf (d + 31) 144 2 [.ref o, .int (nI ml.length)] [] (MS h o p 0 l X) = some (some (.int (bv r)), MS h o p' op' l' X')) := by
  intro f
  induction f with
  | zero =>
    intro p l C lv rs nc W N E X ml hf hp hl hml Z I
    -- at the end of the text no clause begins
    have hnc : nc < 10 := by have := flt_le ml; have := I.2.2.1; omega
    have c10 : nI ml.length < 10 := nI_lt (a := ml.length) (b := 10) (by omega) (by decide)
    rcases J_c (g := g) (u := u) hn p l C lv rs nc W N E X ml.length hp hl hnc (by omega) Z with ⟨p', l', C', op', X', a1, a2, a3, jc, jm⟩ | ⟨w, m, p', l', C', hw, hm, b1, b2, -⟩
    · refine ⟨false, p', op', l', lv, rs, nc, W, N, E, C', X', ml, a2, a3, fun z => absurd z (by decide), fun d h q v2 H => ?_, fun d h o A B F L ho => ?_⟩
      · simp only [x13_2, x13_3, x13_5, x13_8, x13_12, x13_15, x13_16, x13_19, xc13_9 kcP (jc d h q H), PS_q, hcf, c10, Bool.false_eq_true, and_self, ↓reduceIte]
      · simp only [x144_2, x144_3, x144_7, x144_10, x144_11, xc144_4 (kcM F) (jm d h o A B F L ho), bv, retI_z0, ↓reduceIte]
    · omega
  | succ f ih =>
    intro p l C lv rs nc W N E X ml hf hp hl hml Z I
    have hnc : nc < 10 := by have := flt_le ml; have := I.2.2.1; omega
    have hg := Z.2.2.2.1
    have c10 : nI ml.length < 10 := nI_lt (a := ml.length) (b := 10) (by omega) (by decide)
    rcases J_c (g := g) (u := u) hn p l C lv rs nc W N E X ml.length hp hl hnc (by omega) Z with ⟨p', l', C', op', X', a1, a2, a3, jc, jm⟩ | ⟨w, m, p', l', C', hw, hm, b1, b2, b3, b4, b5, b6, b7, jc, jm⟩
    · refine ⟨false, p', op', l', lv, rs, nc, W, N, E, C', X', ml, a2, a3, fun z => absurd z (by decide), fun d h q v2 H => ?_, fun d h o A B F L ho => ?_⟩
      · simp only [x13_2, x13_3, x13_5, x13_8, x13_12, x13_15, x13_16, x13_19, xc13_9 kcP (jc d h q H), PS_q, hcf, c10, Bool.false_eq_true, and_self, ↓reduceIte]
      · simp only [x144_2, x144_3, x144_7, x144_10, x144_11, xc144_4 (kcM F) (jm d h o A B F L ho), bv, retI_z0, ↓reduceIte]
    have I2 := WI_step I hml hw hm b3 (by omega) hn b5 b6 b7
    generalize eX : upd (XCF X g ml.length w m l l' C') (226 + g) (nI (ml.length + 1)) = X2 at I2
    generalize eml : ml ++ [((nI w, nI m, l, l') : Cl)] = ml2 at I2
    have hlen2 : ml2.length = ml.length + 1 := by rw [← eml, List.length_append]; rfl
    have sX : ∀ i, ¬ slo g i → X2 i = X i := fun i hi => by
      rw [← eX, upd_at, if_neg (by unfold slo at hi; omega)]
      unfold XCF
      rw [upd_at, if_neg (by unfold slo at hi; omega), slo_CX (by omega) hi]
      exact slo_X1 (by omega) hi
    have sC : ∀ i, i < 226 → XCF X g ml.length w m l l' C' i = X i := fun i hi => by
      unfold XCF
      rw [upd_at, if_neg (by omega), slo_CX (by omega) (slo_lo hi)]
      exact slo_X1 (by omega) (slo_lo hi)
    have Zc : XO (XCF X g ml.length w m l l' C') n g u := XO_cg Z sC
    have Z2 : XO X2 n g u := XO_cg Z (fun i hi => sX i (slo_lo hi))
    have e226 : X2 (226 + g) = nI ml2.length := by rw [← eX, upd_at, if_pos rfl, hlen2]
    have i226 : (226 : Int32) + nI g = nI (226 + g) ∧ inB (nI (226 + g)) 931 = true ∧ (nI (226 + g)).toNatClampNeg = 226 + g := ixs 226 g (by omega)
    -- the class behind the clause
    have cl2 : ∀ d h q v2, HB h q n u → Rf (d + 31) 13 2 [.ref q, .int (nI ml.length), v2] [] (PS h q n lv rs p nc l W N E C) = Rf (d + 31) 13 20 [.ref q, .int (nI ml.length), v2] [] (CST h q n lv rs p' nc l' W N E C' w m) := by
      intro d h q v2 H
      simp only [x13_2, x13_3, x13_5, x13_8, x13_12, xc13_9 kcP (jc d h q H), c10, litZ, ↓reduceIte]
    have mo2 : ∀ d h o A B, MF h o A B → LO h → 32 ≤ o → Rf (d + 31) 144 2 [.ref o, .int (nI ml.length)] [] (MS h o p 0 l X) = Rf (d + 31) 144 31 [.ref o, .int (nI (ml.length + 1))] [] (MS h o p' 0 l' X2) := by
      intro d h o A B F L ho
      have O := fun pt op md => ocf (pt := pt) (op := op) (md := md) F
      simp only [x144_2, x144_3, x144_7, x144_10, x144_11, x144_12, x144_15, x144_16, x144_19, x144_22, x144_23, x144_26, x144_27, x144_28, x144_29, x144_30, xc144_4 (kcM F) (jm d h o A B F L ho), MS_o, MS_1, MS_X, O, aT_i, aN_i, aF_i, ixL, Zc.2.1, i226, nI_1, litZ, true_or, and_self, ↓reduceIte]
      rw [eX]
    have q4 : X2 4 = nI n := Z2.1
    generalize eW : (if w < 3 then upd W nc (nI w) else W) = W2 at I2
    generalize eN : (if w < 3 then upd N nc (nI m) else N) = N2 at I2
    generalize eE : (if w < 3 then upd E nc (nI l') else E) = E2 at I2
    generalize elv : (if w = 3 then nI m else lv) = lv2 at I2
    generalize ers : (if w = 4 then nI m else rs) = rs2 at I2
    generalize enc : (if w < 3 then nc + 1 else nc) = nc2 at I2
    have eS : ∀ h q, CST h q n lv rs p' nc l' W N E C' w m = PS h q n lv2 rs2 p' nc2 l' W2 N2 E2 C' := fun h q => by
      rw [CST_PS hw, eW, eN, eE, elv, ers, enc]
    by_cases hend : p' = n
    · have he2 : (nI p' = nI n) = True := eq_true (by rw [hend])
      have ht : ¬ tk u n p' 59 := fun z => by have := z.1; omega
      refine ⟨true, p', 0, l', lv2, rs2, nc2, W2, N2, E2, C', X2, ml2, b2, sX, fun _ => ⟨I2, e226, by omega⟩, fun d h q v2 H => ?_, fun d h o A B F L ho => ?_⟩
      · rw [cl2 d h q v2 H, eS]
        obtain ⟨h1, h2, -⟩ := id H
        by_cases h9 : nI ml.length + 1 < 10
        · simp only [x13_20, x13_21, x13_22, x13_23, x13_25, x13_28, x13_29, x13_34, x13_41, x13_42, x13_43, x13_44, x13_47, x13_48, x13_51, x13_52, x13_55, x13_56, x13_59, x13_60, x13_63, x13_64, x13_67, xc13_31 kcP (tk_n (d := d + 30) H b2 (by decide) ht), show (59 : Int32) = nI 59 from rfl, h9, PS_q, PS_1, hcf, h1, h2, he2, true_or, or_true, and_self, eq_self, ↓reduceIte]
        · simp only [x13_20, x13_21, x13_22, x13_23, x13_25, x13_41, x13_42, x13_43, x13_44, x13_47, x13_48, x13_51, x13_52, x13_55, x13_56, x13_59, x13_60, x13_63, x13_64, x13_67, h9, PS_q, PS_1, hcf, h1, h2, he2, true_or, or_true, and_self, eq_self, ↓reduceIte]
      · have O := fun pt op md => ocf (pt := pt) (op := op) (md := md) F
        rw [mo2 d h o A B F L ho]
        simp only [x144_31, x144_32, x144_35, x144_36, x144_39, x144_40, x144_41, x144_44, x144_45, MS_o, MS_1, O, aT_i, aN_i, aF_i, ixL, q4, he2, bv, retI_z1, true_or, and_self, eq_self, ↓reduceIte]
    have hpn : ¬ nI p' = nI n := fun z => hend ((nI_eq (by omega) (by omega)).mp z)
    have mo3 : ∀ d h o A B, MF h o A B → LO h → 32 ≤ o → Rf (d + 31) 144 2 [.ref o, .int (nI ml.length)] [] (MS h o p 0 l X) = Rf (d + 31) 144 46 [.ref o, .int (nI (ml.length + 1))] [] (MS h o p' 0 l' X2) := by
      intro d h o A B F L ho
      have O := fun pt op md => ocf (pt := pt) (op := op) (md := md) F
      rw [mo2 d h o A B F L ho]
      simp only [x144_31, x144_32, x144_35, x144_36, x144_39, x144_40, x144_41, MS_o, MS_1, O, aT_i, aN_i, aF_i, ixL, q4, hpn, true_or, and_self, ↓reduceIte]
    by_cases h9 : ml.length + 1 < 10 ∧ tk u n p' 59
    · obtain ⟨h91, h92⟩ := h9
      have c9 : nI (ml.length + 1) < 10 := nI_lt (a := ml.length + 1) (b := 10) h91 (by decide)
      have c9b : ¬ nI (ml.length + 1) = 10 := fun z => by
        have := (nI_eq (a := ml.length + 1) (b := 10) (by omega) (by decide)).mp z
        omega
      obtain ⟨r, p3, op3, l3, lv3, rs3, nc3, W3, N3, E3, C3, X3, ml3, q1, q2, q3, kc, km⟩ := ih (p' + 1) l' C' lv2 rs2 nc2 W2 N2 E2 X2 ml2 (by omega) h92.1 (by omega) (by omega) Z2 I2
      refine ⟨r, p3, op3, l3, lv3, rs3, nc3, W3, N3, E3, C3, X3, ml3, q1, fun i hi => (q2 i hi).trans (sX i hi), q3, fun d h q v2 H => ?_, fun d h o A B F L ho => ?_⟩
      · have e1 := kc d h q (.int 1) H
        rw [hlen2] at e1
        rw [cl2 d h q v2 H, eS]
        simp only [x13_20, x13_21, x13_22, x13_23, x13_25, x13_28, x13_29, x13_34, x13_37, x13_38, x13_41, x13_42, x13_43, x13_44, x13_68, x13_71, xc13_31 kcP (tk_y (d := d + 30) H b2 (by decide) h92), show (59 : Int32) = nI 59 from rfl, nI_1, c9, litZ, ↓reduceIte]
        exact e1
      · have e1 := km d h o A B F L ho
        rw [hlen2] at e1
        rw [mo3 d h o A B F L ho]
        simp only [x144_46, x144_47, x144_49, x144_52, x144_53, x144_58, xc144_55 (kcM F) (is_y (d := d + 29) F Z2 b2 (by decide) h92), show (59 : Int32) = nI 59 from rfl, c9b, litZ, ↓reduceIte]
        exact e1
    · refine ⟨false, p', 0, l', lv2, rs2, nc2, W2, N2, E2, C', X2, ml2, b2, sX, fun z => absurd z (by decide), fun d h q v2 H => ?_, fun d h o A B F L ho => ?_⟩
      · rw [cl2 d h q v2 H, eS]
        obtain ⟨h1, h2, -⟩ := id H
        by_cases h91 : ml.length + 1 < 10
        · have ht : ¬ tk u n p' 59 := fun z => h9 ⟨h91, z⟩
          have c9 : nI (ml.length + 1) < 10 := nI_lt (a := ml.length + 1) (b := 10) h91 (by decide)
          simp only [x13_20, x13_21, x13_22, x13_23, x13_25, x13_28, x13_29, x13_34, x13_41, x13_42, x13_43, x13_44, x13_47, x13_48, x13_51, x13_52, x13_55, x13_56, x13_59, x13_60, x13_63, x13_64, x13_67, xc13_31 kcP (tk_n (d := d + 30) H b2 (by decide) ht), show (59 : Int32) = nI 59 from rfl, nI_1, c9, PS_q, PS_1, hcf, h1, h2, hpn, Bool.false_eq_true, true_or, or_true, and_self, ↓reduceIte]
        · have c9 : ¬ nI (ml.length + 1) < 10 := nI_nlt (a := ml.length + 1) (b := 10) (by omega) (by omega)
          simp only [x13_20, x13_21, x13_22, x13_23, x13_25, x13_41, x13_42, x13_43, x13_44, x13_47, x13_48, x13_51, x13_52, x13_55, x13_56, x13_59, x13_60, x13_63, x13_64, x13_67, nI_1, c9, PS_q, PS_1, hcf, h1, h2, hpn, Bool.false_eq_true, true_or, or_true, and_self, ↓reduceIte]
      · rw [mo3 d h o A B F L ho]
        by_cases h91 : ml.length + 1 < 10
        · have ht : ¬ tk u n p' 59 := fun z => h9 ⟨h91, z⟩
          have c9b : ¬ nI (ml.length + 1) = 10 := fun z => by
            have := (nI_eq (a := ml.length + 1) (b := 10) (by omega) (by decide)).mp z
            omega
          simp only [x144_46, x144_47, x144_49, x144_52, x144_53, x144_58, x144_61, x144_62, xc144_55 (kcM F) (is_n (d := d + 29) F Z2 b2 (by decide) ht), show (59 : Int32) = nI 59 from rfl, c9b, bv, retI_z0, ↓reduceIte]
        · have c9b : nI (ml.length + 1) = 10 := by
            rw [show ml.length + 1 = 10 by omega]
            rfl
          simp only [x144_46, x144_47, x144_49, x144_61, x144_62, c9b, bv, retI_z0, ↓reduceIte]
end WL
