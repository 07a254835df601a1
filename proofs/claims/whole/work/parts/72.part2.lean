-- deps: 71.part
section PT2
variable {n g op need dc : Nat} {u : Nat → Nat}
theorem s33 {c p : Nat} (hc : c ≤ 127) (hu : ∀ i, i < n → u i ≤ 127) (ht : ¬ tk u n p c) : (sg u n p = nI c) = False := (sg_is hc hu).trans (eq_false ht)
/-- with all open that may be -/
theorem J_F5 (hn : n < 100) : JJ n g u 5 0 19 142 10 (fun q => [.ref q, .int (nI 5), noV, noV, noV]) (fun o => [.ref o, noV, noV, noV, noV]) := by
  intro p l C hp hl
  have c5 : ¬ nI 5 < 5 := by decide
  have q5 : (nI 5 = 5) = True := eq_true rfl
  by_cases ht : tk u n p 33 ∨ tk u n p 40
  · refine ⟨false, p, l, C, 5, ⟨Nat.le_refl _, hp, Nat.le_refl _, Nat.le_of_eq (Nat.add_comm _ _), fun _ _ => rfl, fun z => absurd z (by decide)⟩, fun d h q lv rs nc W N E H => ?_, fun d h o A B X F Z => ?_⟩
    · have hu := HB_u H
      have hs : sg u n p = nI 33 ∨ sg u n p = nI 40 := by
        rcases ht with z | z
        · exact Or.inl (by rw [sg_is (by decide) hu]; exact z)
        · exact Or.inr (by rw [sg_is (by decide) hu]; exact z)
      have e1 : tO u n 8 p = -1 := by
        rw [tO_8 hu]
        rcases hs with z | z <;> rw [z] <;> decide
      have y1 := tO_n (d := d + 5) (lv := lv) (rs := rs) (nc := nc) (l := l) (W := W) (N := N) (E := E) (C := C) H hp (t := 8) (by decide) (by rw [e1]; decide)
      rw [e1] at y1
      simp only [x19_0, x19_1, x19_2, x19_38, x19_39, x19_40, x19_77, x19_78, x19_83, x19_84, x19_85, x19_88, x19_89, x19_92, x19_93, x19_98, x19_99, x19_100, x19_103, x19_104, x19_111, x19_113, x19_115, x19_140, x19_141, xc19_80 kcP y1, c5, show (-1 : Int32) < 0 from by decide, retI_z0, bv, ↓reduceIte]
    · have O := fun pt => ocf (pt := pt) (op := 5) (md := l) F
      have hu := XO_u Z
      have y1 := sp_sign (d := d + 9) (op := 5) (md := l) F Z hp
      rw [CX_rf]
      rcases ht with z | z
      · rw [show sg u n p = nI 33 by rw [sg_is (by decide) hu]; exact z] at y1
        simp only [x142_0, x142_4, x142_5, x142_6, x142_8, x142_11, x142_12, x142_14, x142_17, x142_18, x142_21, x142_22, x142_25, x142_26, xc142_1 (kcM F) y1, MS_o, O, q5, show (nI 33 = (33 : Int32)) = True from eq_true rfl, retI_z0, bv, and_self, ↓reduceIte]
      · rw [show sg u n p = nI 40 by rw [sg_is (by decide) hu]; exact z] at y1
        simp only [x142_0, x142_4, x142_5, x142_6, x142_8, x142_11, x142_12, x142_14, x142_17, x142_18, x142_21, x142_22, x142_25, x142_26, xc142_1 (kcM F) y1, MS_o, O, q5, show (nI 40 = (40 : Int32)) = True from eq_true rfl, ite_self, retI_z0, bv, and_self, ↓reduceIte]
  · have h33 : ¬ tk u n p 33 := fun z => ht (Or.inl z)
    have h40 : ¬ tk u n p 40 := fun z => ht (Or.inr z)
    obtain ⟨r, p', l', C', ok, jc, jm⟩ := J_t (g := g) (u := u) (op := 5) hn p l C hp hl
    refine ⟨r, p', l', C', 5, ok, fun d h q lv rs nc W N E H => ?_, fun d h o A B X F Z => ?_⟩
    · have e := jc (d + 4) h q lv rs nc W N E H
      simp only [x19_0, x19_1, x19_2, x19_38, x19_39, x19_40, c5, ↓reduceIte]
      exact e
    · have hu := XO_u Z
      have e := jm (d + 7) h o A B X F Z
      have y1 := sp_sign (d := d + 9) (op := 5) (md := l) F Z hp
      have n33 : (sg u n p = 33) = False := s33 (c := 33) (by decide) hu h33
      have n40 : (sg u n p = 40) = False := s33 (c := 40) (by decide) hu h40
      simp only [x142_0, x142_4, x142_5, x142_6, x142_8, x142_11, x142_12, x142_14, xc142_1 (kcM F) y1, n33, n40, ↓reduceIte]
      exact e
theorem J_F (hn : n < 100) (h5 : op < 5) (hdc : 8 ≤ dc) (JF : JJ n g u (op + 1) need 19 142 dc (fun q => [.ref q, .int (nI (op + 1)), noV, noV, noV]) (fun o => [.ref o, noV, noV, noV, noV])) (JE : JJ n g u (op + 1) (need + 2) 17 140 (dc + 2) (fun q => [.ref q, .int (nI (op + 1)), noV, noV]) (fun o => [.ref o])) : JJ n g u op (need + 2) 19 142 (dc + 3) (fun q => [.ref q, .int (nI op), noV, noV, noV]) (fun o => [.ref o, noV, noV, noV, noV]) := by
  intro p l C hp hl
  have c5 : nI op < 5 := nI_lt (a := op) (b := 5) h5 (by decide)
  have q5 : (nI op = 5) = False := eq_false fun z => by
    have := (nI_eq (a := op) (b := 5) (by omega) (by decide)).mp z
    omega
  have om1 : nI (op + 1) - 1 = nI op := pk_sub (b := 1) (by omega)
  by_cases t33 : tk u n p 33
  · have hp1 : p + 1 ≤ n := t33.1
    obtain ⟨r1, p1, l1, C1, op1, ⟨o1, o2, o3, o4, o5, o6⟩, jc, jm⟩ := JF (p + 1) l C hp1 (by omega)
    cases r1 with
    | false =>
      refine ⟨false, p1, l1, C1, op1, ⟨by omega, o2, o3, by omega, o5, fun z => absurd z (by decide)⟩, fun d h q lv rs nc W N E H => ?_, fun d h o A B X F Z => ?_⟩
      · have e1 := Rf_up (show d + dc ≤ d + dc + 2 by omega) (jc d h q lv rs nc W N E H)
        simp only [bv] at e1
        show Rf (d + dc + 2 + 1) 19 0 _ _ _ = _
        simp only [x19_0, x19_1, x19_2, x19_5, x19_6, x19_11, x19_14, x19_15, x19_16, x19_17, x19_21, x19_24, x19_25, x19_29, x19_32, x19_33, x19_36, x19_37, xc19_8 kcP (tk_y (d := d + dc + 2) H hp (by decide) t33), xc19_18 kcP e1, show (33 : Int32) = nI 33 from rfl, c5, litZ, nI_1, retI_z0, bv, ↓reduceIte]
      · have hu := XO_u Z
        have O := fun pt op => ocf (pt := pt) (op := op) (md := l) F
        have y1 := sp_sign (d := d + dc + 2) (op := op) (md := l) F Z hp
        rw [show sg u n p = nI 33 by rw [sg_is (by decide) hu]; exact t33] at y1
        have e1 := Rf_up (show d + dc ≤ d + dc + 2 by omega) (jm d h o A B X F Z)
        simp only [bv] at e1
        show Rf (d + dc + 2 + 1) 142 0 _ _ _ = _
        simp only [x142_0, x142_4, x142_5, x142_6, x142_8, x142_11, x142_12, x142_14, x142_17, x142_18, x142_21, x142_22, x142_25, x142_26, x142_27, x142_28, x142_29, x142_32, x142_33, x142_34, x142_37, x142_38, x142_39, x142_42, x142_43, x142_44, x142_47, x142_48, x142_50, x142_53, x142_57, x142_60, x142_61, xc142_1 (kcM F) y1, xc142_54 (kcM F) e1, MS_o, O, MS_pt (nI_1 p), MS_op (nI_1 op), q5, show (nI 33 = (33 : Int32)) = True from eq_true rfl, retI_z0, bv, and_self, ↓reduceIte]
    | true =>
      obtain ⟨o7, o8, o9⟩ := o6 rfl
      subst o8
      have hl1 : l1 < n := by omega
      refine ⟨true, p1, l1 + 1, upd C1 l1 (-1), op, ⟨by omega, o2, by omega, by omega, fun i hi => by rw [upd_at, if_neg (by omega)]; exact o5 i hi, fun _ => ⟨by omega, rfl, fun dd hd => ?_⟩⟩, fun d h q lv rs nc W N E H => ?_, fun d h o A B X F Z => ?_⟩
      · rw [show l1 + 1 - l = (l1 - l) + 1 by omega, rnD_add, rnD_cg (C := C1) (l1 - l) l dd (fun j x y => by rw [upd_at, if_neg (by omega)]), o9 dd (by omega)]
        show rnD (upd C1 l1 (-1)) (l + (l1 - l)) 1 (dd + 1) = _
        have := (dp_2 dd).2.2
        rw [show l + (l1 - l) = l1 by omega]
        simp only [rnD, upd_at, ↓reduceIte, this]
      · have e1 := Rf_up (show d + dc ≤ d + dc + 2 by omega) (jc d h q lv rs nc W N E H)
        simp only [bv] at e1
        show Rf (d + dc + 2 + 1) 19 0 _ _ _ = _
        simp only [x19_0, x19_1, x19_2, x19_5, x19_6, x19_11, x19_14, x19_15, x19_16, x19_17, x19_21, x19_24, x19_25, x19_29, x19_32, x19_33, x19_36, x19_37, xc19_8 kcP (tk_y (d := d + dc + 2) H hp (by decide) t33), xc19_18 kcP e1, xc19_26 kcP (sp_emit (d := d + dc + 2) hl1 hn), show (33 : Int32) = nI 33 from rfl, c5, litZ, nI_1, retI_z1, bv, ↓reduceIte]
      · have hu := XO_u Z
        have O := fun pt op md => ocf (pt := pt) (op := op) (md := md) F
        have y1 := sp_sign (d := d + dc + 2) (op := op) (md := l) F Z hp
        rw [show sg u n p = nI 33 by rw [sg_is (by decide) hu]; exact t33] at y1
        have e1 := Rf_up (show d + dc ≤ d + dc + 2 by omega) (jm d h o A B X F Z)
        simp only [bv] at e1
        have e3 := sp_put (d := d + dc + 2) (op := op + 1) (pt := p1) (v := -3) F (XO_CX (l := l) (l' := l1) (C := C1) Z) (md := l1) (by omega)
        have e4 : upd (CX X g l l1 C1) (431 + 100 * g + l1) (-3) = CX X g l (l1 + 1) (upd C1 l1 (-1)) := CX_put o3 (by decide)
        rw [e4] at e3
        show Rf (d + dc + 2 + 1) 142 0 _ _ _ = _
        simp only [x142_0, x142_4, x142_5, x142_6, x142_8, x142_11, x142_12, x142_14, x142_17, x142_18, x142_21, x142_22, x142_25, x142_26, x142_27, x142_28, x142_29, x142_32, x142_33, x142_34, x142_37, x142_38, x142_39, x142_42, x142_43, x142_44, x142_47, x142_48, x142_50, x142_53, x142_57, x142_60, x142_61, x142_62, x142_63, x142_68, x142_71, x142_75, x142_78, x142_79, x142_84, x142_87, x142_88, x142_89, x142_90, x142_91, x142_94, x142_95, x142_96, x142_99, x142_100, xc142_1 (kcM F) y1, xc142_54 (kcM F) e1, xc142_65 (kcM F) e3, MS_o, O, MS_pt (nI_1 p), MS_op (nI_1 op), MS_op om1, q5, show (nI 33 = (33 : Int32)) = True from eq_true rfl, litZ, retI_z1, bv, and_self, ↓reduceIte]
  · by_cases t40 : tk u n p 40
    · have hp1 : p + 1 ≤ n := t40.1
      obtain ⟨r1, p1, l1, C1, op1, ⟨o1, o2, o3, o4, o5, o6⟩, jc, jm⟩ := JE (p + 1) l C hp1 (by omega)
      cases r1 with
      | false =>
        refine ⟨false, p1, l1, C1, op1, ⟨by omega, o2, o3, by omega, o5, fun z => absurd z (by decide)⟩, fun d h q lv rs nc W N E H => ?_, fun d h o A B X F Z => ?_⟩
        · have e1 := Rf_up (show d + (dc + 2) ≤ d + dc + 2 by omega) (jc d h q lv rs nc W N E H)
          simp only [bv] at e1
          show Rf (d + dc + 2 + 1) 19 0 _ _ _ = _
          simp only [x19_0, x19_1, x19_2, x19_5, x19_6, x19_11, x19_38, x19_39, x19_40, x19_43, x19_44, x19_49, x19_52, x19_53, x19_54, x19_55, x19_59, x19_62, x19_63, x19_68, x19_71, x19_72, x19_75, x19_76, xc19_8 kcP (tk_n (d := d + dc + 2) H hp (by decide) t33), xc19_46 kcP (tk_y (d := d + dc + 2) H hp (by decide) t40), xc19_56 kcP e1, show (33 : Int32) = nI 33 from rfl, show (40 : Int32) = nI 40 from rfl, c5, litZ, nI_1, retI_z0, bv, ↓reduceIte]
        · have hu := XO_u Z
          have O := fun pt op => ocf (pt := pt) (op := op) (md := l) F
          have y1 := sp_sign (d := d + dc + 2) (op := op) (md := l) F Z hp
          rw [show sg u n p = nI 40 by rw [sg_is (by decide) hu]; exact t40] at y1
          have e1 := Rf_up (show d + (dc + 2) ≤ d + dc + 2 by omega) (jm d h o A B X F Z)
          simp only [bv] at e1
          show Rf (d + dc + 2 + 1) 142 0 _ _ _ = _
          simp only [x142_0, x142_4, x142_5, x142_6, x142_8, x142_11, x142_12, x142_14, x142_17, x142_18, x142_21, x142_22, x142_25, x142_26, x142_27, x142_28, x142_29, x142_32, x142_33, x142_34, x142_37, x142_38, x142_39, x142_42, x142_43, x142_44, x142_47, x142_48, x142_50, x142_71, x142_75, x142_78, x142_79, x142_84, x142_87, x142_88, xc142_1 (kcM F) y1, xc142_72 (kcM F) e1, MS_o, O, MS_pt (nI_1 p), MS_op (nI_1 op), q5, show (nI 40 = (33 : Int32)) = False from eq_false (by decide), show (nI 40 = (40 : Int32)) = True from eq_true rfl, retI_z0, bv, and_self, ↓reduceIte]
      | true =>
        obtain ⟨o7, o8, o9⟩ := o6 rfl
        subst o8
        by_cases t41 : tk u n p1 41
        · refine ⟨true, p1 + 1, l1, C1, op, ⟨by omega, t41.1, o3, by omega, o5, fun _ => ⟨by omega, rfl, fun dd hd => o9 dd hd⟩⟩, fun d h q lv rs nc W N E H => ?_, fun d h o A B X F Z => ?_⟩
          · have e1 := Rf_up (show d + (dc + 2) ≤ d + dc + 2 by omega) (jc d h q lv rs nc W N E H)
            simp only [bv] at e1
            show Rf (d + dc + 2 + 1) 19 0 _ _ _ = _
            simp only [x19_0, x19_1, x19_2, x19_5, x19_6, x19_11, x19_38, x19_39, x19_40, x19_43, x19_44, x19_49, x19_52, x19_53, x19_54, x19_55, x19_59, x19_62, x19_63, x19_68, x19_71, x19_72, x19_75, x19_76, xc19_8 kcP (tk_n (d := d + dc + 2) H hp (by decide) t33), xc19_46 kcP (tk_y (d := d + dc + 2) H hp (by decide) t40), xc19_56 kcP e1, xc19_65 kcP (tk_y (d := d + dc + 2) H o2 (by decide) t41), show (33 : Int32) = nI 33 from rfl, show (40 : Int32) = nI 40 from rfl, show (41 : Int32) = nI 41 from rfl, c5, litZ, nI_1, retI_z1, bv, ↓reduceIte]
          · have hu := XO_u Z
            have O := fun pt op md => ocf (pt := pt) (op := op) (md := md) F
            have y1 := sp_sign (d := d + dc + 2) (op := op) (md := l) F Z hp
            rw [show sg u n p = nI 40 by rw [sg_is (by decide) hu]; exact t40] at y1
            have e1 := Rf_up (show d + (dc + 2) ≤ d + dc + 2 by omega) (jm d h o A B X F Z)
            simp only [bv] at e1
            have e2 := is_y (d := d + dc + 1) (op := op + 1) (md := l1) F (XO_CX (l := l) (l' := l1) (C := C1) Z) o2 (by decide) t41
            show Rf (d + dc + 2 + 1) 142 0 _ _ _ = _
            simp only [x142_0, x142_4, x142_5, x142_6, x142_8, x142_11, x142_12, x142_14, x142_17, x142_18, x142_21, x142_22, x142_25, x142_26, x142_27, x142_28, x142_29, x142_32, x142_33, x142_34, x142_37, x142_38, x142_39, x142_42, x142_43, x142_44, x142_47, x142_48, x142_50, x142_71, x142_75, x142_78, x142_79, x142_84, x142_87, x142_88, x142_89, x142_90, x142_91, x142_94, x142_95, x142_96, x142_99, x142_100, xc142_1 (kcM F) y1, xc142_72 (kcM F) e1, xc142_81 (kcM F) e2, MS_o, O, MS_pt (nI_1 p), MS_op (nI_1 op), MS_op om1, q5, show (nI 40 = (33 : Int32)) = False from eq_false (by decide), show (nI 40 = (40 : Int32)) = True from eq_true rfl, show (41 : Int32) = nI 41 from rfl, litZ, retI_z1, bv, and_self, ↓reduceIte]
        · refine ⟨false, p1, l1, C1, op + 1, ⟨by omega, o2, o3, by omega, o5, fun z => absurd z (by decide)⟩, fun d h q lv rs nc W N E H => ?_, fun d h o A B X F Z => ?_⟩
          · have e1 := Rf_up (show d + (dc + 2) ≤ d + dc + 2 by omega) (jc d h q lv rs nc W N E H)
            simp only [bv] at e1
            show Rf (d + dc + 2 + 1) 19 0 _ _ _ = _
            simp only [x19_0, x19_1, x19_2, x19_5, x19_6, x19_11, x19_38, x19_39, x19_40, x19_43, x19_44, x19_49, x19_52, x19_53, x19_54, x19_55, x19_59, x19_62, x19_63, x19_68, x19_71, x19_72, x19_75, x19_76, xc19_8 kcP (tk_n (d := d + dc + 2) H hp (by decide) t33), xc19_46 kcP (tk_y (d := d + dc + 2) H hp (by decide) t40), xc19_56 kcP e1, xc19_65 kcP (tk_n (d := d + dc + 2) H o2 (by decide) t41), show (33 : Int32) = nI 33 from rfl, show (40 : Int32) = nI 40 from rfl, show (41 : Int32) = nI 41 from rfl, c5, litZ, nI_1, retI_z0, bv, ↓reduceIte]
          · have hu := XO_u Z
            have O := fun pt op md => ocf (pt := pt) (op := op) (md := md) F
            have y1 := sp_sign (d := d + dc + 2) (op := op) (md := l) F Z hp
            rw [show sg u n p = nI 40 by rw [sg_is (by decide) hu]; exact t40] at y1
            have e1 := Rf_up (show d + (dc + 2) ≤ d + dc + 2 by omega) (jm d h o A B X F Z)
            simp only [bv] at e1
            have e2 := is_n (d := d + dc + 1) (op := op + 1) (md := l1) F (XO_CX (l := l) (l' := l1) (C := C1) Z) o2 (by decide) t41
            show Rf (d + dc + 2 + 1) 142 0 _ _ _ = _
            simp only [x142_0, x142_4, x142_5, x142_6, x142_8, x142_11, x142_12, x142_14, x142_17, x142_18, x142_21, x142_22, x142_25, x142_26, x142_27, x142_28, x142_29, x142_32, x142_33, x142_34, x142_37, x142_38, x142_39, x142_42, x142_43, x142_44, x142_47, x142_48, x142_50, x142_71, x142_75, x142_78, x142_79, x142_84, x142_87, x142_88, xc142_1 (kcM F) y1, xc142_72 (kcM F) e1, xc142_81 (kcM F) e2, MS_o, O, MS_pt (nI_1 p), MS_op (nI_1 op), q5, show (nI 40 = (33 : Int32)) = False from eq_false (by decide), show (nI 40 = (40 : Int32)) = True from eq_true rfl, show (41 : Int32) = nI 41 from rfl, litZ, retI_z0, bv, and_self, ↓reduceIte]
    · obtain ⟨r, p', l', C', ok, jc, jm⟩ := J_t (g := g) (u := u) (op := op) hn p l C hp hl
      refine ⟨r, p', l', C', op, ⟨ok.1, ok.2.1, ok.2.2.1, ok.2.2.2.1, ok.2.2.2.2.1, fun z => ⟨(ok.2.2.2.2.2 z).1, rfl, fun dd hd => (ok.2.2.2.2.2 z).2.2 dd (by omega)⟩⟩, fun d h q lv rs nc W N E H => ?_, fun d h o A B X F Z => ?_⟩
      · have e := Rf_up (show d + 6 ≤ d + dc + 2 + 1 by omega) (jc d h q lv rs nc W N E H)
        show Rf (d + dc + 2 + 1) 19 0 _ _ _ = _
        simp only [x19_0, x19_1, x19_2, x19_5, x19_6, x19_11, x19_38, x19_39, x19_40, x19_43, x19_44, x19_49, xc19_8 kcP (tk_n (d := d + dc + 2) H hp (by decide) t33), xc19_46 kcP (tk_n (d := d + dc + 2) H hp (by decide) t40), show (33 : Int32) = nI 33 from rfl, show (40 : Int32) = nI 40 from rfl, c5, ↓reduceIte]
        exact e
      · have hu := XO_u Z
        have e := Rf_up (show d + 3 ≤ d + dc + 2 + 1 by omega) (jm d h o A B X F Z)
        have y1 := sp_sign (d := d + dc + 2) (op := op) (md := l) F Z hp
        have n33 : (sg u n p = 33) = False := s33 (c := 33) (by decide) hu t33
        have n40 : (sg u n p = 40) = False := s33 (c := 40) (by decide) hu t40
        show Rf (d + dc + 2 + 1) 142 0 _ _ _ = _
        simp only [x142_0, x142_4, x142_5, x142_6, x142_8, x142_11, x142_12, x142_14, xc142_1 (kcM F) y1, n33, n40, ↓reduceIte]
        exact e
/-- E with none open -/
theorem J_all (hn : n < 100) : JJ n g u 0 12 17 140 27 (fun q => [.ref q, .int (nI 0), noV, noV]) (fun o => [.ref o]) := by
  have f5 := J_F5 (g := g) (u := u) hn
  have t5 := J_T hn (by decide) f5 (fun _ => rfl) (fun _ => rfl)
  have e5 := J_E hn (by decide) t5 (fun _ => rfl) (fun _ => rfl)
  have f4 := J_F (op := 4) hn (by decide) (by decide) f5 e5
  have t4 := J_T hn (by decide) f4 (fun _ => rfl) (fun _ => rfl)
  have e4 := J_E hn (by decide) t4 (fun _ => rfl) (fun _ => rfl)
  have f3 := J_F (op := 3) hn (by decide) (by decide) f4 e4
  have t3 := J_T hn (by decide) f3 (fun _ => rfl) (fun _ => rfl)
  have e3 := J_E hn (by decide) t3 (fun _ => rfl) (fun _ => rfl)
  have f2 := J_F (op := 2) hn (by decide) (by decide) f3 e3
  have t2 := J_T hn (by decide) f2 (fun _ => rfl) (fun _ => rfl)
  have e2 := J_E hn (by decide) t2 (fun _ => rfl) (fun _ => rfl)
  have f1 := J_F (op := 1) hn (by decide) (by decide) f2 e2
  have t1 := J_T hn (by decide) f1 (fun _ => rfl) (fun _ => rfl)
  have e1 := J_E hn (by decide) t1 (fun _ => rfl) (fun _ => rfl)
  have f0 := J_F (op := 0) hn (by decide) (by decide) f1 e1
  have t0 := J_T hn (by decide) f0 (fun _ => rfl) (fun _ => rfl)
  exact J_E hn (by decide) t0 (fun _ => rfl) (fun _ => rfl)
end PT2
