-- deps: 70.expr2
section PT
variable {n g op need dc : Nat} {u : Nat → Nat}
theorem tO_lt {t p : Nat} (h : ¬ tO u n t p < 0) : p < n := by
  refine Decidable.byContradiction fun z => h ?_
  unfold tO
  rw [if_neg z]
  decide
theorem dp_t {T dd : Nat} (hT : T < 1800) (hd : dd < 20) : dp1 (nI T) dd = some (dd + 1) := by
  have h0 : ¬ nI T < 0 := nI_pos (by omega)
  have h1 : nI T < 1800 := nI_lt (a := T) (b := 1800) hT (by decide)
  have n1 : ¬ nI T = -1 := fun z => h0 (by rw [z]; decide)
  have n2 : ¬ (nI T = -2 ∨ nI T = -3) := fun z => h0 (by rcases z with z | z <;> rw [z] <;> decide)
  unfold dp1
  rw [if_neg n1, if_neg n2, if_pos ⟨⟨h0, h1⟩, hd⟩]
theorem mtok_t {T : Nat} (hT : T < 1800) : mtok (nI T) = nI T := by
  unfold mtok
  rw [if_neg (nI_pos (by omega))]
/-- a TEST -/
theorem J_t (hn : n < 100) : ∀ (p l : Nat) (C : Nat → Int32), p ≤ n → l ≤ p → ∃ (r : Bool) (p' l' : Nat) (C' : Nat → Int32), OK1 n p l C op 0 r p' l' C' op ∧
    (∀ d h q lv rs nc W N E, HB h q n u → Rf (d + 6) 19 77 [.ref q, .int (nI op), noV, noV, noV] [] (PS h q n lv rs p nc l W N E C) = some (some (.int (bv r)), PS h q n lv rs p' nc l' W N E C')) ∧
    (∀ d h o A B X, MF h o A B → XO X n g u → Rf (d + 3) 142 101 [.ref o, .int (sg u n p), noV, noV, noV] [] (MS h o p op l X) = some (some (.int (bv r)), MS h o p' op l' (CX X g l l' C'))) := by
  intro p l C hp hl
  rcases lt_ok (sg u n p) with a1 | ⟨a, ha, a1⟩
  · refine ⟨false, p, l, C, ⟨Nat.le_refl _, hp, Nat.le_refl _, Nat.le_of_eq (Nat.add_comm _ _), fun _ _ => rfl, fun z => absurd z (by decide)⟩, fun d h q lv rs nc W N E H => ?_, fun d h o A B X F Z => ?_⟩
    · have e1 : tO u n 8 p = -1 := (tO_8 (HB_u H)).trans a1
      have y1 := tO_n (d := d + 1) (lv := lv) (rs := rs) (nc := nc) (l := l) (W := W) (N := N) (E := E) (C := C) H hp (t := 8) (by decide) (by rw [e1]; decide)
      rw [e1] at y1
      simp only [x19_77, x19_78, x19_83, x19_84, x19_85, x19_88, x19_89, x19_92, x19_93, x19_98, x19_99, x19_100, x19_103, x19_104, x19_111, x19_113, x19_115, x19_140, x19_141, xc19_80 kcP y1, show (-1 : Int32) < 0 from by decide, retI_z0, bv, ↓reduceIte]
    · rw [lt_run, a1, CX_rf]
      simp only [x142_163, x142_164, x142_167, x142_168, show (-1 : Int32) < 0 from by decide, retI_z0, bv, ↓reduceIte]
  have a0 : ¬ nI a < 0 := nI_pos (by omega)
  by_cases hp0 : p < n
  rotate_left
  · exfalso
    unfold sg at a1
    rw [if_neg hp0, show ltF (-1) = -1 from by decide] at a1
    rw [← a1] at a0
    exact a0 (by decide)
  rcases cm_ok (sg u n (p + 1)) with b1 | ⟨b, hb, b1⟩
  · refine ⟨false, p + 1, l, C, ⟨Nat.le_succ _, hp0, Nat.le_refl _, by omega, fun _ _ => rfl, fun z => absurd z (by decide)⟩, fun d h q lv rs nc W N E H => ?_, fun d h o A B X F Z => ?_⟩
    · have e1 : tO u n 8 p = nI a := (tO_8 (HB_u H)).trans a1
      have y1 := tO_y (d := d + 1) (lv := lv) (rs := rs) (nc := nc) (l := l) (W := W) (N := N) (E := E) (C := C) H hp (t := 8) (by decide) (by rw [e1]; exact a0)
      rw [e1] at y1
      have e2 : tO u n 9 (p + 1) = -1 := (tO_9 (HB_u H)).trans b1
      have y2 := tO_n (d := d + 1) (lv := lv) (rs := rs) (nc := nc) (l := l) (W := W) (N := N) (E := E) (C := C) H hp0 (t := 9) (by decide) (by rw [e2]; decide)
      rw [e2] at y2
      simp only [x19_77, x19_78, x19_83, x19_84, x19_85, x19_88, x19_89, x19_92, x19_93, x19_98, x19_99, x19_100, x19_103, x19_104, x19_111, x19_113, x19_115, x19_140, x19_141, xc19_80 kcP y1, xc19_95 kcP y2, a0, show (-1 : Int32) < 0 from by decide, retI_z0, bv, ↓reduceIte]
    · have O := fun pt => ocf (pt := pt) (op := op) (md := l) F
      have s2 := sp_sign (d := d + 2) (op := op) (md := l) F Z (pt := p + 1) hp0
      rw [lt_run, a1, CX_rf]
      simp only [x142_163, x142_164, x142_167, x142_168, x142_169, x142_170, x142_171, x142_174, x142_175, x142_176, x142_179, x142_183, MS_o, O, MS_pt (nI_1 p), xc142_180 (kcM F) s2, a0, and_self, ↓reduceIte]
      rw [cm_run, b1]
      simp only [x142_216, x142_217, x142_220, x142_221, show (-1 : Int32) < 0 from by decide, retI_z0, bv, ↓reduceIte]
  have b0 : ¬ nI b < 0 := nI_pos (by omega)
  by_cases hp1 : p + 1 < n
  rotate_left
  · exfalso
    unfold sg at b1
    rw [if_neg hp1, show cmF (-1) = -1 from by decide] at b1
    rw [← b1] at b0
    exact b0 (by decide)
  have hp2 : p + 1 + 1 ≤ n := hp1
  rcases nv_ok (u := u) hp2 with ⟨c1, c2⟩ | ⟨m, hm, c1, c2, c3⟩
  · refine ⟨false, p + 1 + 1, l, C, ⟨by omega, hp2, Nat.le_refl _, by omega, fun _ _ => rfl, fun z => absurd z (by decide)⟩, fun d h q lv rs nc W N E H => ?_, fun d h o A B X F Z => ?_⟩
    · have e1 : tO u n 8 p = nI a := (tO_8 (HB_u H)).trans a1
      have y1 := tO_y (d := d + 1) (lv := lv) (rs := rs) (nc := nc) (l := l) (W := W) (N := N) (E := E) (C := C) H hp (t := 8) (by decide) (by rw [e1]; exact a0)
      rw [e1] at y1
      have e2 : tO u n 9 (p + 1) = nI b := (tO_9 (HB_u H)).trans b1
      have y2 := tO_y (d := d + 1) (lv := lv) (rs := rs) (nc := nc) (l := l) (W := W) (N := N) (E := E) (C := C) H hp0 (t := 9) (by decide) (by rw [e2]; exact b0)
      rw [e2] at y2
      have y3 := sp_readNumber (d := d) (lv := lv) (rs := rs) (nc := nc) (l := l) (W := W) (N := N) (E := E) (C := C) H hp2
      rw [c1, c2] at y3
      simp only [x19_77, x19_78, x19_83, x19_84, x19_85, x19_88, x19_89, x19_92, x19_93, x19_98, x19_99, x19_100, x19_103, x19_104, x19_107, x19_111, x19_113, x19_115, x19_140, x19_141, xc19_80 kcP y1, xc19_95 kcP y2, xc19_108 kcP y3, a0, b0, show (-1 : Int32) < 0 from by decide, retI_z0, bv, ↓reduceIte]
    · have O := fun pt => ocf (pt := pt) (op := op) (md := l) F
      have s2 := sp_sign (d := d + 2) (op := op) (md := l) F Z (pt := p + 1) hp0
      have s3 := sp_number (d := d + 1) (op := op) (md := l) F Z (pt := p + 1 + 1) hp2
      rw [c1, c2] at s3
      rw [lt_run, a1, CX_rf]
      simp only [x142_163, x142_164, x142_167, x142_168, x142_169, x142_170, x142_171, x142_174, x142_175, x142_176, x142_179, x142_183, MS_o, O, MS_pt (nI_1 p), xc142_180 (kcM F) s2, a0, and_self, ↓reduceIte]
      rw [cm_run, b1]
      simp only [x142_216, x142_217, x142_220, x142_221, x142_222, x142_223, x142_224, x142_227, x142_228, x142_229, x142_232, x142_236, x142_238, x142_240, x142_243, x142_244, MS_o, O, MS_pt (nI_1 (p + 1)), xc142_233 (kcM F) s3, b0, show (-1 : Int32) < 0 from by decide, retI_z0, bv, and_self, ↓reduceIte]
  have m0 : ¬ nI m < 0 := nI_pos (by omega)
  have hT : (a * 3 + b) * 100 + m < 1800 := by omega
  generalize hp3 : (nv u n (p + 1 + 1)).2 = p3 at c2 c3
  refine ⟨true, p3, l + 1, upd C l (nI ((a * 3 + b) * 100 + m)), ⟨by omega, c3, by omega, by omega, fun i hi => if_neg (by omega), fun _ => ⟨by omega, rfl, fun dd hd => ?_⟩⟩, fun d h q lv rs nc W N E H => ?_, fun d h o A B X F Z => ?_⟩
  · rw [Nat.add_sub_cancel_left]
    simp only [rnD, upd_at, ↓reduceIte, dp_t hT (show dd < 20 by omega)]
  · have e1 : tO u n 8 p = nI a := (tO_8 (HB_u H)).trans a1
    have y1 := tO_y (d := d + 1) (lv := lv) (rs := rs) (nc := nc) (l := l) (W := W) (N := N) (E := E) (C := C) H hp (t := 8) (by decide) (by rw [e1]; exact a0)
    rw [e1] at y1
    have e2 : tO u n 9 (p + 1) = nI b := (tO_9 (HB_u H)).trans b1
    have y2 := tO_y (d := d + 1) (lv := lv) (rs := rs) (nc := nc) (l := l) (W := W) (N := N) (E := E) (C := C) H hp0 (t := 9) (by decide) (by rw [e2]; exact b0)
    rw [e2] at y2
    have y3 := sp_readNumber (d := d) (lv := lv) (rs := rs) (nc := nc) (l := l) (W := W) (N := N) (E := E) (C := C) H hp2
    rw [c1, hp3] at y3
    have y4 := fun v => sp_emit (d := d + 5) (h := h) (q := q) (lv := lv) (rs := rs) (p := p3) (nc := nc) (W := W) (N := N) (E := E) (C := C) (v := v) (show l < n by omega) hn
    have f1 : nI a * 3 = nI (a * 3) := pk_mul a 3
    have f2 : nI (a * 3 + b) * 100 = nI ((a * 3 + b) * 100) := pk_mul _ 100
    simp only [x19_77, x19_78, x19_83, x19_84, x19_85, x19_88, x19_89, x19_92, x19_93, x19_98, x19_99, x19_100, x19_103, x19_104, x19_107, x19_111, x19_113, x19_115, x19_118, x19_119, x19_120, x19_121, x19_122, x19_123, x19_124, x19_126, x19_127, x19_129, x19_133, x19_136, x19_137, x19_140, x19_141, xc19_80 kcP y1, xc19_95 kcP y2, xc19_108 kcP y3, xc19_130 kcP (y4 _), a0, b0, m0, f1, f2, nI_add, litZ, retI_z1, bv, ↓reduceIte]
  · have O := fun pt => ocf (pt := pt) (op := op) (md := l) F
    have s2 := sp_sign (d := d + 2) (op := op) (md := l) F Z (pt := p + 1) hp0
    have s3 := sp_number (d := d + 1) (op := op) (md := l) F Z (pt := p + 1 + 1) hp2
    rw [c1, hp3] at s3
    have s4 := fun v => sp_put (d := d + 2) (op := op) (pt := p3) (v := v) F Z (md := l) (by omega)
    have f1 : (3 : Int32) * nI a = nI (3 * a) := pk_mul 3 a
    have f2 : (100 : Int32) * nI (3 * a + b) = nI (100 * (3 * a + b)) := pk_mul 100 _
    have f3 : nI (100 * (3 * a + b) + m) = nI ((a * 3 + b) * 100 + m) := by congr 1; omega
    have f4 : upd X (431 + 100 * g + l) (nI ((a * 3 + b) * 100 + m)) = CX X g l (l + 1) (upd C l (nI ((a * 3 + b) * 100 + m))) := by
      have := CX_put (X := X) (g := g) (C := C) (Nat.le_refl l) (mtok_t hT)
      rw [CX_rf] at this
      exact this
    rw [lt_run, a1]
    simp only [x142_163, x142_164, x142_167, x142_168, x142_169, x142_170, x142_171, x142_174, x142_175, x142_176, x142_179, x142_183, MS_o, O, MS_pt (nI_1 p), xc142_180 (kcM F) s2, a0, and_self, ↓reduceIte]
    rw [cm_run, b1]
    simp only [x142_216, x142_217, x142_220, x142_221, x142_222, x142_223, x142_224, x142_227, x142_228, x142_229, x142_232, x142_236, x142_238, x142_240, x142_243, x142_244, x142_245, x142_246, x142_248, x142_249, x142_250, x142_251, x142_252, x142_253, x142_254, x142_256, x142_260, x142_261, MS_o, O, MS_pt (nI_1 (p + 1)), xc142_233 (kcM F) s3, xc142_257 (kcM F) (s4 _), b0, m0, f1, f2, f3, f4, nI_add, retI_z1, bv, and_self, ↓reduceIte]
end PT
