-- deps: 69.expr
section E2
variable {n g op need dc : Nat} {u : Nat → Nat}
theorem J_T {lcI lmI : Nat → List Value} (hn : n < 100) (hdc : 2 ≤ dc) (J : JJ n g u op need 19 142 dc lcI lmI) (hlc : ∀ q, lcI q = [.ref q, .int (nI op)] ++ [noV, noV, noV]) (hlm : ∀ o, lmI o = [.ref o] ++ [noV, noV, noV, noV]) : JJ n g u op (need + 1) 18 141 (dc + 1) (fun q => [.ref q, .int (nI op), noV, noV]) (fun o => [.ref o]) := by
  intro p l C hp hl
  obtain ⟨r1, p1, l1, C1, op1, ⟨o1, o2, o3, o4, o5, o6⟩, jc, jm⟩ := J p l C hp hl
  cases r1 with
  | false =>
    refine ⟨false, p1, l1, C1, op1, ⟨o1, o2, o3, o4, o5, fun z => absurd z (by decide)⟩, fun d h q lv rs nc W N E H => ?_, fun d h o A B X F Z => ?_⟩
    · have e1 := jc d h q lv rs nc W N E H
      rw [hlc] at e1
      simp only [bv, List.cons_append, List.nil_append] at e1
      show Rf (d + dc + 1) 18 0 _ _ _ = _
      simp only [x18_0, x18_1, x18_5, x18_6, x18_7, x18_8, x18_9, x18_56, x18_57, xc18_2 kcP e1, retI_z0, bv, ↓reduceIte]
    · have e1 := jm d h o A B X F Z
      rw [hlm] at e1
      simp only [bv, List.cons_append, List.nil_append] at e1
      show Rf (d + dc + 1) 141 0 _ _ _ = _
      simp only [x141_0, x141_4, x141_7, x141_8, xc141_1 (kcM F) e1, retI_z0, bv, ↓reduceIte]
  | true =>
    obtain ⟨o7, o8, o9⟩ := o6 rfl
    subst o8
    obtain ⟨r, p', l', C', op', q1, q2, q3, q4, q5, q6, kc, km⟩ := lp_T hn hdc J hlc hlm (n - p1) p1 l1 C1 0 (Nat.le_refl _) o2 (by omega) (Nat.zero_le _)
    refine ⟨r, p', l', C', op', ⟨by omega, q2, by omega, by omega, fun j hj => by rw [q5 j (by omega)]; exact o5 j hj, fun z => ⟨by omega, (q6 z).1, fun dd hd => ?_⟩⟩, fun d h q lv rs nc W N E H => ?_, fun d h o A B X F Z => ?_⟩
    · rw [show l' - l = (l1 - l) + (l' - l1) by omega, rnD_add, rnD_cg (C := C1) (l1 - l) l dd (fun j x y => q5 j (by omega)), o9 dd (by omega)]
      show rnD C' (l + (l1 - l)) (l' - l1) (dd + 1) = _
      rw [show l + (l1 - l) = l1 by omega]
      exact (q6 z).2 dd (by omega)
    · have e1 := jc d h q lv rs nc W N E H
      rw [hlc] at e1
      simp only [bv, List.cons_append, List.nil_append] at e1
      have e2 := kc d h q lv rs nc W N E H
      rw [nI_0] at e2
      show Rf (d + dc + 1) 18 0 _ _ _ = _
      simp only [x18_0, x18_1, x18_5, x18_6, x18_7, xc18_2 kcP e1]
      exact e2
    · have e1 := jm d h o A B X F Z
      rw [hlm] at e1
      simp only [bv, List.cons_append, List.nil_append] at e1
      have e2 := km d h o A B _ F (XO_CX (l := l) (l' := l1) (C := C1) Z)
      rw [CX_tr o3 q3 q5] at e2
      show Rf (d + dc + 1) 141 0 _ _ _ = _
      simp only [x141_0, x141_4, x141_7, x141_8, xc141_1 (kcM F) e1, litZ, ↓reduceIte]
      exact e2
theorem J_E {lcI lmI : Nat → List Value} (hn : n < 100) (hdc : 2 ≤ dc) (J : JJ n g u op need 18 141 dc lcI lmI) (hlc : ∀ q, lcI q = [.ref q, .int (nI op)] ++ [noV, noV]) (hlm : ∀ o, lmI o = [.ref o] ++ []) : JJ n g u op (need + 1) 17 140 (dc + 1) (fun q => [.ref q, .int (nI op), noV, noV]) (fun o => [.ref o]) := by
  intro p l C hp hl
  obtain ⟨r1, p1, l1, C1, op1, ⟨o1, o2, o3, o4, o5, o6⟩, jc, jm⟩ := J p l C hp hl
  cases r1 with
  | false =>
    refine ⟨false, p1, l1, C1, op1, ⟨o1, o2, o3, o4, o5, fun z => absurd z (by decide)⟩, fun d h q lv rs nc W N E H => ?_, fun d h o A B X F Z => ?_⟩
    · have e1 := jc d h q lv rs nc W N E H
      rw [hlc] at e1
      simp only [bv, List.cons_append, List.nil_append] at e1
      show Rf (d + dc + 1) 17 0 _ _ _ = _
      simp only [x17_0, x17_1, x17_5, x17_6, x17_7, x17_8, x17_9, x17_56, x17_57, xc17_2 kcP e1, retI_z0, bv, ↓reduceIte]
    · have e1 := jm d h o A B X F Z
      rw [hlm] at e1
      simp only [bv, List.cons_append, List.nil_append] at e1
      show Rf (d + dc + 1) 140 0 _ _ _ = _
      simp only [x140_0, x140_4, x140_7, x140_8, xc140_1 (kcM F) e1, retI_z0, bv, ↓reduceIte]
  | true =>
    obtain ⟨o7, o8, o9⟩ := o6 rfl
    subst o8
    obtain ⟨r, p', l', C', op', q1, q2, q3, q4, q5, q6, kc, km⟩ := lp_E hn hdc J hlc hlm (n - p1) p1 l1 C1 0 (Nat.le_refl _) o2 (by omega) (Nat.zero_le _)
    refine ⟨r, p', l', C', op', ⟨by omega, q2, by omega, by omega, fun j hj => by rw [q5 j (by omega)]; exact o5 j hj, fun z => ⟨by omega, (q6 z).1, fun dd hd => ?_⟩⟩, fun d h q lv rs nc W N E H => ?_, fun d h o A B X F Z => ?_⟩
    · rw [show l' - l = (l1 - l) + (l' - l1) by omega, rnD_add, rnD_cg (C := C1) (l1 - l) l dd (fun j x y => q5 j (by omega)), o9 dd (by omega)]
      show rnD C' (l + (l1 - l)) (l' - l1) (dd + 1) = _
      rw [show l + (l1 - l) = l1 by omega]
      exact (q6 z).2 dd (by omega)
    · have e1 := jc d h q lv rs nc W N E H
      rw [hlc] at e1
      simp only [bv, List.cons_append, List.nil_append] at e1
      have e2 := kc d h q lv rs nc W N E H
      rw [nI_0] at e2
      show Rf (d + dc + 1) 17 0 _ _ _ = _
      simp only [x17_0, x17_1, x17_5, x17_6, x17_7, xc17_2 kcP e1]
      exact e2
    · have e1 := jm d h o A B X F Z
      rw [hlm] at e1
      simp only [bv, List.cons_append, List.nil_append] at e1
      have e2 := km d h o A B _ F (XO_CX (l := l) (l' := l1) (C := C1) Z)
      rw [CX_tr o3 q3 q5] at e2
      show Rf (d + dc + 1) 140 0 _ _ _ = _
      simp only [x140_0, x140_4, x140_7, x140_8, xc140_1 (kcM F) e1, litZ, ↓reduceIte]
      exact e2
/-- the letters, the comparisons -/
def ltF (c : Int32) : Int32 := if c = 119 then 0 else if c = 107 then 1 else if c = 108 then 2 else if c = 112 then 3 else if c = 117 then 4 else if c = 121 then 5 else -1
def cmF (c : Int32) : Int32 := if c = 60 then 0 else if c = 61 then 1 else if c = 62 then 2 else -1
theorem lt_tab : ∀ c, c ≤ 127 → ixF (fun j => (sby 8).getD j 0) (nI c) 0 (sby 8).length = ltF (nI c) := by decide +kernel
theorem cm_tab : ∀ c, c ≤ 127 → ixF (fun j => (sby 9).getD j 0) (nI c) 0 (sby 9).length = cmF (nI c) := by decide +kernel
theorem tO_8 {p : Nat} (hu : ∀ i, i < n → u i ≤ 127) : tO u n 8 p = ltF (sg u n p) := by
  unfold tO sg
  by_cases h1 : p < n
  · rw [if_pos h1, if_pos h1, lt_tab _ (hu p h1)]
  · rw [if_neg h1, if_neg h1]; decide
theorem tO_9 {p : Nat} (hu : ∀ i, i < n → u i ≤ 127) : tO u n 9 p = cmF (sg u n p) := by
  unfold tO sg
  by_cases h1 : p < n
  · rw [if_pos h1, if_pos h1, cm_tab _ (hu p h1)]
  · rw [if_neg h1, if_neg h1]; decide
theorem lt_run {d o : Nat} {h : AHp} {c : Int32} {v2 v3 v4 : Value} : Rf d 142 101 [.ref o, .int c, v2, v3, v4] [] h = Rf d 142 163 [.ref o, .int c, .int (ltF c), v3, v4] [] h := by
  unfold ltF
  by_cases h1 : c = 119
  · simp only [x142_101, x142_102, x142_104, x142_107, x142_108, x142_111, x142_112, x142_114, x142_117, x142_118, x142_121, x142_122, x142_124, x142_127, x142_128, x142_131, x142_132, x142_134, x142_137, x142_138, x142_141, x142_142, x142_144, x142_147, x142_148, x142_151, x142_152, x142_154, x142_157, x142_158, x142_161, x142_162, eq_true h1, ↓reduceIte]
  by_cases h2 : c = 107
  · simp only [x142_101, x142_102, x142_104, x142_107, x142_108, x142_111, x142_112, x142_114, x142_117, x142_118, x142_121, x142_122, x142_124, x142_127, x142_128, x142_131, x142_132, x142_134, x142_137, x142_138, x142_141, x142_142, x142_144, x142_147, x142_148, x142_151, x142_152, x142_154, x142_157, x142_158, x142_161, x142_162, h1, eq_true h2, ↓reduceIte]
  by_cases h3 : c = 108
  · simp only [x142_101, x142_102, x142_104, x142_107, x142_108, x142_111, x142_112, x142_114, x142_117, x142_118, x142_121, x142_122, x142_124, x142_127, x142_128, x142_131, x142_132, x142_134, x142_137, x142_138, x142_141, x142_142, x142_144, x142_147, x142_148, x142_151, x142_152, x142_154, x142_157, x142_158, x142_161, x142_162, h1, h2, eq_true h3, ↓reduceIte]
  by_cases h4 : c = 112
  · simp only [x142_101, x142_102, x142_104, x142_107, x142_108, x142_111, x142_112, x142_114, x142_117, x142_118, x142_121, x142_122, x142_124, x142_127, x142_128, x142_131, x142_132, x142_134, x142_137, x142_138, x142_141, x142_142, x142_144, x142_147, x142_148, x142_151, x142_152, x142_154, x142_157, x142_158, x142_161, x142_162, h1, h2, h3, eq_true h4, ↓reduceIte]
  by_cases h5 : c = 117
  · simp only [x142_101, x142_102, x142_104, x142_107, x142_108, x142_111, x142_112, x142_114, x142_117, x142_118, x142_121, x142_122, x142_124, x142_127, x142_128, x142_131, x142_132, x142_134, x142_137, x142_138, x142_141, x142_142, x142_144, x142_147, x142_148, x142_151, x142_152, x142_154, x142_157, x142_158, x142_161, x142_162, h1, h2, h3, h4, eq_true h5, ↓reduceIte]
  by_cases h6 : c = 121
  · simp only [x142_101, x142_102, x142_104, x142_107, x142_108, x142_111, x142_112, x142_114, x142_117, x142_118, x142_121, x142_122, x142_124, x142_127, x142_128, x142_131, x142_132, x142_134, x142_137, x142_138, x142_141, x142_142, x142_144, x142_147, x142_148, x142_151, x142_152, x142_154, x142_157, x142_158, x142_161, x142_162, h1, h2, h3, h4, h5, eq_true h6, ↓reduceIte]
  · simp only [x142_101, x142_102, x142_104, x142_107, x142_108, x142_111, x142_112, x142_114, x142_117, x142_118, x142_121, x142_122, x142_124, x142_127, x142_128, x142_131, x142_132, x142_134, x142_137, x142_138, x142_141, x142_142, x142_144, x142_147, x142_148, x142_151, x142_152, x142_154, x142_157, x142_158, x142_161, x142_162, h1, h2, h3, h4, h5, h6, ↓reduceIte]
theorem cm_run {d o : Nat} {h : AHp} {c : Int32} {v2 v3 v4 : Value} : Rf d 142 184 [.ref o, .int c, v2, v3, v4] [] h = Rf d 142 216 [.ref o, .int c, v2, .int (cmF c), v4] [] h := by
  unfold cmF
  by_cases h1 : c = 60
  · simp only [x142_184, x142_185, x142_187, x142_190, x142_191, x142_194, x142_195, x142_197, x142_200, x142_201, x142_204, x142_205, x142_207, x142_210, x142_211, x142_214, x142_215, eq_true h1, ↓reduceIte]
  by_cases h2 : c = 61
  · simp only [x142_184, x142_185, x142_187, x142_190, x142_191, x142_194, x142_195, x142_197, x142_200, x142_201, x142_204, x142_205, x142_207, x142_210, x142_211, x142_214, x142_215, h1, eq_true h2, ↓reduceIte]
  by_cases h3 : c = 62
  · simp only [x142_184, x142_185, x142_187, x142_190, x142_191, x142_194, x142_195, x142_197, x142_200, x142_201, x142_204, x142_205, x142_207, x142_210, x142_211, x142_214, x142_215, h1, h2, eq_true h3, ↓reduceIte]
  · simp only [x142_184, x142_185, x142_187, x142_190, x142_191, x142_194, x142_195, x142_197, x142_200, x142_201, x142_204, x142_205, x142_207, x142_210, x142_211, x142_214, x142_215, h1, h2, h3, ↓reduceIte]
theorem lt_ok (c : Int32) : ltF c = -1 ∨ ∃ a, a ≤ 5 ∧ ltF c = nI a := by
  unfold ltF
  repeat' split
  · exact Or.inr ⟨0, by decide, rfl⟩
  · exact Or.inr ⟨1, by decide, rfl⟩
  · exact Or.inr ⟨2, by decide, rfl⟩
  · exact Or.inr ⟨3, by decide, rfl⟩
  · exact Or.inr ⟨4, by decide, rfl⟩
  · exact Or.inr ⟨5, by decide, rfl⟩
  · exact Or.inl rfl
theorem cm_ok (c : Int32) : cmF c = -1 ∨ ∃ a, a ≤ 2 ∧ cmF c = nI a := by
  unfold cmF
  repeat' split
  · exact Or.inr ⟨0, by decide, rfl⟩
  · exact Or.inr ⟨1, by decide, rfl⟩
  · exact Or.inr ⟨2, by decide, rfl⟩
  · exact Or.inl rfl
end E2
