-- deps: 66.start2
/-! READING A HOUSE: both readers' states, their first steps. -/
def hce (q : Nat) (lv rs : Int32) (p nc l : Nat) : va_E := .inr (3, [.int lv, .int rs, .ref (q + 1), .int (nI p), .int (nI nc), .ref (q + 2), .ref (q + 3), .ref (q + 4), .ref (q + 5), .int (nI l)])
def PS (h : AHp) (q n : Nat) (lv rs : Int32) (p nc l : Nat) (W N E C : Nat → Int32) : AHp := (fun a => if a = q then hce q lv rs p nc l else if a = q + 2 then .inl (0, 10, .inl W) else if a = q + 3 then .inl (0, 10, .inl N) else if a = q + 4 then .inl (0, 10, .inl E) else if a = q + 5 then .inl (0, n, .inl C) else h.1 a, h.2)
theorem hcf (q : Nat) (lv rs : Int32) (p nc l : Nat) : cls (hce q lv rs p nc l) = 3 ∧ oL (hce q lv rs p nc l) = 10 ∧ oKi (hce q lv rs p nc l) 0 = true ∧ oKi (hce q lv rs p nc l) 1 = true ∧ oKr (hce q lv rs p nc l) 2 = true ∧ oR (hce q lv rs p nc l) 2 = q + 1 ∧ oKi (hce q lv rs p nc l) 3 = true ∧ oN (hce q lv rs p nc l) 3 = nI p ∧ oKi (hce q lv rs p nc l) 4 = true ∧ oN (hce q lv rs p nc l) 4 = nI nc ∧ oKr (hce q lv rs p nc l) 5 = true ∧ oR (hce q lv rs p nc l) 5 = q + 2 ∧ oKr (hce q lv rs p nc l) 6 = true ∧ oR (hce q lv rs p nc l) 6 = q + 3 ∧ oKr (hce q lv rs p nc l) 7 = true ∧ oR (hce q lv rs p nc l) 7 = q + 4 ∧ oKr (hce q lv rs p nc l) 8 = true ∧ oR (hce q lv rs p nc l) 8 = q + 5 ∧ oKi (hce q lv rs p nc l) 9 = true ∧ oN (hce q lv rs p nc l) 9 = nI l := ⟨rfl, rfl, rfl, rfl, rfl, rfl, rfl, rfl, rfl, rfl, rfl, rfl, rfl, rfl, rfl, rfl, rfl, rfl, rfl, rfl⟩
/-- the class's reader: its text -/
def HB (h : AHp) (q n : Nat) (u : Nat → Nat) : Prop := aT (h.1 (q + 1)) = 1 ∧ aN (h.1 (q + 1)) = n ∧ (∀ i, i < n → aF (h.1 (q + 1)) i = nI (u i) ∧ u i ≤ 127) ∧ LO h ∧ 32 ≤ q ∧ n < 100
section PR1
variable {d q n p nc l c : Nat} {h : AHp} {lv rs : Int32} {W N E C : Nat → Int32} {u : Nat → Nat}
theorem PS_q : (PS h q n lv rs p nc l W N E C).1 q = hce q lv rs p nc l := if_pos rfl
theorem PS_ne {a : Nat} (h0 : ¬ a = q) (h2 : ¬ a = q + 2) (h3 : ¬ a = q + 3) (h4 : ¬ a = q + 4) (h5 : ¬ a = q + 5) : (PS h q n lv rs p nc l W N E C).1 a = h.1 a := by
  simp only [PS, h0, h2, h3, h4, h5, ↓reduceIte]
theorem PS_1 : (PS h q n lv rs p nc l W N E C).1 (q + 1) = h.1 (q + 1) := PS_ne (by omega) (by omega) (by omega) (by omega) (by omega)
theorem PS_2 : (PS h q n lv rs p nc l W N E C).1 (q + 2) = .inl (0, 10, .inl W) := by
  simp only [PS, show ¬ q + 2 = q by omega, ↓reduceIte]
theorem PS_3 : (PS h q n lv rs p nc l W N E C).1 (q + 3) = .inl (0, 10, .inl N) := by
  simp only [PS, show ¬ q + 3 = q by omega, show ¬ q + 3 = q + 2 by omega, ↓reduceIte]
theorem PS_4 : (PS h q n lv rs p nc l W N E C).1 (q + 4) = .inl (0, 10, .inl E) := by
  simp only [PS, show ¬ q + 4 = q by omega, show ¬ q + 4 = q + 2 by omega, show ¬ q + 4 = q + 3 by omega, ↓reduceIte]
theorem PS_5 : (PS h q n lv rs p nc l W N E C).1 (q + 5) = .inl (0, n, .inl C) := by
  simp only [PS, show ¬ q + 5 = q by omega, show ¬ q + 5 = q + 2 by omega, show ¬ q + 5 = q + 3 by omega, show ¬ q + 5 = q + 4 by omega, ↓reduceIte]
theorem PS_ext {lv' rs' : Int32} {p' nc' l' : Nat} : hset (PS h q n lv rs p nc l W N E C) q (hce q lv' rs' p' nc' l') = PS h q n lv' rs' p' nc' l' W N E C := by
  unfold hset PS
  refine Prod.ext (funext fun a => ?_) rfl
  simp only
  by_cases e : a = q
  · simp only [e, ↓reduceIte]
  · simp only [e, ↓reduceIte]
theorem PS_p {x : Int32} (e : x = nI c) : hset (PS h q n lv rs p nc l W N E C) q (oSet (hce q lv rs p nc l) 3 (.int x)) = PS h q n lv rs c nc l W N E C := by
  subst e; exact PS_ext
theorem PS_l {x : Int32} (e : x = nI c) : hset (PS h q n lv rs p nc l W N E C) q (oSet (hce q lv rs p nc l) 9 (.int x)) = PS h q n lv rs p nc c W N E C := by
  subst e; exact PS_ext
theorem PS_nc {x : Int32} (e : x = nI c) : hset (PS h q n lv rs p nc l W N E C) q (oSet (hce q lv rs p nc l) 4 (.int x)) = PS h q n lv rs p c l W N E C := by
  subst e; exact PS_ext
theorem PS_lv {x : Int32} : hset (PS h q n lv rs p nc l W N E C) q (oSet (hce q lv rs p nc l) 0 (.int x)) = PS h q n x rs p nc l W N E C := PS_ext
theorem PS_rs {x : Int32} : hset (PS h q n lv rs p nc l W N E C) q (oSet (hce q lv rs p nc l) 1 (.int x)) = PS h q n lv x p nc l W N E C := PS_ext
theorem PS_C {C' : Nat → Int32} : hset (PS h q n lv rs p nc l W N E C) (q + 5) (.inl (0, n, .inl C')) = PS h q n lv rs p nc l W N E C' := by
  unfold hset PS
  refine Prod.ext (funext fun a => ?_) rfl
  simp only
  by_cases e : a = q + 5
  · subst e
    simp only [show ¬ q + 5 = q by omega, show ¬ q + 5 = q + 2 by omega, show ¬ q + 5 = q + 3 by omega, show ¬ q + 5 = q + 4 by omega, ↓reduceIte]
  · simp only [e, ↓reduceIte]
theorem PS_W {C' : Nat → Int32} : hset (PS h q n lv rs p nc l W N E C) (q + 2) (.inl (0, 10, .inl C')) = PS h q n lv rs p nc l C' N E C := by
  unfold hset PS
  refine Prod.ext (funext fun a => ?_) rfl
  simp only
  by_cases e : a = q + 2
  · subst e
    simp only [show ¬ q + 2 = q by omega, ↓reduceIte]
  · simp only [e, ↓reduceIte]
theorem PS_N {C' : Nat → Int32} : hset (PS h q n lv rs p nc l W N E C) (q + 3) (.inl (0, 10, .inl C')) = PS h q n lv rs p nc l W C' E C := by
  unfold hset PS
  refine Prod.ext (funext fun a => ?_) rfl
  simp only
  by_cases e : a = q + 3
  · subst e
    simp only [show ¬ q + 3 = q by omega, show ¬ q + 3 = q + 2 by omega, ↓reduceIte]
  · simp only [e, ↓reduceIte]
theorem PS_E {C' : Nat → Int32} : hset (PS h q n lv rs p nc l W N E C) (q + 4) (.inl (0, 10, .inl C')) = PS h q n lv rs p nc l W N C' C := by
  unfold hset PS
  refine Prod.ext (funext fun a => ?_) rfl
  simp only
  by_cases e : a = q + 4
  · subst e
    simp only [show ¬ q + 4 = q by omega, show ¬ q + 4 = q + 2 by omega, show ¬ q + 4 = q + 3 by omega, ↓reduceIte]
  · simp only [e, ↓reduceIte]
theorem HB_LO (H : HB h q n u) : LO (PS h q n lv rs p nc l W N E C) := by
  obtain ⟨h1, h2, h3, h4, h5, h6⟩ := H
  exact LO_lo h4 (fun a ha => PS_ne (by omega) (by omega) (by omega) (by omega) (by omega))
/-- is the sign c there? -/
def tk (u : Nat → Nat) (n p c : Nat) : Prop := p < n ∧ u p = c
noncomputable def tkD (u : Nat → Nat) (n p c : Nat) : Decidable (tk u n p c) := Classical.propDecidable _
theorem tk_y (H : HB h q n u) (hp : p ≤ n) (hc : c ≤ 127) (ht : tk u n p c) : Rf d 21 0 [.ref q, .int (nI c)] [] (PS h q n lv rs p nc l W N E C) = some (some (.int 1), PS h q n lv rs (p + 1) nc l W N E C) := by
  obtain ⟨h1, h2, h3, h4, h5, h6⟩ := H
  obtain ⟨t1, t2⟩ := ht
  have c1 : nI p < nI n := nI_lt t1 (by omega)
  have c2 : inB (nI p) n = true := nI_inB t1 (by omega)
  have c3 : (nI p).toNatClampNeg = p := nI_clamp (by omega)
  have c4 := (h3 p t1).1
  rw [t2] at c4
  simp only [x21_0, x21_1, x21_4, x21_5, x21_8, x21_9, x21_12, x21_13, x21_16, x21_17, x21_20, x21_21, x21_22, x21_25, x21_26, x21_27, x21_28, x21_29, x21_32, x21_33, x21_34, x21_37, x21_38, PS_q, PS_1, hcf, h1, h2, c1, c2, c3, c4, PS_p (nI_1 p), retI_z1, true_or, or_true, and_self, eq_self, ↓reduceIte]
theorem tk_n (H : HB h q n u) (hp : p ≤ n) (hc : c ≤ 127) (ht : ¬ tk u n p c) : Rf d 21 0 [.ref q, .int (nI c)] [] (PS h q n lv rs p nc l W N E C) = some (some (.int 0), PS h q n lv rs p nc l W N E C) := by
  obtain ⟨h1, h2, h3, h4, h5, h6⟩ := H
  by_cases t1 : p < n
  · have t2 : ¬ u p = c := fun z => ht ⟨t1, z⟩
    have c1 : nI p < nI n := nI_lt t1 (by omega)
    have c2 : inB (nI p) n = true := nI_inB t1 (by omega)
    have c3 : (nI p).toNatClampNeg = p := nI_clamp (by omega)
    obtain ⟨c4, c5⟩ := h3 p t1
    have c6 : ¬ nI (u p) = nI c := fun z => t2 ((nI_eq (by omega) (by omega)).mp z)
    simp only [x21_0, x21_1, x21_4, x21_5, x21_8, x21_9, x21_12, x21_13, x21_16, x21_17, x21_20, x21_21, x21_22, x21_25, x21_26, PS_q, PS_1, hcf, h1, h2, c1, c2, c3, c4, c6, retI_z0, true_or, or_true, and_self, ↓reduceIte]
  · have c1 : ¬ nI p < nI n := nI_nlt (by omega) (by omega)
    simp only [x21_0, x21_1, x21_4, x21_5, x21_8, x21_9, x21_12, x21_13, x21_16, x21_17, x21_20, x21_21, x21_22, x21_25, x21_26, PS_q, PS_1, hcf, h1, h2, c1, retI_z0, true_or, or_true, and_self, ↓reduceIte]
/-- which of a text's signs is there? -/
def tO (u : Nat → Nat) (n t p : Nat) : Int32 := if p < n then ixF (fun j => (sby t).getD j 0) (nI (u p)) 0 (sby t).length else -1
theorem i2c_b : ∀ k, k ≤ 127 → ((nI k).toUInt32 % 65536).toInt32 = nI k := by decide +kernel
theorem tO_y (H : HB h q n u) (hp : p ≤ n) {t : Nat} (ht : t < 15) (hv : ¬ tO u n t p < 0) : Rf (d + 4) 23 0 [.ref q, .ref t, noV] [] (PS h q n lv rs p nc l W N E C) = some (some (.int (tO u n t p)), PS h q n lv rs (p + 1) nc l W N E C) := by
  have L := HB_LO (lv := lv) (rs := rs) (p := p) (nc := nc) (l := l) (W := W) (N := N) (E := E) (C := C) H
  obtain ⟨h1, h2, h3, h4, h5, h6⟩ := H
  have t1 : p < n := by
    refine Decidable.byContradiction fun z => hv ?_
    unfold tO
    rw [if_neg z]
    decide
  have c1 : nI p < nI n := nI_lt t1 (by omega)
  have c2 : inB (nI p) n = true := nI_inB t1 (by omega)
  have c3 : (nI p).toNatClampNeg = p := nI_clamp (by omega)
  obtain ⟨c4, c5⟩ := h3 p t1
  have e := sp_indexOf (d := d) L ht c5
  have k : cls ((PS h q n lv rs p nc l W N E C).1 t) = 13 := by rw [(L t ht).1]; rfl
  unfold tO at hv ⊢
  rw [if_pos t1] at hv ⊢
  simp only [x23_0, x23_1, x23_4, x23_5, x23_8, x23_9, x23_12, x23_13, x23_14, x23_17, x23_18, x23_21, x23_22, x23_26, x23_29, x23_30, x23_31, x23_32, x23_35, x23_36, x23_37, x23_40, x23_41, x23_42, x23_45, x23_46, xc23_23 k e, PS_q, PS_1, hcf, h1, h2, c1, c2, c3, c4, i2c_b _ c5, hv, PS_p (nI_1 p), true_or, or_true, and_self, ↓reduceIte]
theorem tO_n (H : HB h q n u) (hp : p ≤ n) {t : Nat} (ht : t < 15) (hv : tO u n t p < 0) : Rf (d + 4) 23 0 [.ref q, .ref t, noV] [] (PS h q n lv rs p nc l W N E C) = some (some (.int (tO u n t p)), PS h q n lv rs p nc l W N E C) := by
  have L := HB_LO (lv := lv) (rs := rs) (p := p) (nc := nc) (l := l) (W := W) (N := N) (E := E) (C := C) H
  obtain ⟨h1, h2, h3, h4, h5, h6⟩ := H
  by_cases t1 : p < n
  · have c1 : nI p < nI n := nI_lt t1 (by omega)
    have c2 : inB (nI p) n = true := nI_inB t1 (by omega)
    have c3 : (nI p).toNatClampNeg = p := nI_clamp (by omega)
    obtain ⟨c4, c5⟩ := h3 p t1
    have e := sp_indexOf (d := d) L ht c5
    have k : cls ((PS h q n lv rs p nc l W N E C).1 t) = 13 := by rw [(L t ht).1]; rfl
    unfold tO at hv ⊢
    rw [if_pos t1] at hv ⊢
    simp only [x23_0, x23_1, x23_4, x23_5, x23_8, x23_9, x23_12, x23_13, x23_14, x23_17, x23_18, x23_21, x23_22, x23_26, x23_29, x23_30, x23_31, x23_32, x23_45, x23_46, xc23_23 k e, PS_q, PS_1, hcf, h1, h2, c1, c2, c3, c4, i2c_b _ c5, hv, true_or, or_true, and_self, ↓reduceIte]
  · have c1 : ¬ nI p < nI n := nI_nlt (by omega) (by omega)
    unfold tO at hv ⊢
    rw [if_neg t1] at hv ⊢
    simp only [x23_0, x23_1, x23_4, x23_5, x23_8, x23_9, x23_12, x23_13, x23_14, x23_17, x23_18, x23_21, x23_22, x23_26, x23_29, x23_30, x23_31, x23_32, x23_45, x23_46, PS_q, PS_1, hcf, h1, h2, c1, hv, true_or, or_true, and_self, ↓reduceIte]
theorem sp_emit {v : Int32} (hl : l < n) (hn : n < 100) : Rf d 24 0 [.ref q, .int v] [] (PS h q n lv rs p nc l W N E C) = some (some (.int 1), PS h q n lv rs p nc (l + 1) W N E (upd C l v)) := by
  have c1 : nI l < nI n := nI_lt hl (by omega)
  have c2 : inB (nI l) n = true := nI_inB hl (by omega)
  have c3 : (nI l).toNatClampNeg = l := nI_clamp (by omega)
  simp only [x24_0, x24_1, x24_4, x24_5, x24_8, x24_9, x24_12, x24_13, x24_14, x24_15, x24_18, x24_19, x24_22, x24_23, x24_24, x24_25, x24_26, x24_29, x24_30, x24_31, x24_34, x24_35, PS_q, PS_5, hcf, aT_i, aN_i, aF_i, c1, c2, c3, PS_C, PS_l (nI_1 l), retI_z1, true_or, and_self, ↓reduceIte]
end PR1
/-- the model's reader -/
def oc3 (c : va_E) (pt op md : Nat) : va_E := oSet (oSet (oSet c 3 (.int (nI pt))) 4 (.int (nI op))) 5 (.int (nI md))
def MS (h : AHp) (o pt op md : Nat) (X : Nat → Int32) : AHp := (fun a => if a = o then oc3 (h.1 o) pt op md else if a = o + 1 then .inl (0, 931, .inl X) else h.1 a, h.2)
/-- the model's row: its tape, its house -/
def XO (X : Nat → Int32) (n g : Nat) (u : Nat → Nat) : Prop := X 4 = nI n ∧ X 1 = nI g ∧ (∀ i, i < n → X (126 + i) = nI (u i) ∧ u i ≤ 127) ∧ g < 5 ∧ n < 100
def sg (u : Nat → Nat) (n p : Nat) : Int32 := if p < n then nI (u p) else -1
section PR2
variable {d o n g pt op md c : Nat} {h : AHp} {X A B : Nat → Int32} {u : Nat → Nat}
theorem MS_o : (MS h o pt op md X).1 o = oc3 (h.1 o) pt op md := if_pos rfl
theorem MS_1 : (MS h o pt op md X).1 (o + 1) = .inl (0, 931, .inl X) := by
  simp only [MS, show ¬ o + 1 = o by omega, ↓reduceIte]
theorem MS_ne {a : Nat} (h0 : ¬ a = o) (h1 : ¬ a = o + 1) : (MS h o pt op md X).1 a = h.1 a := by
  simp only [MS, h0, h1, ↓reduceIte]
theorem ocf (F : MF h o A B) : cls (oc3 (h.1 o) pt op md) = 12 ∧ oL (oc3 (h.1 o) pt op md) = 12 ∧ oKr (oc3 (h.1 o) pt op md) 0 = true ∧ oR (oc3 (h.1 o) pt op md) 0 = o + 1 ∧ oKi (oc3 (h.1 o) pt op md) 3 = true ∧ oN (oc3 (h.1 o) pt op md) 3 = nI pt ∧ oKi (oc3 (h.1 o) pt op md) 4 = true ∧ oN (oc3 (h.1 o) pt op md) 4 = nI op ∧ oKi (oc3 (h.1 o) pt op md) 5 = true ∧ oN (oc3 (h.1 o) pt op md) 5 = nI md := by
  have l3 : 3 < oL (h.1 o) := by simp only [F]; decide
  have l4 : 4 < oL (oSet (h.1 o) 3 (.int (nI pt))) := by rw [oL_set]; simp only [F]; decide
  have l5 : 5 < oL (oSet (oSet (h.1 o) 3 (.int (nI pt))) 4 (.int (nI op))) := by rw [oL_set, oL_set]; simp only [F]; decide
  unfold oc3
  simp only [cls_set, oL_set, oN_eq l5, oKi_eq l5, oN_ne (show ¬ 4 = 5 by decide), oKi_ne (show ¬ 4 = 5 by decide), oN_eq l4, oKi_eq l4, oN_ne (show ¬ 3 = 5 by decide), oKi_ne (show ¬ 3 = 5 by decide), oN_ne (show ¬ 3 = 4 by decide), oKi_ne (show ¬ 3 = 4 by decide), oN_eq l3, oKi_eq l3, oKr_ne (show ¬ 0 = 5 by decide), oR_ne (show ¬ 0 = 5 by decide), oKr_ne (show ¬ 0 = 4 by decide), oR_ne (show ¬ 0 = 4 by decide), oKr_ne (show ¬ 0 = 3 by decide), oR_ne (show ¬ 0 = 3 by decide), F, and_self]
theorem oSet_cm {c : va_E} {i j : Nat} {v w : Value} (hij : i ≠ j) : oSet (oSet c i v) j w = oSet (oSet c j w) i v := by
  cases c with
  | inl x => rfl
  | inr o => simp only [oSet]; rw [List.set_comm _ _ hij]
theorem MS_ext {pt' op' md' : Nat} : hset (MS h o pt op md X) o (oc3 (h.1 o) pt' op' md') = MS h o pt' op' md' X := by
  unfold hset MS
  refine Prod.ext (funext fun a => ?_) rfl
  simp only
  by_cases e : a = o
  · simp only [e, ↓reduceIte]
  · simp only [e, ↓reduceIte]
theorem MS_pt {x : Int32} (e : x = nI c) : hset (MS h o pt op md X) o (oSet (oc3 (h.1 o) pt op md) 3 (.int x)) = MS h o c op md X := by
  subst e
  have : oSet (oc3 (h.1 o) pt op md) 3 (.int (nI c)) = oc3 (h.1 o) c op md := by
    unfold oc3
    rw [oSet_cm (show 5 ≠ 3 by decide), oSet_cm (show 4 ≠ 3 by decide), oSet_twice]
  rw [this]
  exact MS_ext
theorem MS_op {x : Int32} (e : x = nI c) : hset (MS h o pt op md X) o (oSet (oc3 (h.1 o) pt op md) 4 (.int x)) = MS h o pt c md X := by
  subst e
  have : oSet (oc3 (h.1 o) pt op md) 4 (.int (nI c)) = oc3 (h.1 o) pt c md := by
    unfold oc3
    rw [oSet_cm (show 5 ≠ 4 by decide), oSet_twice]
  rw [this]
  exact MS_ext
theorem MS_md {x : Int32} (e : x = nI c) : hset (MS h o pt op md X) o (oSet (oc3 (h.1 o) pt op md) 5 (.int x)) = MS h o pt op c X := by
  subst e
  have : oSet (oc3 (h.1 o) pt op md) 5 (.int (nI c)) = oc3 (h.1 o) pt op c := by
    unfold oc3
    rw [oSet_twice]
  rw [this]
  exact MS_ext
theorem MS_X {Y : Nat → Int32} : hset (MS h o pt op md X) (o + 1) (.inl (0, 931, .inl Y)) = MS h o pt op md Y := by
  unfold hset MS
  refine Prod.ext (funext fun a => ?_) rfl
  simp only
  by_cases e : a = o + 1
  · subst e
    simp only [show ¬ o + 1 = o by omega, ↓reduceIte]
  · simp only [e, ↓reduceIte]
theorem sg_y (h1 : pt < n) : sg u n pt = nI (u pt) := if_pos h1
theorem sg_is (hc : c ≤ 127) (hu : ∀ i, i < n → u i ≤ 127) : (sg u n pt = nI c) = tk u n pt c := by
  apply propext
  unfold sg tk
  by_cases h1 : pt < n
  · rw [if_pos h1]
    have := hu pt h1
    rw [nI_eq (by omega) (by omega)]
    exact ⟨fun e => ⟨h1, e⟩, fun e => e.2⟩
  · rw [if_neg h1]
    refine ⟨fun e => ?_, fun e => absurd e.1 h1⟩
    have : ¬ nI c < 0 := nI_pos (by omega)
    rw [← e] at this
    exact absurd (by decide) this
theorem sp_sign (F : MF h o A B) (Z : XO X n g u) (hp : pt ≤ n) : Rf d 134 0 [.ref o] [] (MS h o pt op md X) = some (some (.int (sg u n pt)), MS h o pt op md X) := by
  obtain ⟨z1, z2, z3, z4, z5⟩ := Z
  have O := ocf (pt := pt) (op := op) (md := md) F
  unfold sg
  by_cases h1 : pt < n
  · have c1 : nI pt < nI n := nI_lt h1 (by omega)
    have i126 : (126 : Int32) + nI pt = nI (126 + pt) ∧ inB (nI (126 + pt)) 931 = true ∧ (nI (126 + pt)).toNatClampNeg = 126 + pt := ixs 126 pt (by omega)
    simp only [x134_0, x134_1, x134_4, x134_5, x134_8, x134_9, x134_10, x134_13, x134_14, x134_17, x134_19, x134_20, x134_23, x134_24, x134_25, x134_28, x134_29, MS_o, MS_1, O, aT_i, aN_i, aF_i, ixL, z1, c1, i126, (z3 pt h1).1, h1, true_or, and_self, ↓reduceIte]
  · have c1 : ¬ nI pt < nI n := nI_nlt (by omega) (by omega)
    simp only [x134_0, x134_1, x134_4, x134_5, x134_8, x134_9, x134_10, x134_13, x134_14, x134_17, x134_19, x134_20, x134_23, x134_24, x134_25, x134_28, x134_29, MS_o, MS_1, O, aT_i, aN_i, aF_i, ixL, z1, c1, h1, true_or, and_self, ↓reduceIte]
theorem XO_u (Z : XO X n g u) : ∀ i, i < n → u i ≤ 127 := fun i hi => (Z.2.2.1 i hi).2
theorem is_y (F : MF h o A B) (Z : XO X n g u) (hp : pt ≤ n) (hc : c ≤ 127) (ht : tk u n pt c) : Rf (d + 1) 135 0 [.ref o, .int (nI c)] [] (MS h o pt op md X) = some (some (.int 1), MS h o (pt + 1) op md X) := by
  have O := ocf (pt := pt) (op := op) (md := md) F
  have e := sp_sign (d := d) (op := op) (md := md) F Z hp
  have s : (sg u n pt = nI c) = True := by rw [sg_is hc (XO_u Z)]; exact eq_true ht
  have k : cls ((MS h o pt op md X).1 o) = 12 := by rw [MS_o]; exact O.1
  simp only [x135_0, x135_4, x135_5, x135_8, x135_9, x135_10, x135_11, x135_12, x135_15, x135_16, x135_17, x135_20, x135_21, xc135_1 k e, MS_o, O, s, MS_pt (nI_1 pt), retI_z1, and_self, ↓reduceIte]
theorem is_n (F : MF h o A B) (Z : XO X n g u) (hp : pt ≤ n) (hc : c ≤ 127) (ht : ¬ tk u n pt c) : Rf (d + 1) 135 0 [.ref o, .int (nI c)] [] (MS h o pt op md X) = some (some (.int 0), MS h o pt op md X) := by
  have O := ocf (pt := pt) (op := op) (md := md) F
  have e := sp_sign (d := d) (op := op) (md := md) F Z hp
  have s : (sg u n pt = nI c) = False := by rw [sg_is hc (XO_u Z)]; exact eq_false ht
  have k : cls ((MS h o pt op md X).1 o) = 12 := by rw [MS_o]; exact O.1
  simp only [x135_0, x135_4, x135_5, x135_8, x135_9, xc135_1 k e, s, retI_z0, ↓reduceIte]
theorem sp_put (F : MF h o A B) (Z : XO X n g u) {v : Int32} (hm : md < 100) : Rf d 139 0 [.ref o, .int v] [] (MS h o pt op md X) = some (none, MS h o pt op (md + 1) (upd X (431 + 100 * g + md) v)) := by
  obtain ⟨z1, z2, z3, z4, z5⟩ := Z
  have O := ocf (pt := pt) (op := op) (md := md) F
  have e1 : (100 : Int32) * nI g = nI (100 * g) := pk_mul 100 g
  have e2 : (431 : Int32) + nI (100 * g) = nI (431 + 100 * g) := nI_add 431 (100 * g)
  have e3 : nI (431 + 100 * g) + nI md = nI (431 + 100 * g + md) := nI_add _ _
  have c2 : inB (nI (431 + 100 * g + md)) 931 = true := nI_inB (by omega) (by decide)
  have c3 : (nI (431 + 100 * g + md)).toNatClampNeg = 431 + 100 * g + md := nI_clamp (by omega)
  simp only [x139_0, x139_1, x139_4, x139_7, x139_9, x139_10, x139_13, x139_14, x139_15, x139_16, x139_17, x139_18, x139_19, x139_22, x139_23, x139_24, x139_25, x139_28, x139_29, x139_30, x139_31, MS_o, MS_1, O, MS_md (nI_1 md), aT_i, aN_i, aF_i, ixL, z2, e1, e2, e3, c2, c3, MS_X, true_or, and_self, ↓reduceIte]
end PR2
