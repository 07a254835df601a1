-- deps: 67.prims
/-! A NUMBER. -/
abbrev dgt (u : Nat → Nat) (n p : Nat) : Prop := p < n ∧ 48 ≤ u p ∧ u p ≤ 57
def nv (u : Nat → Nat) (n p : Nat) : Int32 × Nat := if dgt u n p then (if u p = 48 ∨ ¬ dgt u n (p + 1) then (nI (u p - 48), p + 1) else (nI (10 * (u p - 48) + (u (p + 1) - 48)), p + 2)) else (-1, p)
theorem dg_tab : ∀ c, c ≤ 127 → ixF (fun j => (sby 7).getD j 0) (nI c) 0 (sby 7).length = if 48 ≤ c ∧ c ≤ 57 then nI (c - 48) else -1 := by decide +kernel
section NM
variable {d q n p nc l c o g pt op md : Nat} {h : AHp} {lv rs : Int32} {W N E C X A B : Nat → Int32} {u : Nat → Nat}
theorem nv_ok (hp : p ≤ n) : ((nv u n p).1 = -1 ∧ (nv u n p).2 = p) ∨ ∃ m, m ≤ 99 ∧ (nv u n p).1 = nI m ∧ p < (nv u n p).2 ∧ (nv u n p).2 ≤ n := by
  unfold nv
  by_cases h1 : dgt u n p
  · rw [if_pos h1]
    by_cases h2 : u p = 48 ∨ ¬ dgt u n (p + 1)
    · rw [if_pos h2]
      obtain ⟨a, b, c⟩ := h1
      exact Or.inr ⟨u p - 48, by omega, rfl, by simp, by simp; omega⟩
    · rw [if_neg h2]
      have h3 : dgt u n (p + 1) := Decidable.byContradiction fun z => h2 (Or.inr z)
      obtain ⟨a, b, c⟩ := h1
      obtain ⟨a', b', c'⟩ := h3
      exact Or.inr ⟨10 * (u p - 48) + (u (p + 1) - 48), by omega, rfl, by simp, by simp; omega⟩
  · rw [if_neg h1]
    exact Or.inl ⟨rfl, rfl⟩
theorem tO_7 (hu : ∀ i, i < n → u i ≤ 127) : tO u n 7 p = if dgt u n p then nI (u p - 48) else -1 := by
  unfold tO
  by_cases h1 : p < n
  · rw [if_pos h1, dg_tab _ (hu p h1)]
    by_cases h2 : 48 ≤ u p ∧ u p ≤ 57
    · rw [if_pos h2, if_pos ⟨h1, h2⟩]
    · rw [if_neg h2, if_neg (fun z => h2 z.2)]
  · rw [if_neg h1, if_neg (fun z => h1 z.1)]
theorem HB_u (H : HB h q n u) : ∀ i, i < n → u i ≤ 127 := fun i hi => (H.2.2.1 i hi).2
theorem sp_readNumber (H : HB h q n u) (hp : p ≤ n) : Rf (d + 5) 20 0 [.ref q, noV, noV] [] (PS h q n lv rs p nc l W N E C) = some (some (.int (nv u n p).1), PS h q n lv rs (nv u n p).2 nc l W N E C) := by
  have e7 := fun p => tO_7 (p := p) (HB_u H)
  have kc : ∀ p, cls ((PS h q n lv rs p nc l W N E C).1 q) = 3 := fun p => by rw [PS_q]; rfl
  by_cases h1 : dgt u n p
  · have f1 : tO u n 7 p = nI (u p - 48) := by rw [e7, if_pos h1]
    have f2 : ¬ tO u n 7 p < 0 := by rw [f1]; exact nI_pos (by have := h1.2.2; omega)
    have y1 := tO_y (d := d) (lv := lv) (rs := rs) (nc := nc) (l := l) (W := W) (N := N) (E := E) (C := C) H hp (t := 7) (by decide) f2
    rw [f1] at y1
    by_cases h2 : u p = 48
    · have g1 : nI (u p - 48) = 0 := by rw [h2]; rfl
      have hn : nv u n p = (nI (u p - 48), p + 1) := by unfold nv; rw [if_pos h1, if_pos (Or.inl h2)]
      rw [hn]
      rw [g1] at y1 ⊢
      simp only [x20_0, x20_1, x20_6, x20_7, x20_8, x20_11, x20_12, xc20_3 (kc p) y1, show ¬ (0 : Int32) < 0 from by decide, ↓reduceIte]
    · have g1 : (0 : Int32) < nI (u p - 48) := nI_lt (a := 0) (by have := h1.2.1; omega) (by have := h1.2.2; omega)
      have hp1 : p + 1 ≤ n := h1.1
      by_cases h3 : dgt u n (p + 1)
      · have f3 : tO u n 7 (p + 1) = nI (u (p + 1) - 48) := by rw [e7, if_pos h3]
        have f4 : ¬ tO u n 7 (p + 1) < 0 := by rw [f3]; exact nI_pos (by have := h3.2.2; omega)
        have y2 := tO_y (d := d) (lv := lv) (rs := rs) (nc := nc) (l := l) (W := W) (N := N) (E := E) (C := C) H hp1 (t := 7) (by decide) f4
        rw [f3] at y2 f4
        have hn : nv u n p = (nI (10 * (u p - 48) + (u (p + 1) - 48)), p + 2) := by unfold nv; rw [if_pos h1, if_neg (by intro z; rcases z with z | z; exact h2 z; exact z h3)]
        rw [hn]
        have e10 : (10 : Int32) * nI (u p - 48) = nI (10 * (u p - 48)) := pk_mul 10 _
        simp only [x20_0, x20_1, x20_6, x20_7, x20_8, x20_11, x20_12, x20_13, x20_14, x20_19, x20_20, x20_21, x20_24, x20_25, x20_28, x20_30, x20_31, x20_32, x20_33, x20_34, xc20_3 (kc p) y1, xc20_16 (kc (p + 1)) y2, g1, f4, e10, nI_add, ↓reduceIte]
      · have f3 : tO u n 7 (p + 1) = -1 := by rw [e7, if_neg h3]
        have f4 : tO u n 7 (p + 1) < 0 := by rw [f3]; decide
        have y2 := tO_n (d := d) (lv := lv) (rs := rs) (nc := nc) (l := l) (W := W) (N := N) (E := E) (C := C) H hp1 (t := 7) (by decide) f4
        rw [f3] at y2
        have hn : nv u n p = (nI (u p - 48), p + 1) := by unfold nv; rw [if_pos h1, if_pos (Or.inr h3)]
        rw [hn]
        simp only [x20_0, x20_1, x20_6, x20_7, x20_8, x20_11, x20_12, x20_13, x20_14, x20_19, x20_20, x20_21, x20_24, x20_25, x20_34, xc20_3 (kc p) y1, xc20_16 (kc (p + 1)) y2, g1, show (-1 : Int32) < 0 from by decide, ↓reduceIte]
  · have f1 : tO u n 7 p = -1 := by rw [e7, if_neg h1]
    have f2 : tO u n 7 p < 0 := by rw [f1]; decide
    have y1 := tO_n (d := d) (lv := lv) (rs := rs) (nc := nc) (l := l) (W := W) (N := N) (E := E) (C := C) H hp (t := 7) (by decide) f2
    rw [f1] at y1
    have hn : nv u n p = (-1, p) := by unfold nv; rw [if_neg h1]
    rw [hn]
    simp only [x20_0, x20_1, x20_6, x20_7, x20_8, x20_11, x20_12, xc20_3 (kc p) y1, show ¬ (0 : Int32) < -1 from by decide, ↓reduceIte]
theorem sp_isDigit {x : Int32} : Rf d 137 0 [.int x] [] h = some (some (.int (b2 (¬ x < 48 ∧ ¬ 57 < x))), h) := by
  simp only [x137_0, x137_1, x137_3, x137_6, x137_7, x137_9, x137_12, x137_13, x137_16, x137_17, retI_z0, retI_z1, ↓reduceIte]
  unfold b2
  repeat' split
  all_goals simp_all
theorem sg_dgt (hu : ∀ i, i < n → u i ≤ 127) : (¬ sg u n p < 48 ∧ ¬ 57 < sg u n p) = dgt u n p := by
  apply propext
  unfold sg
  by_cases h1 : p < n
  · rw [if_pos h1]
    have h2 := hu p h1
    have e1 : nI (u p) < 48 ↔ u p < 48 := nI_ltI (b := 48) (by omega) (by decide)
    have e2 : 57 < nI (u p) ↔ 57 < u p := nI_ltI (a := 57) (by decide) (by omega)
    rw [e1, e2]
    exact ⟨fun z => ⟨h1, by omega, by omega⟩, fun z => ⟨by have := z.2.1; omega, by have := z.2.2; omega⟩⟩
  · rw [if_neg h1]
    exact ⟨fun z => absurd (by decide) z.1, fun z => absurd z.1 h1⟩
theorem sp_number (F : MF h o A B) (Z : XO X n g u) (hp : pt ≤ n) : Rf (d + 1) 138 0 [.ref o, noV, noV] [] (MS h o pt op md X) = some (some (.int (nv u n pt).1), MS h o (nv u n pt).2 op md X) := by
  have hu := XO_u Z
  have O := fun pt => ocf (pt := pt) (op := op) (md := md) F
  have kc : ∀ pt, cls ((MS h o pt op md X).1 o) = 12 := fun pt => by rw [MS_o]; exact (O pt).1
  have y1 := sp_sign (d := d) (op := op) (md := md) F Z hp
  have D := fun p (hh : AHp) => sp_isDigit (d := d) (h := hh) (x := sg u n p)
  by_cases h1 : dgt u n pt
  · have d1 := D pt (MS h o pt op md X)
    rw [b2_t (by rw [sg_dgt hu]; exact h1)] at d1
    have s1 : sg u n pt = nI (u pt) := sg_y h1.1
    rw [s1] at y1 d1
    have e48 : nI (u pt) - 48 = nI (u pt - 48) := pk_sub (b := 48) h1.2.1
    have hb := h1.2.2
    have q48 : (nI (u pt) = 48) = (u pt = 48) := propext (nI_eq (b := 48) (by omega) (by decide))
    by_cases h2 : u pt = 48
    · have hn : nv u n pt = (nI (u pt - 48), pt + 1) := by unfold nv; rw [if_pos h1, if_pos (Or.inl h2)]
      rw [hn]
      rw [h2] at y1 d1 ⊢
      simp only [x138_0, x138_4, x138_5, x138_9, x138_12, x138_13, x138_14, x138_15, x138_16, x138_19, x138_20, x138_21, x138_24, x138_25, x138_27, x138_40, x138_41, x138_43, x138_44, xc138_1 (kc pt) y1, xc138_6 d1, MS_o, O, MS_pt (nI_1 pt), show (nI 48 = (48 : Int32)) = True from eq_true rfl, litZ, and_self, ↓reduceIte]
      rfl
    · have hp1 : pt + 1 ≤ n := h1.1
      have y2 := sp_sign (d := d) (op := op) (md := md) F Z hp1
      have d2 := D (pt + 1) (MS h o (pt + 1) op md X)
      by_cases h3 : dgt u n (pt + 1)
      · rw [b2_t (by rw [sg_dgt hu]; exact h3)] at d2
        have s2 : sg u n (pt + 1) = nI (u (pt + 1)) := sg_y h3.1
        rw [s2] at y2 d2
        have hn : nv u n pt = (nI (10 * (u pt - 48) + (u (pt + 1) - 48)), pt + 2) := by unfold nv; rw [if_pos h1, if_neg (by intro z; rcases z with z | z; exact h2 z; exact z h3)]
        rw [hn]
        have e10 : (10 : Int32) * nI (u pt - 48) = nI (10 * (u pt - 48)) := pk_mul 10 _
        have e3 : nI (10 * (u pt - 48) + u (pt + 1)) - 48 = nI (10 * (u pt - 48) + (u (pt + 1) - 48)) := by
          have := pk_sub (a := 10 * (u pt - 48) + u (pt + 1)) (b := 48) (by have := h3.2.1; omega)
          rw [Nat.add_sub_assoc h3.2.1] at this
          exact this
        simp only [x138_0, x138_4, x138_5, x138_9, x138_12, x138_13, x138_14, x138_15, x138_16, x138_19, x138_20, x138_21, x138_24, x138_25, x138_27, x138_30, x138_37, x138_45, x138_49, x138_50, x138_51, x138_52, x138_55, x138_56, x138_57, x138_60, x138_62, x138_63, x138_65, x138_66, x138_67, x138_68, x138_69, x138_71, x138_72, xc138_1 (kc pt) y1, xc138_6 d1, xc138_31 (kc (pt + 1)) y2, xc138_34 d2, xc138_46 (kc (pt + 1)) y2, MS_o, O, MS_pt (nI_1 pt), MS_pt (nI_1 (pt + 1)), q48, h2, litZ, e48, e10, nI_add, e3, and_self, ↓reduceIte]
      · rw [b2_f (by rw [sg_dgt hu]; exact h3)] at d2
        have hn : nv u n pt = (nI (u pt - 48), pt + 1) := by unfold nv; rw [if_pos h1, if_pos (Or.inr h3)]
        rw [hn]
        simp only [x138_0, x138_4, x138_5, x138_9, x138_12, x138_13, x138_14, x138_15, x138_16, x138_19, x138_20, x138_21, x138_24, x138_25, x138_27, x138_30, x138_37, x138_40, x138_41, x138_43, x138_44, xc138_1 (kc pt) y1, xc138_6 d1, xc138_31 (kc (pt + 1)) y2, xc138_34 d2, MS_o, O, MS_pt (nI_1 pt), q48, h2, litZ, e48, and_self, ↓reduceIte]
  · have d1 := D pt (MS h o pt op md X)
    rw [b2_f (by rw [sg_dgt hu]; exact h1)] at d1
    have hn : nv u n pt = (-1, pt) := by unfold nv; rw [if_neg h1]
    rw [hn]
    simp only [x138_0, x138_4, x138_5, x138_9, x138_12, x138_13, xc138_1 (kc pt) y1, xc138_6 d1, ↓reduceIte]
end NM
