-- deps: 72.part2
/-! A WORD. -/
def wm (u : Nat → Nat) (n t : Nat) : Nat → Nat → Nat → Nat × Bool
  | 0, _, p => (p, true)
  | k + 1, i, p => if p < n ∧ nI (u p) = (sby t).getD i 0 then wm u n t k (i + 1) (p + 1) else (p, false)
theorem sby_n : ∀ t, t < 15 → ∀ i, i < 10 → i < (sby t).length → (sby t).getD i 0 = nI ((sby t).getD i 0).toNatClampNeg ∧ ((sby t).getD i 0).toNatClampNeg ≤ 127 := by decide +kernel
section WD
variable {n g : Nat} {u : Nat → Nat}
theorem wm_le {t : Nat} : ∀ (k i p : Nat), p ≤ n → p ≤ (wm u n t k i p).1 ∧ (wm u n t k i p).1 ≤ n := by
  intro k
  induction k with
  | zero => intro i p hp; exact ⟨Nat.le_refl _, hp⟩
  | succ k ih =>
    intro i p hp
    unfold wm
    by_cases h : p < n ∧ nI (u p) = (sby t).getD i 0
    · rw [if_pos h]
      have := ih (i + 1) (p + 1) h.1
      exact ⟨by omega, this.2⟩
    · rw [if_neg h]
      exact ⟨Nat.le_refl _, hp⟩
theorem wm_add {t : Nat} : ∀ (a b i p : Nat), wm u n t (a + b) i p = if (wm u n t a i p).2 = true then wm u n t b (i + a) (wm u n t a i p).1 else wm u n t a i p := by
  intro a
  induction a with
  | zero => intro b i p; rw [Nat.zero_add]; rfl
  | succ a ih =>
    intro b i p
    rw [Nat.succ_add]
    show (if p < n ∧ nI (u p) = (sby t).getD i 0 then wm u n t (a + b) (i + 1) (p + 1) else (p, false)) = _
    have e : wm u n t (a + 1) i p = if p < n ∧ nI (u p) = (sby t).getD i 0 then wm u n t a (i + 1) (p + 1) else (p, false) := rfl
    rw [e]
    by_cases h : p < n ∧ nI (u p) = (sby t).getD i 0
    · rw [if_pos h, if_pos h, ih b (i + 1) (p + 1), show i + 1 + a = i + (a + 1) by omega]
    · rw [if_neg h, if_neg h]
      rfl
theorem wm_sh {t t' : Nat} : ∀ (k i i' p : Nat), (∀ j, j < k → (sby t).getD (i + j) 0 = (sby t').getD (i' + j) 0) → wm u n t k i p = wm u n t' k i' p := by
  intro k
  induction k with
  | zero => intro i i' p _; rfl
  | succ k ih =>
    intro i i' p e
    have e0 : (sby t).getD i 0 = (sby t').getD i' 0 := e 0 (by omega)
    simp only [wm, e0, ih (i + 1) (i' + 1) (p + 1) (fun j hj => by rw [show i + 1 + j = i + (j + 1) by omega, show i' + 1 + j = i' + (j + 1) by omega]; exact e (j + 1) (by omega))]
theorem tk_wm {t i p : Nat} (hu : ∀ i, i < n → u i ≤ 127) (ht : t < 15) (hi : i < (sby t).length) : (p < n ∧ nI (u p) = (sby t).getD i 0) = tk u n p ((sby t).getD i 0).toNatClampNeg := by
  obtain ⟨e1, e2⟩ := sby_n t ht i (by have := (sby_len t ht).2; omega) hi
  apply propext
  unfold tk
  constructor
  · rintro ⟨a, b⟩
    have := hu p a
    rw [e1] at b
    exact ⟨a, (nI_eq (by omega) (by omega)).mp b⟩
  · rintro ⟨a, b⟩
    exact ⟨a, by rw [b]; exact e1.symm⟩
theorem lp_tw {d q nc l t : Nat} {h : AHp} {lv rs : Int32} {W N E C : Nat → Int32} (H : HB h q n u) (ht : t < 15) : ∀ (k i p : Nat), i + k = (sby t).length → p ≤ n → Rf (d + 4) 22 2 [.ref q, .ref t, .int (nI i)] [] (PS h q n lv rs p nc l W N E C) = some (some (.int (bv (wm u n t k i p).2)), PS h q n lv rs (wm u n t k i p).1 nc l W N E C) := by
  have hu := HB_u H
  have hl := (sby_len t ht).2
  have L := fun p => HB_LO (lv := lv) (rs := rs) (p := p) (nc := nc) (l := l) (W := W) (N := N) (E := E) (C := C) H
  have kt : ∀ p, cls ((PS h q n lv rs p nc l W N E C).1 t) = 13 := fun p => by rw [(L p t ht).1]; rfl
  intro k
  induction k with
  | zero =>
    intro i p hi hp
    have c1 : ¬ nI i < nI (sby t).length := nI_nlt (by omega) (by omega)
    simp only [x22_2, x22_3, x22_7, x22_30, x22_31, xc22_4 (kt p) (sp_length (d := d + 2) (L p) ht), c1, retI_z1, wm, bv, ↓reduceIte]
  | succ k ih =>
    intro i p hi hp
    have hi2 : i < (sby t).length := by omega
    have c1 : nI i < nI (sby t).length := nI_lt hi2 (by omega)
    obtain ⟨e1, e2⟩ := sby_n t ht i (by omega) hi2
    have ec := sp_charAt (d := d) (L p) ht hi2
    rw [e1] at ec
    by_cases hb : tk u n p ((sby t).getD i 0).toNatClampNeg
    · have hw : wm u n t (k + 1) i p = wm u n t k (i + 1) (p + 1) := by
        unfold wm
        rw [if_pos (by rw [tk_wm hu ht hi2]; exact hb)]
        cases k <;> rfl
      have e3 := ih (i + 1) (p + 1) (by omega) hb.1
      have e4 := tk_y (d := d + 3) (lv := lv) (rs := rs) (nc := nc) (l := l) (W := W) (N := N) (E := E) (C := C) H hp e2 hb
      rw [hw, x22_2]
      simp only [x22_3, x22_7, x22_10, x22_11, x22_12, x22_19, x22_22, x22_23, x22_24, x22_27, xc22_4 (kt p) (sp_length (d := d + 2) (L p) ht), xc22_13 (kt p) ec, xc22_16 kcP e4, c1, litZ, nI_1, ↓reduceIte]
      exact e3
    · have hw : wm u n t (k + 1) i p = (p, false) := by
        unfold wm
        rw [if_neg (by rw [tk_wm hu ht hi2]; exact hb)]
      have e4 := tk_n (d := d + 3) (lv := lv) (rs := rs) (nc := nc) (l := l) (W := W) (N := N) (E := E) (C := C) H hp e2 hb
      rw [hw]
      simp only [x22_2, x22_3, x22_7, x22_10, x22_11, x22_12, x22_19, x22_22, x22_23, xc22_4 (kt p) (sp_length (d := d + 2) (L p) ht), xc22_13 (kt p) ec, xc22_16 kcP e4, c1, retI_z0, bv, ↓reduceIte]
theorem sp_takeWord {d q p nc l t : Nat} {h : AHp} {lv rs : Int32} {W N E C : Nat → Int32} (H : HB h q n u) (ht : t < 15) (hp : p ≤ n) : Rf (d + 4) 22 0 [.ref q, .ref t, noV] [] (PS h q n lv rs p nc l W N E C) = some (some (.int (bv (wm u n t (sby t).length 0 p).2)), PS h q n lv rs (wm u n t (sby t).length 0 p).1 nc l W N E C) := by
  have e := lp_tw (d := d) (nc := nc) (l := l) (lv := lv) (rs := rs) (W := W) (N := N) (E := E) (C := C) H ht (sby t).length 0 p (by omega) hp
  rw [nI_0] at e
  simp only [x22_0, x22_1]
  exact e
theorem lp_isw {d o op md t : Nat} {h : AHp} {X A B : Nat → Int32} (F : MF h o A B) (Z : XO X n g u) (L : LO h) (ho : 32 ≤ o) (ht : t < 15) : ∀ (k i p : Nat), i + k = (sby t).length → p ≤ n → Rf (d + 4) 136 2 [.ref o, .ref t, .int (nI i)] [] (MS h o p op md X) = some (some (.int (bv (wm u n t k i p).2)), MS h o (wm u n t k i p).1 op md X) := by
  have hu := XO_u Z
  have hl := (sby_len t ht).2
  have LM : ∀ p, LO (MS h o p op md X) := fun p => LO_lo L (fun a ha => MS_ne (by clear F; omega) (by clear F; omega))
  have kt : ∀ p, cls ((MS h o p op md X).1 t) = 13 := fun p => by rw [(LM p t ht).1]; rfl
  intro k
  induction k with
  | zero =>
    intro i p hi hp
    have c1 : ¬ nI i < nI (sby t).length := nI_nlt (by omega) (by omega)
    simp only [x136_2, x136_3, x136_7, x136_30, x136_31, xc136_4 (kt p) (sp_length (d := d + 2) (LM p) ht), c1, retI_z1, wm, bv, ↓reduceIte]
  | succ k ih =>
    intro i p hi hp
    have hi2 : i < (sby t).length := by omega
    have c1 : nI i < nI (sby t).length := nI_lt hi2 (by omega)
    obtain ⟨e1, e2⟩ := sby_n t ht i (by omega) hi2
    have ec := sp_charAt (d := d) (LM p) ht hi2
    rw [e1] at ec
    by_cases hb : tk u n p ((sby t).getD i 0).toNatClampNeg
    · have hw : wm u n t (k + 1) i p = wm u n t k (i + 1) (p + 1) := by
        unfold wm
        rw [if_pos (by rw [tk_wm hu ht hi2]; exact hb)]
        cases k <;> rfl
      have e3 := ih (i + 1) (p + 1) (by omega) hb.1
      have e4 := is_y (d := d + 2) (op := op) (md := md) F Z hp e2 hb
      rw [hw, x136_2]
      simp only [x136_3, x136_7, x136_10, x136_11, x136_12, x136_19, x136_22, x136_23, x136_24, x136_27, xc136_4 (kt p) (sp_length (d := d + 2) (LM p) ht), xc136_13 (kt p) ec, xc136_16 (kcM F) e4, c1, litZ, nI_1, ↓reduceIte]
      exact e3
    · have hw : wm u n t (k + 1) i p = (p, false) := by
        unfold wm
        rw [if_neg (by rw [tk_wm hu ht hi2]; exact hb)]
      have e4 := is_n (d := d + 2) (op := op) (md := md) F Z hp e2 hb
      rw [hw]
      simp only [x136_2, x136_3, x136_7, x136_10, x136_11, x136_12, x136_19, x136_22, x136_23, xc136_4 (kt p) (sp_length (d := d + 2) (LM p) ht), xc136_13 (kt p) ec, xc136_16 (kcM F) e4, c1, retI_z0, bv, ↓reduceIte]
theorem sp_isw {d o op md t p : Nat} {h : AHp} {X A B : Nat → Int32} (F : MF h o A B) (Z : XO X n g u) (L : LO h) (ho : 32 ≤ o) (ht : t < 15) (hp : p ≤ n) : Rf (d + 4) 136 0 [.ref o, .ref t, noV] [] (MS h o p op md X) = some (some (.int (bv (wm u n t (sby t).length 0 p).2)), MS h o (wm u n t (sby t).length 0 p).1 op md X) := by
  have e := lp_isw (d := d) (op := op) (md := md) F Z L ho ht (sby t).length 0 p (by omega) hp
  rw [nI_0] at e
  simp only [x136_0, x136_1]
  exact e
/-- the class's word and the model's -/
theorem words : ∀ w, w < 5 → (sby (10 + w)).length = 1 + ((sby (2 + w)).length + 1) ∧ (∀ j, j < 5 → j < (sby (2 + w)).length → (sby (10 + w)).getD (1 + j) 0 = (sby (2 + w)).getD j 0) ∧ (sby (10 + w)).getD (1 + (sby (2 + w)).length) 0 = 32 ∧ (sby (2 + w)).length ≤ 5 := by decide +kernel
theorem wm_word {w p : Nat} (hu : ∀ i, i < n → u i ≤ 127) (hw : w < 5) (hp : p < n ∧ nI (u p) = (sby (10 + w)).getD 0 0) : wm u n (10 + w) (sby (10 + w)).length 0 p = if (wm u n (2 + w) (sby (2 + w)).length 0 (p + 1)).2 = true then (if (wm u n (2 + w) (sby (2 + w)).length 0 (p + 1)).1 < n ∧ u (wm u n (2 + w) (sby (2 + w)).length 0 (p + 1)).1 = 32 then ((wm u n (2 + w) (sby (2 + w)).length 0 (p + 1)).1 + 1, true) else ((wm u n (2 + w) (sby (2 + w)).length 0 (p + 1)).1, false)) else wm u n (2 + w) (sby (2 + w)).length 0 (p + 1) := by
  obtain ⟨a, b, c, e⟩ := words w hw
  have s1 : wm u n (10 + w) 1 0 p = (p + 1, true) := by
    show (if p < n ∧ nI (u p) = (sby (10 + w)).getD 0 0 then (p + 1, true) else (p, false)) = _
    rw [if_pos hp]
  rw [a, wm_add, s1, if_pos rfl, wm_add, wm_sh (t' := 2 + w) (sby (2 + w)).length (0 + 1) 0 (p + 1) (fun j hj => by rw [Nat.zero_add, Nat.zero_add]; exact b j (by omega) hj)]
  generalize wm u n (2 + w) (sby (2 + w)).length 0 (p + 1) = r
  by_cases hr : r.2 = true
  · rw [if_pos hr, if_pos hr]
    show (if r.1 < n ∧ nI (u r.1) = (sby (10 + w)).getD (0 + 1 + (sby (2 + w)).length) 0 then (r.1 + 1, true) else (r.1, false)) = _
    rw [Nat.zero_add, c]
    by_cases h1 : r.1 < n
    · have h2 := hu r.1 h1
      have h3 : (nI (u r.1) = 32) = (u r.1 = 32) := propext (nI_eq (b := 32) (by omega) (by decide))
      simp only [h3]
    · rw [if_neg (fun z => h1 z.1), if_neg (fun z => h1 z.1)]
  · rw [if_neg hr, if_neg hr]
end WD
