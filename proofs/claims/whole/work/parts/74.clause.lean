-- deps: 73.word
/-! A CLAUSE. -/
def kdF (c : Int32) : Int32 := if c = 111 then 0 else if c = 99 then 1 else if c = 97 then 2 else if c = 108 then 3 else if c = 114 then 4 else -1
theorem kd_tab : ∀ c, c ≤ 127 → ixF (fun j => (sby 1).getD j 0) (nI c) 0 (sby 1).length = kdF (nI c) := by decide +kernel
theorem kd_let : ∀ c, c ≤ 127 → ∀ w, w < 5 → kdF (nI c) = nI w → nI c = (sby (10 + w)).getD 0 0 := by decide +kernel
theorem kd_ok (c : Int32) : kdF c = -1 ∨ ∃ a, a < 5 ∧ kdF c = nI a := by
  unfold kdF
  repeat' split
  · exact Or.inr ⟨0, by decide, rfl⟩
  · exact Or.inr ⟨1, by decide, rfl⟩
  · exact Or.inr ⟨2, by decide, rfl⟩
  · exact Or.inr ⟨3, by decide, rfl⟩
  · exact Or.inr ⟨4, by decide, rfl⟩
  · exact Or.inl rfl
def slo (g i : Nat) : Prop := i = 226 + g ∨ (231 + 10 * g ≤ i ∧ i < 241 + 10 * g) ∨ (281 + 10 * g ≤ i ∧ i < 291 + 10 * g) ∨ (331 + 10 * g ≤ i ∧ i < 341 + 10 * g) ∨ (381 + 10 * g ≤ i ∧ i < 391 + 10 * g) ∨ (431 + 100 * g ≤ i ∧ i < 531 + 100 * g)
def X1F (X : Nat → Int32) (g k w m l : Nat) : Nat → Int32 := upd (upd (upd X (231 + (10 * g + k)) (nI w)) (281 + (10 * g + k)) (nI m)) (331 + (10 * g + k)) (nI l)
def XCF (X : Nat → Int32) (g k w m l l' : Nat) (C' : Nat → Int32) : Nat → Int32 := upd (CX (X1F X g k w m l) g l l' C') (381 + (10 * g + k)) (nI l')
def CST (h : AHp) (q n : Nat) (lv rs : Int32) (p nc l : Nat) (W N E C : Nat → Int32) (w m : Nat) : AHp := if w = 3 then PS h q n (nI m) rs p nc l W N E C else if w = 4 then PS h q n lv (nI m) p nc l W N E C else PS h q n lv rs p (nc + 1) l (upd W nc (nI w)) (upd N nc (nI m)) (upd E nc (nI l)) C
section CLA
variable {n g : Nat} {u : Nat → Nat}
theorem tO_1 {p : Nat} (hu : ∀ i, i < n → u i ≤ 127) : tO u n 1 p = kdF (sg u n p) := by
  unfold tO sg
  by_cases h1 : p < n
  · rw [if_pos h1, if_pos h1, kd_tab _ (hu p h1)]
  · rw [if_neg h1, if_neg h1]; decide
theorem kd_run {d o : Nat} {h : AHp} {c : Int32} {v1 v3 v4 v5 : Value} : Rf d 143 5 [.ref o, v1, .int c, v3, v4, v5] [] h = Rf d 143 57 [.ref o, v1, .int c, .int (kdF c), v4, v5] [] h := by
  unfold kdF
  by_cases h1 : c = 111
  · simp only [x143_5, x143_6, x143_8, x143_11, x143_12, x143_15, x143_16, x143_18, x143_21, x143_22, x143_25, x143_26, x143_28, x143_31, x143_32, x143_35, x143_36, x143_38, x143_41, x143_42, x143_45, x143_46, x143_48, x143_51, x143_52, x143_55, x143_56, eq_true h1, ↓reduceIte]
  by_cases h2 : c = 99
  · simp only [x143_5, x143_6, x143_8, x143_11, x143_12, x143_15, x143_16, x143_18, x143_21, x143_22, x143_25, x143_26, x143_28, x143_31, x143_32, x143_35, x143_36, x143_38, x143_41, x143_42, x143_45, x143_46, x143_48, x143_51, x143_52, x143_55, x143_56, h1, eq_true h2, ↓reduceIte]
  by_cases h3 : c = 97
  · simp only [x143_5, x143_6, x143_8, x143_11, x143_12, x143_15, x143_16, x143_18, x143_21, x143_22, x143_25, x143_26, x143_28, x143_31, x143_32, x143_35, x143_36, x143_38, x143_41, x143_42, x143_45, x143_46, x143_48, x143_51, x143_52, x143_55, x143_56, h1, h2, eq_true h3, ↓reduceIte]
  by_cases h4 : c = 108
  · simp only [x143_5, x143_6, x143_8, x143_11, x143_12, x143_15, x143_16, x143_18, x143_21, x143_22, x143_25, x143_26, x143_28, x143_31, x143_32, x143_35, x143_36, x143_38, x143_41, x143_42, x143_45, x143_46, x143_48, x143_51, x143_52, x143_55, x143_56, h1, h2, h3, eq_true h4, ↓reduceIte]
  by_cases h5 : c = 114
  · simp only [x143_5, x143_6, x143_8, x143_11, x143_12, x143_15, x143_16, x143_18, x143_21, x143_22, x143_25, x143_26, x143_28, x143_31, x143_32, x143_35, x143_36, x143_38, x143_41, x143_42, x143_45, x143_46, x143_48, x143_51, x143_52, x143_55, x143_56, h1, h2, h3, h4, eq_true h5, ↓reduceIte]
  · simp only [x143_5, x143_6, x143_8, x143_11, x143_12, x143_15, x143_16, x143_18, x143_21, x143_22, x143_25, x143_26, x143_28, x143_31, x143_32, x143_35, x143_36, x143_38, x143_41, x143_42, x143_45, x143_46, x143_48, x143_51, x143_52, x143_55, x143_56, h1, h2, h3, h4, h5, ↓reduceIte]
theorem wd_run {d o w : Nat} (hw : w < 5) {h : AHp} {v1 v2 v4 v5 : Value} : Rf d 143 61 [.ref o, v1, v2, .int (nI w), v4, v5] [] h = Rf d 143 103 [.ref o, v1, v2, .int (nI w), v4, v5] [.ref (10 + w), .ref o] h := by
  match w, hw with
  | 0, _ => simp only [x143_61, x143_62, x143_63, x143_66, x143_68, x143_71, x143_72, x143_73, x143_76, x143_78, x143_81, x143_82, x143_83, x143_86, x143_88, x143_91, x143_92, x143_93, x143_96, x143_98, x143_101, nI_06, l06, ↓reduceIte]
  | 1, _ => simp only [x143_61, x143_62, x143_63, x143_66, x143_68, x143_71, x143_72, x143_73, x143_76, x143_78, x143_81, x143_82, x143_83, x143_86, x143_88, x143_91, x143_92, x143_93, x143_96, x143_98, x143_101, nI_06, l06, ↓reduceIte]
  | 2, _ => simp only [x143_61, x143_62, x143_63, x143_66, x143_68, x143_71, x143_72, x143_73, x143_76, x143_78, x143_81, x143_82, x143_83, x143_86, x143_88, x143_91, x143_92, x143_93, x143_96, x143_98, x143_101, nI_06, l06, ↓reduceIte]
  | 3, _ => simp only [x143_61, x143_62, x143_63, x143_66, x143_68, x143_71, x143_72, x143_73, x143_76, x143_78, x143_81, x143_82, x143_83, x143_86, x143_88, x143_91, x143_92, x143_93, x143_96, x143_98, x143_101, nI_06, l06, ↓reduceIte]
  | 4, _ => simp only [x143_61, x143_62, x143_63, x143_66, x143_68, x143_71, x143_72, x143_73, x143_76, x143_78, x143_81, x143_82, x143_83, x143_86, x143_88, x143_91, x143_92, x143_93, x143_96, x143_98, x143_101, nI_06, l06, ↓reduceIte]
theorem sp_restOf {d w : Nat} (hw : w < 5) {h : AHp} : Rf d 15 0 [.int (nI w)] [] h = some (some (.ref (2 + w)), h) := by
  match w, hw with
  | 0, _ => simp only [x15_0, x15_1, x15_32, x15_34, x15_35, x15_37, x15_38, x15_40, x15_41, x15_43, x15_44, x15_46, nI_06, l06, ↓reduceIte]
  | 1, _ => simp only [x15_0, x15_1, x15_32, x15_34, x15_35, x15_37, x15_38, x15_40, x15_41, x15_43, x15_44, x15_46, nI_06, l06, ↓reduceIte]
  | 2, _ => simp only [x15_0, x15_1, x15_32, x15_34, x15_35, x15_37, x15_38, x15_40, x15_41, x15_43, x15_44, x15_46, nI_06, l06, ↓reduceIte]
  | 3, _ => simp only [x15_0, x15_1, x15_32, x15_34, x15_35, x15_37, x15_38, x15_40, x15_41, x15_43, x15_44, x15_46, nI_06, l06, ↓reduceIte]
  | 4, _ => simp only [x15_0, x15_1, x15_32, x15_34, x15_35, x15_37, x15_38, x15_40, x15_41, x15_43, x15_44, x15_46, nI_06, l06, ↓reduceIte]
theorem sp_keep {d q p nc l : Nat} {h : AHp} {lv rs x y : Int32} {W N E C : Nat → Int32} (hn : nc < 10) : Rf d 16 0 [.ref q, .int x, .int y] [] (PS h q n lv rs p nc l W N E C) = some (some (.int 1), PS h q n lv rs p (nc + 1) l (upd W nc x) (upd N nc y) (upd E nc (nI l)) C) := by
  have c1 : nI nc < 10 := nI_lt (a := nc) (b := 10) hn (by decide)
  have c2 : inB (nI nc) 10 = true := nI_inB hn (by decide)
  have c3 : (nI nc).toNatClampNeg = nc := nI_clamp (by omega)
  simp only [x16_0, x16_1, x16_4, x16_6, x16_9, x16_10, x16_11, x16_12, x16_15, x16_16, x16_19, x16_20, x16_21, x16_22, x16_25, x16_26, x16_29, x16_30, x16_31, x16_32, x16_35, x16_36, x16_39, x16_40, x16_43, x16_44, x16_45, x16_46, x16_49, x16_50, x16_51, x16_54, x16_55, PS_q, PS_2, PS_3, PS_4, hcf, aT_i, aN_i, aF_i, c1, c2, c3, PS_W, PS_N, PS_E, PS_nc (nI_1 nc), retI_z1, true_or, and_self, ↓reduceIte]
/-- the word of a clause -/
theorem J_w (hn : n < 100) : ∀ p, p ≤ n →
    (∃ p', p ≤ p' ∧ p' ≤ n ∧
      (∀ d h q lv rs nc l W N E C, HB h q n u → Rf (d + 5) 14 0 [.ref q, noV, noV] [] (PS h q n lv rs p nc l W N E C) = some (some (.int 0), PS h q n lv rs p' nc l W N E C)) ∧
      (∀ d h o A B X md kv, MF h o A B → XO X n g u → LO h → 32 ≤ o → Rf (d + 5) 143 0 [.ref o, .int kv, noV, noV, noV, noV] [] (MS h o p 0 md X) = some (some (.int 0), MS h o p' 0 md X))) ∨
    (∃ w p', w < 5 ∧ p < p' ∧ p' ≤ n ∧
      (∀ d h q lv rs nc l W N E C, HB h q n u → Rf (d + 5) 14 0 [.ref q, noV, noV] [] (PS h q n lv rs p nc l W N E C) = Rf (d + 5) 14 33 [.ref q, .int (nI w), noV] [] (PS h q n lv rs p' nc l W N E C)) ∧
      (∀ d h o A B X md kv, MF h o A B → XO X n g u → LO h → 32 ≤ o → Rf (d + 5) 143 0 [.ref o, .int kv, noV, noV, noV, noV] [] (MS h o p 0 md X) = Rf (d + 5) 143 111 [.ref o, .int kv, .int (sg u n p), .int (nI w), noV, noV] [] (MS h o p' 0 md X))) := by
  intro p hp
  rcases kd_ok (sg u n p) with a1 | ⟨w, hw, a1⟩
  · refine Or.inl ⟨p, Nat.le_refl _, hp, fun d h q lv rs nc l W N E C H => ?_, fun d h o A B X md kv F Z L ho => ?_⟩
    · have e1 : tO u n 1 p = -1 := (tO_1 (HB_u H)).trans a1
      have y1 := tO_n (d := d) (lv := lv) (rs := rs) (nc := nc) (l := l) (W := W) (N := N) (E := E) (C := C) H hp (t := 1) (by decide) (by rw [e1]; decide)
      rw [e1] at y1
      simp only [x14_0, x14_1, x14_6, x14_7, x14_8, x14_31, x14_32, xc14_3 kcP y1, show (-1 : Int32) < 0 from by decide, retI_z0, ↓reduceIte]
    · have y1 := sp_sign (d := d + 4) (op := 0) (md := md) F Z hp
      simp only [x143_0, x143_4, xc143_1 (kcM F) y1]
      rw [kd_run, a1]
      simp only [x143_57, x143_58, x143_109, x143_110, show (-1 : Int32) < 0 from by decide, retI_z0, ↓reduceIte]
  have w0 : ¬ nI w < 0 := nI_pos (by omega)
  have hp0 : p < n := by
    refine Decidable.byContradiction fun z => w0 ?_
    unfold sg at a1
    rw [if_neg z, show kdF (-1) = -1 from by decide] at a1
    rw [← a1]
    decide
  have s0 : sg u n p = nI (u p) := sg_y hp0
  have ht2 : 2 + w < 15 := by omega
  have ht10 : 10 + w < 15 := by omega
  generalize hR : wm u n (2 + w) (sby (2 + w)).length 0 (p + 1) = R
  have hRle := wm_le (u := u) (t := 2 + w) (sby (2 + w)).length 0 (p + 1) hp0
  rw [hR] at hRle
  have cls1 : ∀ d h q lv rs nc l W N E C, HB h q n u → Rf (d + 5) 14 0 [.ref q, noV, noV] [] (PS h q n lv rs p nc l W N E C) = Rf (d + 5) 14 19 [.ref q, .int (nI w), noV] [.int (bv R.2)] (PS h q n lv rs R.1 nc l W N E C) := by
    intro d h q lv rs nc l W N E C H
    have e1 : tO u n 1 p = nI w := (tO_1 (HB_u H)).trans a1
    have y1 := tO_y (d := d) (lv := lv) (rs := rs) (nc := nc) (l := l) (W := W) (N := N) (E := E) (C := C) H hp (t := 1) (by decide) (by rw [e1]; exact w0)
    rw [e1] at y1
    have y2 := sp_takeWord (d := d) (lv := lv) (rs := rs) (nc := nc) (l := l) (W := W) (N := N) (E := E) (C := C) H ht2 hp0
    rw [hR] at y2
    simp only [x14_0, x14_1, x14_6, x14_7, x14_8, x14_11, x14_12, xc14_3 kcP y1, xc14_13 (sp_restOf (d := d + 4) hw), xc14_16 kcP y2, w0, ↓reduceIte]
  have mod1 : ∀ d h o A B X md kv, MF h o A B → XO X n g u → LO h → 32 ≤ o → ∀ p' (b : Bool), wm u n (10 + w) (sby (10 + w)).length 0 p = (p', b) → Rf (d + 5) 143 0 [.ref o, .int kv, noV, noV, noV, noV] [] (MS h o p 0 md X) = Rf (d + 5) 143 106 [.ref o, .int kv, .int (sg u n p), .int (nI w), noV, noV] [.int (bv b)] (MS h o p' 0 md X) := by
    intro d h o A B X md kv F Z L ho p' b hb
    have y1 := sp_sign (d := d + 4) (op := 0) (md := md) F Z hp
    have y2 := sp_isw (d := d) (op := 0) (md := md) F Z L ho ht10 hp
    rw [hb] at y2
    simp only [x143_0, x143_4, xc143_1 (kcM F) y1]
    rw [kd_run, a1]
    simp only [x143_57, x143_58, w0, ↓reduceIte]
    rw [wd_run hw]
    rw [xc143_103 (kcM F) y2]
  have key : ∀ hu : (∀ i, i < n → u i ≤ 127), wm u n (10 + w) (sby (10 + w)).length 0 p = if R.2 = true then (if R.1 < n ∧ u R.1 = 32 then (R.1 + 1, true) else (R.1, false)) else R := fun hu => by
    have := wm_word hu hw (p := p) ⟨hp0, kd_let _ (hu p hp0) w hw (by rw [← s0]; exact a1)⟩
    rw [hR] at this
    exact this
  by_cases hr : R.2 = true
  · by_cases h32 : tk u n R.1 32
    · refine Or.inr ⟨w, R.1 + 1, hw, by omega, h32.1, fun d h q lv rs nc l W N E C H => ?_, fun d h o A B X md kv F Z L ho => ?_⟩
      · rw [cls1 d h q lv rs nc l W N E C H, hr]
        simp only [x14_19, x14_22, x14_23, x14_28, xc14_25 kcP (tk_y (d := d + 4) H hRle.2 (by decide) h32), show (32 : Int32) = nI 32 from rfl, bv, litZ, ↓reduceIte]
      · have k := key (XO_u Z)
        rw [if_pos hr, if_pos (show R.1 < n ∧ u R.1 = 32 from h32)] at k
        rw [mod1 d h o A B X md kv F Z L ho _ _ k]
        simp only [x143_106, bv, litZ, ↓reduceIte]
    · refine Or.inl ⟨R.1, by omega, hRle.2, fun d h q lv rs nc l W N E C H => ?_, fun d h o A B X md kv F Z L ho => ?_⟩
      · rw [cls1 d h q lv rs nc l W N E C H, hr]
        simp only [x14_19, x14_22, x14_23, x14_28, x14_31, x14_32, xc14_25 kcP (tk_n (d := d + 4) H hRle.2 (by decide) h32), show (32 : Int32) = nI 32 from rfl, bv, litZ, retI_z0, ↓reduceIte]
      · have k := key (XO_u Z)
        rw [if_pos hr, if_neg (show ¬ (R.1 < n ∧ u R.1 = 32) from h32)] at k
        rw [mod1 d h o A B X md kv F Z L ho _ _ k]
        simp only [x143_106, x143_109, x143_110, bv, litZ, retI_z0, ↓reduceIte]
  · have hr' : R.2 = false := by cases h : R.2 <;> simp_all
    refine Or.inl ⟨R.1, by omega, hRle.2, fun d h q lv rs nc l W N E C H => ?_, fun d h o A B X md kv F Z L ho => ?_⟩
    · rw [cls1 d h q lv rs nc l W N E C H, hr']
      simp only [x14_19, x14_31, x14_32, bv, litZ, retI_z0, ↓reduceIte]
    · have k := key (XO_u Z)
      rw [if_neg hr] at k
      have k2 : wm u n (10 + w) (sby (10 + w)).length 0 p = (R.1, false) := by rw [k, ← hr']
      rw [mod1 d h o A B X md kv F Z L ho _ _ k2]
      simp only [x143_106, x143_109, x143_110, bv, litZ, retI_z0, ↓reduceIte]
theorem slo_X1 {X : Nat → Int32} {k w m l i : Nat} (hk : k < 10) (hi : ¬ slo g i) : X1F X g k w m l i = X i := by
  unfold slo at hi
  unfold X1F
  rw [upd_at, if_neg (by omega), upd_at, if_neg (by omega), upd_at, if_neg (by omega)]
theorem slo_CX {X C : Nat → Int32} {l l' i : Nat} (hl : l' ≤ 100) (hi : ¬ slo g i) : CX X g l l' C i = X i := by
  unfold slo at hi
  unfold CX
  rw [if_neg (by omega)]
theorem slo_lo {i : Nat} (h : i < 226) : ¬ slo g i := by
  unfold slo
  omega
theorem XO_cg {X X' : Nat → Int32} (Z : XO X n g u) (e : ∀ i, i < 226 → X' i = X i) : XO X' n g u := by
  obtain ⟨z1, z2, z3, z4, z5⟩ := Z
  exact ⟨(e 4 (by omega)).trans z1, (e 1 (by omega)).trans z2, fun i hi => by rw [e _ (by omega)]; exact z3 i hi, z4, z5⟩
theorem J_c (hn : n < 100) : ∀ (p l : Nat) (C : Nat → Int32) (lv rs : Int32) (nc : Nat) (W N E X : Nat → Int32) (k : Nat), p ≤ n → l ≤ p → nc < 10 → k < 10 → XO X n g u →
    (∃ (p' l' : Nat) (C' : Nat → Int32) (op' : Nat) (X' : Nat → Int32), p ≤ p' ∧ p' ≤ n ∧ (∀ i, ¬ slo g i → X' i = X i) ∧
      (∀ d h q, HB h q n u → Rf (d + 30) 14 0 [.ref q, noV, noV] [] (PS h q n lv rs p nc l W N E C) = some (some (.int 0), PS h q n lv rs p' nc l' W N E C')) ∧
      (∀ d h o A B, MF h o A B → LO h → 32 ≤ o → Rf (d + 30) 143 0 [.ref o, .int (nI k), noV, noV, noV, noV] [] (MS h o p 0 l X) = some (some (.int 0), MS h o p' op' l' X'))) ∨
    (∃ (w m p' l' : Nat) (C' : Nat → Int32), w < 5 ∧ m ≤ 99 ∧ p < p' ∧ p' ≤ n ∧ l ≤ l' ∧ l' ≤ p' ∧ (∀ i, i < l → C' i = C i) ∧ (3 ≤ w → l' = l) ∧ (w < 3 → rnD C' l (l' - l) 0 = some 1) ∧
      (∀ d h q, HB h q n u → Rf (d + 30) 14 0 [.ref q, noV, noV] [] (PS h q n lv rs p nc l W N E C) = some (some (.int 1), CST h q n lv rs p' nc l' W N E C' w m)) ∧
      (∀ d h o A B, MF h o A B → LO h → 32 ≤ o → Rf (d + 30) 143 0 [.ref o, .int (nI k), noV, noV, noV, noV] [] (MS h o p 0 l X) = some (some (.int 1), MS h o p' 0 l' (XCF X g k w m l l' C')))) := by
  intro p l C lv rs nc W N E X k hp hl hnc hk Z
  have hg := Z.2.2.2.1
  have hX1 := Z.2.1
  rcases J_w (g := g) (u := u) hn p hp with ⟨p', a1, a2, jc, jm⟩ | ⟨w, p1, hw, b1, b2, jc, jm⟩
  · exact Or.inl ⟨p', l, C, 0, X, a1, a2, fun _ _ => rfl, fun d h q H => jc (d + 25) h q lv rs nc l W N E C H, fun d h o A B F L ho => jm (d + 25) h o A B X l (nI k) F Z L ho⟩
  rcases nv_ok (u := u) b2 with ⟨c1, c2⟩ | ⟨m, hm, c1, c2, c3⟩
  · refine Or.inl ⟨p1, l, C, 0, X, by omega, b2, fun _ _ => rfl, fun d h q H => ?_, fun d h o A B F L ho => ?_⟩
    · have y1 := sp_readNumber (d := d + 24) (lv := lv) (rs := rs) (nc := nc) (l := l) (W := W) (N := N) (E := E) (C := C) H b2
      rw [c1, c2] at y1
      rw [jc (d + 25) h q lv rs nc l W N E C H]
      simp only [x14_33, x14_37, x14_38, x14_39, x14_42, x14_43, xc14_34 kcP y1, show (-1 : Int32) < 0 from by decide, retI_z0, ↓reduceIte]
    · have y1 := sp_number (d := d + 28) (op := 0) (md := l) F Z b2
      rw [c1, c2] at y1
      rw [jm (d + 25) h o A B X l (nI k) F Z L ho]
      simp only [x143_111, x143_115, x143_117, x143_119, x143_122, x143_123, xc143_112 (kcM F) y1, show (-1 : Int32) < 0 from by decide, retI_z0, ↓reduceIte]
  have m0 : ¬ nI m < 0 := nI_pos (by omega)
  generalize hp2 : (nv u n p1).2 = p2 at c2 c3
  -- both behind the number
  have cl2 : ∀ d h q, HB h q n u → Rf (d + 30) 14 0 [.ref q, noV, noV] [] (PS h q n lv rs p nc l W N E C) = Rf (d + 30) 14 44 [.ref q, .int (nI w), .int (nI m)] [] (PS h q n lv rs p2 nc l W N E C) := by
    intro d h q H
    have y1 := sp_readNumber (d := d + 24) (lv := lv) (rs := rs) (nc := nc) (l := l) (W := W) (N := N) (E := E) (C := C) H b2
    rw [c1, hp2] at y1
    rw [jc (d + 25) h q lv rs nc l W N E C H]
    simp only [x14_33, x14_37, x14_38, x14_39, xc14_34 kcP y1, m0, ↓reduceIte]
  have i231 : (231 : Int32) + nI (10 * g + k) = nI (231 + (10 * g + k)) ∧ inB (nI (231 + (10 * g + k))) 931 = true ∧ (nI (231 + (10 * g + k))).toNatClampNeg = 231 + (10 * g + k) := ixs 231 (10 * g + k) (by omega)
  have i281 : (281 : Int32) + nI (10 * g + k) = nI (281 + (10 * g + k)) ∧ inB (nI (281 + (10 * g + k))) 931 = true ∧ (nI (281 + (10 * g + k))).toNatClampNeg = 281 + (10 * g + k) := ixs 281 (10 * g + k) (by omega)
  have i331 : (331 : Int32) + nI (10 * g + k) = nI (331 + (10 * g + k)) ∧ inB (nI (331 + (10 * g + k))) 931 = true ∧ (nI (331 + (10 * g + k))).toNatClampNeg = 331 + (10 * g + k) := ixs 331 (10 * g + k) (by omega)
  have i381 : (381 : Int32) + nI (10 * g + k) = nI (381 + (10 * g + k)) ∧ inB (nI (381 + (10 * g + k))) 931 = true ∧ (nI (381 + (10 * g + k))).toNatClampNeg = 381 + (10 * g + k) := ixs 381 (10 * g + k) (by omega)
  have e10 : (10 : Int32) * nI g = nI (10 * g) := pk_mul 10 g
  have mo2 : ∀ d h o A B, MF h o A B → LO h → 32 ≤ o → Rf (d + 30) 143 0 [.ref o, .int (nI k), noV, noV, noV, noV] [] (MS h o p 0 l X) = Rf (d + 30) 143 177 [.ref o, .int (nI k), .int (sg u n p), .int (nI w), .int (nI m), .int (nI (10 * g + k))] [] (MS h o p2 0 l (X1F X g k w m l)) := by
    intro d h o A B F L ho
    have O := fun pt op md => ocf (pt := pt) (op := op) (md := md) F
    have y1 := sp_number (d := d + 28) (op := 0) (md := l) F Z b2
    rw [c1, hp2] at y1
    rw [jm (d + 25) h o A B X l (nI k) F Z L ho]
    simp only [x143_111, x143_115, x143_117, x143_119, x143_122, x143_123, x143_124, x143_126, x143_127, x143_130, x143_131, x143_132, x143_133, x143_134, x143_135, x143_137, x143_138, x143_141, x143_144, x143_146, x143_147, x143_148, x143_149, x143_150, x143_153, x143_156, x143_158, x143_159, x143_161, x143_162, x143_163, x143_166, x143_169, x143_171, x143_172, x143_173, x143_176, xc143_112 (kcM F) y1, MS_o, MS_1, MS_X, O, aT_i, aN_i, aF_i, ixL, m0, hX1, e10, nI_add, i231, i281, i331, true_or, and_self, ↓reduceIte]
    rfl
  by_cases h3 : 3 ≤ w
  · refine Or.inr ⟨w, m, p2, l, C, hw, hm, by omega, c3, Nat.le_refl _, by omega, fun _ _ => rfl, fun _ => rfl, fun z => by omega, fun d h q H => ?_, fun d h o A B F L ho => ?_⟩
    · rw [cl2 d h q H]
      unfold CST
      by_cases w3 : w = 3
      · subst w3
        simp only [x14_44, x14_45, x14_46, x14_49, x14_50, x14_51, x14_54, x14_55, PS_q, hcf, PS_lv, nI_06, retI_z1, and_self, ↓reduceIte]
      · have w4 : w = 4 := by omega
        subst w4
        simp only [x14_44, x14_45, x14_46, x14_49, x14_50, x14_51, x14_54, x14_55, x14_56, x14_57, x14_58, x14_61, x14_62, x14_63, x14_66, x14_67, PS_q, hcf, PS_rs, nI_06, l06, retI_z1, and_self, ↓reduceIte, show ¬ ((4 : Nat) = 3) from by decide]
    · have O := fun pt op md => ocf (pt := pt) (op := op) (md := md) F
      have cw : ¬ nI w < 3 := nI_nlt (a := w) (b := 3) h3 (by omega)
      rw [mo2 d h o A B F L ho]
      simp only [x143_177, x143_178, x143_179, x143_200, x143_201, x143_204, x143_207, x143_209, x143_210, x143_211, x143_214, x143_215, x143_216, MS_o, MS_1, MS_X, O, aT_i, aN_i, aF_i, cw, i381, retI_z1, true_or, and_self, ↓reduceIte]
      unfold XCF
      rw [CX_rf]
  have cw : nI w < 3 := nI_lt (a := w) (b := 3) (by omega) (by decide)
  have Z1 : XO (X1F X g k w m l) n g u := XO_cg Z (fun i hi => slo_X1 hk (slo_lo hi))
  have wne3 : (nI w = 3) = False := eq_false fun z => by
    have := (nI_eq (a := w) (b := 3) (by omega) (by decide)).mp z
    omega
  have wne4 : (nI w = 4) = False := eq_false fun z => by
    have := (nI_eq (a := w) (b := 4) (by omega) (by decide)).mp z
    omega
  by_cases h32 : tk u n p2 32
  rotate_left
  · refine Or.inl ⟨p2, l, C, 0, X1F X g k w m l, by omega, c3, fun i hi => slo_X1 hk hi, fun d h q H => ?_, fun d h o A B F L ho => ?_⟩
    · rw [cl2 d h q H]
      simp only [x14_44, x14_45, x14_46, x14_56, x14_57, x14_58, x14_68, x14_69, x14_74, x14_98, x14_99, xc14_71 kcP (tk_n (d := d + 29) H c3 (by decide) h32), show (32 : Int32) = nI 32 from rfl, wne3, wne4, retI_z0, ↓reduceIte]
    · rw [mo2 d h o A B F L ho]
      simp only [x143_177, x143_178, x143_179, x143_182, x143_183, x143_188, x143_191, x143_195, x143_198, x143_199, xc143_185 (kcM F) (is_n (d := d + 28) F Z1 c3 (by decide) h32), show (32 : Int32) = nI 32 from rfl, cw, retI_z0, ↓reduceIte]
  have hp3 : p2 + 1 ≤ n := h32.1
  obtain ⟨r, p', l', C', op', ⟨o1, o2, o3, o4, o5, o6⟩, kc, km⟩ := J_all (g := g) (u := u) hn (p2 + 1) l C hp3 (by omega)
  have hl' : l' ≤ 100 := by omega
  cases r with
  | false =>
    refine Or.inl ⟨p', l', C', op', CX (X1F X g k w m l) g l l' C', by omega, o2, fun i hi => by rw [slo_CX hl' hi]; exact slo_X1 hk hi, fun d h q H => ?_, fun d h o A B F L ho => ?_⟩
    · have e1 := Rf_up (show d + 27 ≤ d + 29 by omega) (kc d h q lv rs nc W N E H)
      simp only [bv, nI_0] at e1
      rw [cl2 d h q H]
      simp only [x14_44, x14_45, x14_46, x14_56, x14_57, x14_58, x14_68, x14_69, x14_74, x14_77, x14_78, x14_82, x14_98, x14_99, xc14_71 kcP (tk_y (d := d + 29) H c3 (by decide) h32), xc14_79 kcP e1, show (32 : Int32) = nI 32 from rfl, wne3, wne4, litZ, retI_z0, ↓reduceIte]
    · have e1 := Rf_up (show d + 27 ≤ d + 29 by omega) (km d h o A B _ F Z1)
      simp only [bv] at e1
      rw [mo2 d h o A B F L ho]
      simp only [x143_177, x143_178, x143_179, x143_182, x143_183, x143_188, x143_191, x143_195, x143_198, x143_199, xc143_185 (kcM F) (is_y (d := d + 28) F Z1 c3 (by decide) h32), xc143_192 (kcM F) e1, show (32 : Int32) = nI 32 from rfl, cw, litZ, retI_z0, ↓reduceIte]
  | true =>
    obtain ⟨o7, o8, o9⟩ := o6 rfl
    subst o8
    refine Or.inr ⟨w, m, p', l', C', hw, hm, by omega, o2, o3, by omega, o5, fun z => absurd z h3, fun _ => o9 0 (by decide), fun d h q H => ?_, fun d h o A B F L ho => ?_⟩
    · have e1 := Rf_up (show d + 27 ≤ d + 29 by omega) (kc d h q lv rs nc W N E H)
      simp only [bv, nI_0] at e1
      rw [cl2 d h q H]
      unfold CST
      rw [if_neg (show ¬ w = 3 by omega), if_neg (show ¬ w = 4 by omega)]
      simp only [x14_44, x14_45, x14_46, x14_56, x14_57, x14_58, x14_68, x14_69, x14_74, x14_77, x14_78, x14_82, x14_85, x14_86, x14_87, x14_91, x14_94, x14_95, x14_98, x14_99, xc14_71 kcP (tk_y (d := d + 29) H c3 (by decide) h32), xc14_79 kcP e1, xc14_88 kcP (sp_keep (d := d + 29) hnc), show (32 : Int32) = nI 32 from rfl, wne3, wne4, litZ, retI_z1, ↓reduceIte]
    · have O := fun pt op md => ocf (pt := pt) (op := op) (md := md) F
      have e1 := Rf_up (show d + 27 ≤ d + 29 by omega) (km d h o A B _ F Z1)
      simp only [bv] at e1
      rw [mo2 d h o A B F L ho]
      simp only [x143_177, x143_178, x143_179, x143_182, x143_183, x143_188, x143_191, x143_195, x143_200, x143_201, x143_204, x143_207, x143_209, x143_210, x143_211, x143_214, x143_215, x143_216, xc143_185 (kcM F) (is_y (d := d + 28) F Z1 c3 (by decide) h32), xc143_192 (kcM F) e1, MS_o, MS_1, MS_X, O, aT_i, aN_i, aF_i, i381, show (32 : Int32) = nI 32 from rfl, cw, litZ, retI_z1, true_or, and_self, ↓reduceIte]
      rfl
end CLA
