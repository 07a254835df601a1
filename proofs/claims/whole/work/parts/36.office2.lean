-- deps: 35.msum
/-! THE OFFICE with a HOUSE. -/
def fst (h : AHp) (o : Nat) (S : Nat → Int32) : AHp := hset h (o + 8) (.inl (0, 6, .inl S))
/-- the clauses that the class keeps -/
def flt (ml : List Cl) : List Cl := ml.filter (fun x => decide (x.1 = 0 ∨ x.1 = 1 ∨ x.1 = 2))
theorem tg_flt {f C : Nat → Int32} {y : Int32} (hy : y = 0 ∨ y = 1 ∨ y = 2) : ∀ (r : List Cl) (a : Int32), tg f C y a (flt r) = tg f C y a r := by
  intro r
  induction r with
  | nil => intro a; rfl
  | cons x r ih =>
    intro a
    unfold flt at ih ⊢
    by_cases hx : x.1 = 0 ∨ x.1 = 1 ∨ x.1 = 2
    · rw [List.filter_cons_of_pos (by simpa using hx)]
      simp only [tg]
      exact ih _
    · rw [List.filter_cons_of_neg (by simpa using hx)]
      have hne : ¬ x.1 = y := fun e => hx (by rw [e]; exact hy)
      simp only [tg, hne, false_and, ↓reduceIte]
      exact ih _
/-- the class's house at q -/
def HO (h : AHp) (q : Nat) (C : Nat → Int32) (cl : Nat) (ml : List Cl) : Prop := ∃ W N E, HF h q (la 3 20 ml) (la 4 5 ml) W N E C (flt ml).length cl ∧ HL W N E C cl (flt ml)
def ofF (A C : Nat → Int32) (ml : List Cl) (w : Nat) : Int32 := mx 0 (mn 999 (A (30 + w) + tg (fcA A w) C 0 0 ml - tg (fcA A w) C 1 0 ml))
def wiF (A C : Nat → Int32) (ml : List Cl) (w : Nat) : Int32 := tg (fcA A w) C 2 0 ml
/-- the house and the Knowings lie apart from the office -/
def AP (o q : Nat) (kn : Nat → Nat) : Prop := (q + 5 < o ∨ o + 10 < q) ∧ ∀ j, j < 10 → kn j < o ∨ o + 10 < kn j
theorem kc_k : kc (nI 0) = 4 ∧ kc (nI 1) = 2 ∧ kc (nI 2) = 5 ∧ kc (nI 3) = 9 ∧ kc (nI 4) = 1 ∧ kc (nI 5) = 8 ∧ kc (nI 6) = 0 := by decide +kernel
section O2
variable {d o q n cl : Nat} {kn : Nat → Nat} {A C S : Nat → Int32} {h : AHp} {ml : List Cl}
theorem OF_fst (F : OF h o A q kn) (S : Nat → Int32) : OF (fst h o S) o A q kn := by
  simp only [OF, fst, hset_at, plus_ne o 1 8 (by decide), plus_ne o 2 8 (by decide), plus_ne o 3 8 (by decide), plus_ne o 4 8 (by decide), plus_ne o 5 8 (by decide), plus_ne o 6 8 (by decide), plus_ne o 7 8 (by decide), plus_ne o 9 8 (by decide), plus_ne o 10 8 (by decide), plus_ne0 o 8 (by decide), ↓reduceIte, aT_i, aN_i, F, and_self]
theorem fstF (S : Nat → Int32) : aT ((fst h o S).1 (o + 8)) = 0 ∧ aN ((fst h o S).1 (o + 8)) = 6 ∧ aF ((fst h o S).1 (o + 8)) = S := by
  unfold fst
  rw [hset_at, if_pos rfl]; exact ⟨rfl, rfl, rfl⟩
theorem fst_w {S T : Nat → Int32} : hset (fst h o S) (o + 8) (.inl (0, 6, .inl T)) = fst h o T := hset_hset
theorem fst_ne {p : Nat} (hp : ¬ p = o + 8) (S : Nat → Int32) : (fst h o S).1 p = h.1 p := if_neg hp
theorem HO_fst (H : HO h q C cl ml) (hq : q + 5 < o ∨ o + 10 < q) (S : Nat → Int32) : HO (fst h o S) q C cl ml := by
  obtain ⟨W, N, E, F, Z⟩ := H
  refine ⟨W, N, E, ?_, Z⟩
  simp only [HF, fst_ne (show ¬ q = o + 8 by omega), fst_ne (show ¬ q + 2 = o + 8 by omega), fst_ne (show ¬ q + 3 = o + 8 by omega), fst_ne (show ¬ q + 4 = o + 8 by omega), fst_ne (show ¬ q + 5 = o + 8 by omega), F, and_self]
theorem sp_kind4 {d a : Nat} {h : AHp} : Rf d 30 0 [.ref a] [] h = some (some (.int (nI 0)), h) := by
  simp only [x30_0, x30_1]
  rfl
theorem sp_kind2 {d a : Nat} {h : AHp} : Rf d 9 0 [.ref a] [] h = some (some (.int (nI 1)), h) := by
  simp only [x9_0, x9_1]
  rfl
theorem sp_kind5 {d a : Nat} {h : AHp} : Rf d 36 0 [.ref a] [] h = some (some (.int (nI 2)), h) := by
  simp only [x36_0, x36_1]
  rfl
theorem sp_kind9 {d a : Nat} {h : AHp} : Rf d 89 0 [.ref a] [] h = some (some (.int (nI 3)), h) := by
  simp only [x89_0, x89_1]
  rfl
theorem sp_kind1 {d a : Nat} {h : AHp} : Rf d 5 0 [.ref a] [] h = some (some (.int (nI 4)), h) := by
  simp only [x5_0, x5_1]
  rfl
theorem sp_kind8 {d a : Nat} {h : AHp} : Rf d 85 0 [.ref a] [] h = some (some (.int (nI 5)), h) := by
  simp only [x85_0, x85_1]
  rfl
theorem sp_kind0 {d a : Nat} {h : AHp} : Rf d 1 0 [.ref a] [] h = some (some (.int (nI 6)), h) := by
  simp only [x1_0, x1_2]
  rfl
theorem vk58 {a0 a1 : Value} {s0 s2 k : Nat} {s1 : Int32} (hk : k ≤ 6) (hr : cls (h.1 s0) = kc (nI k)) : Rf (d + 1) 58 18 [a0, a1] [.ref s0, .int s1, .ref s2] h = Rf (d + 1) 58 21 [a0, a1] [.int (nI k), .int s1, .ref s2] h := by
  match k, hk with
  | 0, _ => exact xc58_18_4 (hr.trans (by decide)) sp_kind4
  | 1, _ => exact xc58_18_2 (hr.trans (by decide)) sp_kind2
  | 2, _ => exact xc58_18_5 (hr.trans (by decide)) sp_kind5
  | 3, _ => exact xc58_18_9 (hr.trans (by decide)) sp_kind9
  | 4, _ => exact xc58_18_1 (hr.trans (by decide)) sp_kind1
  | 5, _ => exact xc58_18_8 (hr.trans (by decide)) sp_kind8
  | 6, _ => exact xc58_18_0 (hr.trans (by decide)) sp_kind0
theorem kind_of (R : RG A n) {w : Nat} (hw : w < 10) : ∃ k, k ≤ 6 ∧ A (60 + w) = nI k := (R.2.2.2.1 w hw).1
theorem sp_takeFacts (F : OF h o A q kn) (K : KN h A kn) (R : RG A n) (P : AP o q kn) {w : Nat} (hw : w < n) : ∃ S', (∀ j, j < 6 → S' j = fcA A w j) ∧ Rf (d + 1) 58 0 [.ref o, .int (nI w)] [] (fst h o S) = some (none, fst h o S') := by
  have hn := R.1
  have hw10 : w < 10 := by omega
  obtain ⟨k, hk, hk2⟩ := kind_of R hw10
  have c2 : inB (nI w) 10 = true := nI_inB (by omega) (by omega)
  have c3 : (nI w).toNatClampNeg = w := nI_clamp (by omega)
  have kw : ∀ S, (fst h o S).1 (kn w) = h.1 (kn w) := fst_ne (by have := P.2 w hw10; omega)
  have hr : ∀ S, cls ((fst h o S).1 (kn w)) = kc (nI k) := fun S => by rw [kw, (K w hw10).1, hk2]
  have e1 := fun S => vk58 (d := d) (h := fst h o S) (a0 := .ref o) (a1 := .int (nI w)) (s2 := o + 8) (s1 := 1) hk (hr S)
  refine ⟨upd (upd (upd (upd (upd (upd S 0 (nI w)) 1 (nI k)) 2 (A (40 + w))) 3 (A (20 + w) / 10)) 4 (A (30 + w) / 10)) 5 (remI (A 6) 10), ?_, by
    simp only [x58_0, x58_1, x58_4, x58_5, x58_6, x58_7, x58_8, x58_11, x58_12, x58_13, x58_16, x58_17, x58_21, x58_22, x58_23, x58_26, x58_27, x58_28, x58_31, x58_32, x58_33, x58_34, x58_35, x58_38, x58_39, x58_40, x58_43, x58_44, x58_45, x58_47, x58_48, x58_49, x58_50, x58_53, x58_54, x58_55, x58_58, x58_59, x58_60, x58_62, x58_63, x58_64, x58_65, x58_68, x58_69, x58_70, x58_73, x58_75, x58_76, x58_77, e1, OF_fst F, fstF, fst_w, c2, c3, sub_at hw10, krR_at hw10, Option.isSome_some, Option.getD_some, true_or, and_self, ↓reduceIte, litZ, not_false_eq_true, show inB 0 6 = true from by decide, show inB 1 6 = true from by decide, show inB 2 6 = true from by decide, show inB 3 6 = true from by decide, show inB 4 6 = true from by decide, show inB 5 6 = true from by decide, ixL]⟩
  intro j hj
  match j, hj with
  | 0, _ => rfl
  | 1, _ => exact hk2.symm
  | 2, _ => rfl
  | 3, _ => rfl
  | 4, _ => rfl
  | 5, _ => rfl
theorem sp_offerTo (F : OF h o A q kn) (K : KN h A kn) (R : RG A n) (P : AP o q kn) (H : HO h q C cl ml) {w : Nat} (hw : w < n) : ∃ S', Rf (d + 3) 56 0 [.ref o, .int (nI w), noV] [] (fst h o S) = some (some (.int (ofF A C ml w)), fst h o S') := by
  have hn := R.1
  have hw10 : w < 10 := by omega
  have c2 : inB (nI w) 10 = true := nI_inB (by omega) (by omega)
  have c3 : (nI w).toNatClampNeg = w := nI_clamp (by omega)
  obtain ⟨S', hS, e1⟩ := sp_takeFacts (d := d + 1) (S := S) F K R P hw
  obtain ⟨W, N, E, G, Z⟩ := HO_fst H P.1 S'
  have e2 := sp_together (d := d) (w := 0) G Z (fstF S').1 (fstF S').2.1 (fstF S').2.2
  have e3 := sp_together (d := d) (w := 1) G Z (fstF S').1 (fstF S').2.1 (fstF S').2.2
  rw [tg_congr hS, tg_flt (by decide)] at e2 e3
  have e4 := sp_min (d := d + 2) (a := 999) (b := A (30 + w) + tg (fcA A w) C 0 0 ml - tg (fcA A w) C 1 0 ml) (h := fst h o S')
  have e5 := sp_max (d := d + 2) (a := 0) (b := mn 999 (A (30 + w) + tg (fcA A w) C 0 0 ml - tg (fcA A w) C 1 0 ml)) (h := fst h o S')
  have F1 := OF_fst F
  refine ⟨S', ?_⟩
  simp only [x56_0, x56_1, x56_5, x56_6, x56_9, x56_10, x56_11, x56_12, x56_15, x56_16, x56_17, x56_23, x56_24, x56_25, x56_28, x56_29, x56_30, x56_36, x56_37, x56_38, x56_39, x56_42, x56_49, xc56_2 (F1 S).1 e1, F1, c2, c3, sub_at hw10, true_or, and_self, ↓reduceIte, xc56_20 G.1 e2, xc56_33 G.1 e3, xc56_43 e4, xc56_46 e5, ofF]
theorem sp_wishOf (F : OF h o A q kn) (K : KN h A kn) (R : RG A n) (P : AP o q kn) (H : HO h q C cl ml) {w : Nat} (hw : w < n) : ∃ S', Rf (d + 3) 57 0 [.ref o, .int (nI w)] [] (fst h o S) = some (some (.int (wiF A C ml w)), fst h o S') := by
  obtain ⟨S', hS, e1⟩ := sp_takeFacts (d := d + 1) (S := S) F K R P hw
  obtain ⟨W, N, E, G, Z⟩ := HO_fst H P.1 S'
  have e2 := sp_together (d := d) (w := 2) G Z (fstF S').1 (fstF S').2.1 (fstF S').2.2
  rw [tg_congr hS, tg_flt (by decide)] at e2
  have F1 := OF_fst F
  refine ⟨S', ?_⟩
  simp only [x57_0, x57_1, x57_5, x57_6, x57_9, x57_10, x57_11, x57_17, xc57_2 (F1 S).1 e1, F1, true_or, and_self, ↓reduceIte, xc57_14 G.1 e2, wiF]
def glF (A : Nat → Int32) (w : Nat) (b : Int32) : Int32 := if A 5 = 3 ∧ A (20 + w) - b < 0 then 2 * (A (20 + w) - b) else A (20 + w) - b
theorem sp_gladBy (F : OF h o A q kn) (R : RG A n) {w : Nat} (hw : w < n) {b : Int32} : Rf d 55 0 [.ref o, .int (nI w), .int b, noV] [] h = some (some (.int (glF A w b)), h) := by
  have hn := R.1
  have hw10 : w < 10 := by omega
  have c2 : inB (nI w) 10 = true := nI_inB (by omega) (by omega)
  have c3 : (nI w).toNatClampNeg = w := nI_clamp (by omega)
  simp only [x55_0, x55_1, x55_4, x55_5, x55_6, x55_7, x55_8, x55_9, x55_10, x55_13, x55_14, x55_17, x55_18, x55_21, x55_22, x55_23, x55_24, x55_27, x55_28, F, c2, c3, sub_at hw10, true_or, and_self, ↓reduceIte, glF]
  by_cases h1 : A 5 = 3
  · by_cases h2 : A (20 + w) - b < 0
    · simp only [h1, h2, and_self, ↓reduceIte]
    · simp only [h1, h2, and_false, ↓reduceIte]
  · simp only [h1, false_and, ↓reduceIte]
def doF (A : Nat → Int32) (lv : Int32) (w : Nat) (b of wi : Int32) : Int32 := if glF A w b + lv < 0 ∧ A (20 + w) < of then 2 else if glF A w b < 0 ∨ 0 < wi then 1 else 0
theorem sp_doneFor (F : OF h o A q kn) (R : RG A n) (H : HO h q C cl ml) {w : Nat} (hw : w < n) {b of wi : Int32} : Rf (d + 1) 60 0 [.ref o, .int (nI w), .int b, .int of, .int wi, noV] [] h = some (some (.int (doF A (la 3 20 ml) w b of wi)), h) := by
  have hn := R.1
  have hw10 : w < 10 := by omega
  have c2 : inB (nI w) 10 = true := nI_inB (by omega) (by omega)
  have c3 : (nI w).toNatClampNeg = w := nI_clamp (by omega)
  obtain ⟨W, N, E, G, Z⟩ := H
  have e1 := sp_gladBy (d := d) F R hw (b := b)
  simp only [x60_0, x60_1, x60_2, x60_6, x60_8, x60_10, x60_11, x60_14, x60_17, x60_18, x60_21, x60_22, x60_23, x60_26, x60_27, x60_28, x60_31, x60_32, x60_33, x60_35, x60_38, x60_40, x60_43, x60_44, x60_47, x60_48, xc60_3 F.1 e1, F, G, c2, c3, sub_at hw10, true_or, and_self, ↓reduceIte, doF]
  by_cases h1 : glF A w b + la 3 20 ml < 0
  · by_cases h2 : A (20 + w) < of
    · simp only [h1, h2, and_self, ↓reduceIte]
    · simp only [h1, h2, and_false, ↓reduceIte]
      by_cases h3 : glF A w b < 0
      · simp only [h3, true_or, ↓reduceIte]
      · by_cases h4 : 0 < wi
        · simp only [h3, h4, or_true, ↓reduceIte]
        · simp only [h3, h4, or_self, ↓reduceIte]
  · simp only [h1, false_and, ↓reduceIte]
    by_cases h3 : glF A w b < 0
    · simp only [h3, true_or, ↓reduceIte]
    · by_cases h4 : 0 < wi
      · simp only [h3, h4, or_true, ↓reduceIte]
      · simp only [h3, h4, or_self, ↓reduceIte]
/-- what the PAY comes to behind a YEAR -/
def pbF (A : Nat → Int32) (rs : Int32) (w : Nat) (dn of wi : Int32) : Int32 := if dn = 2 then of else if ¬ dn = 1 then A (20 + w) else mn (if A (20 + w) < of then mn (A (20 + w) + rs + wi) of else A (20 + w) + rs + wi) 999
theorem sp_payBehind (F : OF h o A q kn) (R : RG A n) (H : HO h q C cl ml) {w : Nat} (hw : w < n) {dn of wi : Int32} : Rf (d + 1) 62 0 [.ref o, .int (nI w), .int dn, .int of, .int wi, noV] [] h = some (some (.int (pbF A (la 4 5 ml) w dn of wi)), h) := by
  have hn := R.1
  have hw10 : w < 10 := by omega
  have c2 : inB (nI w) 10 = true := nI_inB (by omega) (by omega)
  have c3 : (nI w).toNatClampNeg = w := nI_clamp (by omega)
  obtain ⟨W, N, E, G, Z⟩ := H
  simp only [x62_0, x62_1, x62_2, x62_5, x62_6, x62_7, x62_8, x62_9, x62_12, x62_13, x62_16, x62_17, x62_18, x62_19, x62_20, x62_23, x62_24, x62_25, x62_26, x62_29, x62_32, x62_33, x62_35, x62_36, x62_38, x62_39, x62_42, x62_43, x62_44, x62_45, x62_48, x62_50, x62_54, x62_56, x62_58, x62_64, xc62_61 sp_min, xc62_51 sp_min, F, G, c2, c3, sub_at hw10, true_or, and_self, ↓reduceIte, pbF]
  by_cases h1 : dn = 2
  · simp only [h1, ↓reduceIte]
  · by_cases h2 : dn = 1
    · simp only [h2, ↓reduceIte, not_true_eq_false, show ¬ (1 : Int32) = 2 from by decide]
      by_cases h3 : A (20 + w) < of
      · simp only [h3, ↓reduceIte]
      · simp only [h3, ↓reduceIte]
    · simp only [h1, h2, ↓reduceIte, not_false_eq_true]
def mnyF (A : Nat → Int32) (y : Int32) : Int32 → Nat → Nat → Int32 := lpF (fun a w => if A (40 + w) = y then a + 1 else a)
def polF (A : Nat → Int32) (y : Int32) : Int32 → Nat → Nat → Int32 := lpF (fun a w => if A (40 + w) = y then a + A (20 + w) else a)
theorem lp_manyOf (F : OF h o A q kn) (R : RG A n) {y : Int32} : ∀ (k w : Nat) (a : Int32), w + k = n → Rf d 63 4 [.ref o, .int y, .int a, .int (nI w)] [] h = some (some (.int (mnyF A y a w k)), h) := by
  have hn := R.1
  have h0 := R.2.1
  intro k
  induction k with
  | zero =>
    intro w a hw
    have c1 : ¬ nI w < nI n := nI_nlt (by omega) (by omega)
    simp only [x63_0, x63_1, x63_2, x63_3, x63_4, x63_5, x63_6, x63_9, x63_12, x63_13, x63_16, x63_17, x63_18, x63_19, x63_22, x63_25, x63_28, x63_31, x63_32, F, h0, c1, and_self, ↓reduceIte, mnyF, lpF]
  | succ k ih =>
    intro w a hw
    have c1 : nI w < nI n := nI_lt (by omega) (by omega)
    have c2 : inB (nI w) 10 = true := nI_inB (by omega) (by omega)
    have c3 : (nI w).toNatClampNeg = w := nI_clamp (by omega)
    have e1 := ih (w + 1) (if A (40 + w) = y then a + 1 else a) (by omega)
    rw [x63_4]
    simp only [x63_5, x63_6, x63_9, x63_12, x63_13, x63_16, x63_17, x63_18, x63_19, x63_22, x63_25, x63_28, x63_31, x63_32, F, h0, c1, c2, c3, sub_at (show w < 10 by omega), nI_1, true_or, and_self, ↓reduceIte]
    show _ = some (some (Value.int (mnyF A y (if A (40 + w) = y then a + 1 else a) (w + 1) k)), h)
    by_cases h1 : A (40 + w) = y
    · simp only [h1, ↓reduceIte] at e1 ⊢
      exact e1
    · simp only [h1, ↓reduceIte] at e1 ⊢
      exact e1
theorem lp_payOfLot (F : OF h o A q kn) (R : RG A n) {y : Int32} : ∀ (k w : Nat) (a : Int32), w + k = n → Rf d 64 4 [.ref o, .int y, .int a, .int (nI w)] [] h = some (some (.int (polF A y a w k)), h) := by
  have hn := R.1
  have h0 := R.2.1
  intro k
  induction k with
  | zero =>
    intro w a hw
    have c1 : ¬ nI w < nI n := nI_nlt (by omega) (by omega)
    simp only [x64_0, x64_1, x64_2, x64_3, x64_4, x64_5, x64_6, x64_9, x64_12, x64_13, x64_16, x64_17, x64_18, x64_19, x64_22, x64_23, x64_24, x64_27, x64_28, x64_29, x64_30, x64_31, x64_34, x64_37, x64_38, F, h0, c1, and_self, ↓reduceIte, polF, lpF]
  | succ k ih =>
    intro w a hw
    have c1 : nI w < nI n := nI_lt (by omega) (by omega)
    have c2 : inB (nI w) 10 = true := nI_inB (by omega) (by omega)
    have c3 : (nI w).toNatClampNeg = w := nI_clamp (by omega)
    have e1 := ih (w + 1) (if A (40 + w) = y then a + A (20 + w) else a) (by omega)
    rw [x64_4]
    simp only [x64_5, x64_6, x64_9, x64_12, x64_13, x64_16, x64_17, x64_18, x64_19, x64_22, x64_23, x64_24, x64_27, x64_28, x64_29, x64_30, x64_31, x64_34, x64_37, x64_38, F, h0, c1, c2, c3, sub_at (show w < 10 by omega), nI_1, true_or, and_self, ↓reduceIte]
    show _ = some (some (Value.int (polF A y (if A (40 + w) = y then a + A (20 + w) else a) (w + 1) k)), h)
    by_cases h1 : A (40 + w) = y
    · simp only [h1, ↓reduceIte] at e1 ⊢
      exact e1
    · simp only [h1, ↓reduceIte] at e1 ⊢
      exact e1
theorem sp_manyOf (F : OF h o A q kn) (R : RG A n) {y : Int32} : Rf d 63 0 [.ref o, .int y, noV, noV] [] h = some (some (.int (mnyF A y 0 0 n)), h) := by
  have e := lp_manyOf (d := d) F R (y := y) n 0 0 (by omega)
  rw [nI_0] at e
  simp only [x63_0, x63_1, x63_2, x63_3]
  exact e
theorem sp_payOfLot (F : OF h o A q kn) (R : RG A n) {y : Int32} : Rf d 64 0 [.ref o, .int y, noV, noV] [] h = some (some (.int (polF A y 0 0 n)), h) := by
  have e := lp_payOfLot (d := d) F R (y := y) n 0 0 (by omega)
  rw [nI_0] at e
  simp only [x64_0, x64_1, x64_2, x64_3]
  exact e
def gapF (A : Nat → Int32) (n : Nat) : Int32 := if mnyF A 0 0 0 n = 0 ∨ mnyF A 1 0 0 n = 0 then 0 else polF A 0 0 0 n / mnyF A 0 0 0 n - polF A 1 0 0 n / mnyF A 1 0 0 n
theorem sp_gap (F : OF h o A q kn) (R : RG A n) : Rf (d + 1) 65 0 [.ref o, noV, noV] [] h = some (some (.int (gapF A n)), h) := by
  have e0 := sp_manyOf (d := d) F R (y := 0)
  have e1 := sp_manyOf (d := d) F R (y := 1)
  have e2 := sp_payOfLot (d := d) F R (y := 0)
  have e3 := sp_payOfLot (d := d) F R (y := 1)
  simp only [x65_0, x65_1, x65_5, x65_6, x65_7, x65_11, x65_12, x65_13, x65_16, x65_17, x65_20, x65_21, x65_24, x65_25, x65_29, x65_30, x65_31, x65_32, x65_36, x65_37, x65_38, x65_39, xc65_2 F.1 e0, xc65_8 F.1 e1, xc65_26 F.1 e2, xc65_33 F.1 e3, gapF]
  by_cases h1 : mnyF A 0 0 0 n = 0
  · simp only [h1, true_or, ↓reduceIte]
  · by_cases h2 : mnyF A 1 0 0 n = 0
    · simp only [h1, h2, or_true, ↓reduceIte]
    · simp only [h1, h2, or_self, ↓reduceIte, not_false_eq_true]
end O2
