-- deps: 37.belief
/-! THE MODEL: who sits where, what each believes, what each does. -/
theorem ixs (b w : Nat) (h : b + w < 931) : nI b + nI w = nI (b + w) ∧ inB (nI (b + w)) 931 = true ∧ (nI (b + w)).toNatClampNeg = b + w := ix b w 931 h (by decide)
theorem mn_comm (a b : Int32) : mn a b = mn b a := by
  unfold mn
  by_cases h : b < a
  · rw [if_pos h, if_neg (fun z => absurd (Int32.lt_iff_toInt_lt.mp z) (by have := Int32.lt_iff_toInt_lt.mp h; omega))]
  · rw [if_neg h]
    by_cases h2 : a < b
    · rw [if_pos h2]
    · rw [if_neg h2]
      exact Int32.le_antisymm (Int32.not_lt.mp h) (Int32.not_lt.mp h2)
section MB
variable {d o n cl : Nat} {A B C S : Nat → Int32} {h : AHp} {ml : List Cl}
theorem lp_sits (F : MF h o A B) (R : RG A n) {x : Int32} : ∀ (k w : Nat), w + k = n → Rf d 157 2 [.ref o, .int x, .int (nI w)] [] h = some (some (.int (sitK A x w k)), h) := by
  have hn := R.1
  have h0 := R.2.1
  intro k
  induction k with
  | zero =>
    intro w hw
    have c1 : ¬ nI w < nI n := nI_nlt (by omega) (by omega)
    simp only [x157_0, x157_1, x157_2, x157_3, x157_4, x157_7, x157_8, x157_9, x157_12, x157_13, x157_16, x157_18, x157_19, x157_20, x157_21, x157_22, x157_25, x157_26, x157_27, x157_30, x157_33, x157_34, F, ixL, h0, c1, true_or, and_self, ↓reduceIte, sitK]
  | succ k ih =>
    intro w hw
    have c1 : nI w < nI n := nI_lt (by omega) (by omega)
    have e1 := ih (w + 1) (by omega)
    rw [x157_2]
    simp only [x157_3, x157_4, x157_7, x157_8, x157_9, x157_12, x157_13, x157_16, x157_18, x157_19, x157_20, x157_21, x157_22, x157_25, x157_26, x157_27, x157_30, x157_33, x157_34, F, ixL, h0, c1, show (10 : Int32) = nI 10 from rfl, ixs 10 w (by omega), nI_1, true_or, and_self, ↓reduceIte, sitK]
    split
    · rfl
    · exact e1
theorem sp_sits (F : MF h o A B) (R : RG A n) {x : Int32} : Rf d 157 0 [.ref o, .int x, noV] [] h = some (some (.int (sit A x)), h) := by
  have e := lp_sits (d := d) F R (x := x) n 0 (by omega)
  rw [nI_0] at e
  simp only [x157_0, x157_1, sit, A0c R]
  exact e
theorem sit_neg (R : RG A n) {x : Int32} : sit A x < 0 ↔ sit A x = -1 := by
  have hn := R.1
  rcases sit_rng R x with e | ⟨j, hj, e, -⟩
  · rw [e]; exact ⟨fun _ => rfl, fun _ => by decide⟩
  · rw [e]
    constructor
    · intro z; exact absurd z (nI_pos (by omega))
    · intro z; exact absurd (show nI j < 0 by rw [z]; decide) (nI_pos (by omega))
theorem lp_bes0 (F : MF h o A B) (R : RG A n) {v : Value} : ∀ (e : Nat), e ≤ 10 → Rf (d + 1) 161 12 [.ref o, v, .int (-1), .int (nI e + -1)] [] h = some (some (.int (ahK A e)), h) := by
  intro e
  induction e with
  | zero =>
    intro _
    rw [nI_0, show (0 : Int32) + -1 = -1 from by decide]
    simp only [x161_0, x161_1, x161_4, x161_6, x161_7, x161_8, x161_9, x161_10, x161_11, x161_12, x161_13, x161_14, x161_19, x161_22, x161_23, x161_27, x161_30, x161_31, x161_35, x161_36, x161_37, x161_38, x161_39, x161_40, x161_43, x161_44, xc161_16 (sp_mwithin (d := d)), b2_0, show ¬ (¬ (-1 : Int32) < 0 ∧ ¬ (9 : Int32) < -1) from by decide, ahK, ↓reduceIte, not_false_eq_true]
  | succ e ih =>
    intro he
    have e1 := ih (by omega)
    have c1 : ¬ (9 : Int32) < nI e := nI_nlt (b := e) (a := 9) (by omega) (by omega)
    have c2 : ¬ nI e < 0 := nI_pos (by omega)
    rw [pk_m1]
    rw [x161_12]
    simp only [x161_13, x161_14, x161_19, x161_22, x161_23, x161_27, x161_30, x161_31, x161_35, x161_36, x161_37, x161_38, x161_39, x161_40, x161_43, x161_44, xc161_16 (sp_mwithin (d := d)), xc161_24 F.1 (sp_sits F R), xc161_32 F.1 (sp_sits F R), b2_0, c1, c2, not_false_eq_true, not_true_eq_false, and_self, sit_neg R, ahK, ↓reduceIte]
    split
    · exact e1
    · rfl
theorem lp_bes1 (F : MF h o A B) (R : RG A n) {v : Value} : ∀ (k e : Nat), e + k = 10 → Rf (d + 1) 161 12 [.ref o, v, .int 1, .int (nI e)] [] h = some (some (.int (bhK A e k)), h) := by
  intro k
  induction k with
  | zero =>
    intro e he
    have : e = 10 := by omega
    subst this
    simp only [x161_0, x161_1, x161_4, x161_6, x161_7, x161_8, x161_9, x161_10, x161_11, x161_12, x161_13, x161_14, x161_19, x161_22, x161_23, x161_27, x161_30, x161_31, x161_35, x161_36, x161_37, x161_38, x161_39, x161_40, x161_43, x161_44, xc161_16 (sp_mwithin (d := d)), b2_0, show ¬ (¬ nI 10 < 0 ∧ ¬ (9 : Int32) < nI 10) from by decide, bhK, ↓reduceIte, not_false_eq_true]
  | succ k ih =>
    intro e he
    have e1 := ih (e + 1) (by omega)
    have c1 : ¬ (9 : Int32) < nI e := nI_nlt (b := e) (a := 9) (by omega) (by omega)
    have c2 : ¬ nI e < 0 := nI_pos (by omega)
    rw [x161_12]
    simp only [x161_13, x161_14, x161_19, x161_22, x161_23, x161_27, x161_30, x161_31, x161_35, x161_36, x161_37, x161_38, x161_39, x161_40, x161_43, x161_44, xc161_16 (sp_mwithin (d := d)), xc161_24 F.1 (sp_sits F R), xc161_32 F.1 (sp_sits F R), b2_0, c1, c2, not_false_eq_true, not_true_eq_false, and_self, sit_neg R, bhK, nI_1, ↓reduceIte]
    split
    · exact e1
    · rfl
theorem sp_bes0 (F : MF h o A B) (R : RG A n) {w : Nat} (hw : w < n) : Rf (d + 1) 161 0 [.ref o, .int (nI w), .int (-1), noV] [] h = some (some (.int (ahead A w)), h) := by
  have hn := R.1
  obtain ⟨k, hk, e1, e2⟩ := desk_of R hw
  have e3 := lp_bes0 (d := d) F R (v := .int (nI w)) k (by omega)
  simp only [x161_0, x161_1, x161_4, x161_6, x161_7, x161_8, x161_9, x161_10, x161_11, F, show (10 : Int32) = nI 10 from rfl, ixs 10 w (by omega), e1, true_or, and_self, ↓reduceIte, ahead, e2]
  rw [← e1] at e3 ⊢
  rw [e1, nI_clamp (by omega)]
  rw [e1] at e3
  exact e3
theorem sp_bes1 (F : MF h o A B) (R : RG A n) {w : Nat} (hw : w < n) : Rf (d + 1) 161 0 [.ref o, .int (nI w), .int 1, noV] [] h = some (some (.int (behind A w)), h) := by
  have hn := R.1
  obtain ⟨k, hk, e1, e2⟩ := desk_of R hw
  have e3 := lp_bes1 (d := d) F R (v := .int (nI w)) (9 - k) (k + 1) (by omega)
  unfold behind
  rw [e2]
  simp only [x161_0, x161_1, x161_4, x161_6, x161_7, x161_8, x161_9, x161_10, x161_11, F, show (10 : Int32) = nI 10 from rfl, ixs 10 w (by omega), e1, nI_1, true_or, and_self, ↓reduceIte]
  exact e3
theorem lp_mpays (F : MF h o A B) (R : RG A n) : ∀ (k w : Nat) (a : Int32), w + k = n → Rf d 155 4 [.ref o, .int a, .int (nI w)] [] h = some (some (.int (pyF A a w k)), h) := by
  have hn := R.1
  have h0 := R.2.1
  intro k
  induction k with
  | zero =>
    intro w a hw
    have c1 : ¬ nI w < nI n := nI_nlt (by omega) (by omega)
    simp only [x155_0, x155_1, x155_2, x155_3, x155_4, x155_5, x155_6, x155_9, x155_10, x155_11, x155_14, x155_15, x155_16, x155_19, x155_21, x155_22, x155_23, x155_24, x155_25, x155_26, x155_29, x155_32, x155_33, F, ixL, h0, c1, true_or, and_self, ↓reduceIte, pyF, lpF]
  | succ k ih =>
    intro w a hw
    have c1 : nI w < nI n := nI_lt (by omega) (by omega)
    have e1 := ih (w + 1) (a + A (20 + w)) (by omega)
    rw [x155_4]
    simp only [x155_5, x155_6, x155_9, x155_10, x155_11, x155_14, x155_15, x155_16, x155_19, x155_21, x155_22, x155_23, x155_24, x155_25, x155_26, x155_29, x155_32, x155_33, F, ixL, h0, c1, show (20 : Int32) = nI 20 from rfl, ixs 20 w (by omega), nI_1, true_or, and_self, ↓reduceIte]
    exact e1
theorem sp_mpays (F : MF h o A B) (R : RG A n) : Rf d 155 0 [.ref o, noV, noV] [] h = some (some (.int (pays A)), h) := by
  have e := lp_mpays (d := d) F R n 0 0 (by omega)
  rw [nI_0] at e
  simp only [x155_0, x155_1, x155_2, x155_3, pays, A0c R]
  exact e
theorem lp_mgap (F : MF h o A B) (R : RG A n) : ∀ (k w : Nat) (m s al : Int32), w + k = n → Rf d 154 9 [.ref o, .int m, .int s, .int al, .int (nI w)] [] h = Rf d 154 71 [.ref o, .int (mnyF A 0 m w k), .int (polF A 0 s w k), .int (pyF A al w k), .int (nI n)] [] h := by
  have hn := R.1
  have h0 := R.2.1
  intro k
  induction k with
  | zero =>
    intro w m s al hw
    have c1 : ¬ nI w < nI n := nI_nlt (by omega) (by omega)
    have hw2 : w = n := by omega
    subst hw2
    simp only [x154_9, x154_11, x154_12, x154_15, x154_16, x154_17, F, ixL, h0, c1, true_or, and_self, ↓reduceIte, pyF, mnyF, polF, lpF]
  | succ k ih =>
    intro w m s al hw
    have c1 : nI w < nI n := nI_lt (by omega) (by omega)
    have e1 := ih (w + 1) (if A (40 + w) = 0 then m + 1 else m) (if A (40 + w) = 0 then s + A (20 + w) else s) (al + A (20 + w)) (by omega)
    rw [x154_9]
    simp only [x154_11, x154_12, x154_15, x154_16, x154_17, x154_20, x154_21, x154_22, x154_25, x154_27, x154_29, x154_30, x154_31, x154_32, x154_33, x154_34, x154_37, x154_39, x154_41, x154_42, x154_43, x154_46, x154_49, x154_52, x154_53, x154_54, x154_57, x154_59, x154_61, x154_62, x154_63, x154_64, x154_65, x154_68, F, ixL, h0, c1, show (20 : Int32) = nI 20 from rfl, show (40 : Int32) = nI 40 from rfl, ixs 20 w (by omega), ixs 40 w (by omega), nI_1, true_or, and_self, ↓reduceIte]
    show _ = Rf d 154 71 [.ref o, .int (mnyF A 0 (if A (40 + w) = 0 then m + 1 else m) (w + 1) k), .int (polF A 0 (if A (40 + w) = 0 then s + A (20 + w) else s) (w + 1) k), .int (pyF A (al + A (20 + w)) (w + 1) k), .int (nI n)] [] h
    rw [← e1]
    by_cases hl : A (40 + w) = 0
    · simp only [hl, ↓reduceIte]
    · simp only [hl, ↓reduceIte]
theorem lot2 (R : RG A n) : ∀ (k w : Nat) (a b m l : Int32), w + k ≤ n → pyF A (a + b) w k = polF A 0 a w k + polF A 1 b w k ∧ m + l + nI k = mnyF A 0 m w k + mnyF A 1 l w k := by
  intro k
  induction k with
  | zero => intro w a b m l hw; exact ⟨rfl, by simp [mnyF, lpF, nI_0]⟩
  | succ k ih =>
    intro w a b m l hw
    have hl := (R.2.2.1 w (by omega)).2.2.2.1
    rcases hl with e | e
    · have q := ih (w + 1) (a + A (20 + w)) b (m + 1) l (by omega)
      have e2 : ¬ A (40 + w) = 1 := by rw [e]; decide
      constructor
      · show pyF A (a + b + A (20 + w)) (w + 1) k = polF A 0 (if A (40 + w) = 0 then a + A (20 + w) else a) (w + 1) k + polF A 1 (if A (40 + w) = 1 then b + A (20 + w) else b) (w + 1) k
        rw [if_pos e, if_neg e2, ← q.1]
        congr 1
        rw [Int32.add_assoc, Int32.add_assoc, Int32.add_comm b]
      · show _ = mnyF A 0 (if A (40 + w) = 0 then m + 1 else m) (w + 1) k + mnyF A 1 (if A (40 + w) = 1 then l + 1 else l) (w + 1) k
        rw [if_pos e, if_neg e2, ← q.2, nI_succ, Int32.add_assoc m 1 l, Int32.add_comm 1 l, Int32.add_assoc m l, Int32.add_comm (nI k) 1, ← Int32.add_assoc m, ← Int32.add_assoc m, Int32.add_assoc (m + l)]
    · have q := ih (w + 1) a (b + A (20 + w)) m (l + 1) (by omega)
      have e2 : ¬ A (40 + w) = 0 := by rw [e]; decide
      constructor
      · show pyF A (a + b + A (20 + w)) (w + 1) k = polF A 0 (if A (40 + w) = 0 then a + A (20 + w) else a) (w + 1) k + polF A 1 (if A (40 + w) = 1 then b + A (20 + w) else b) (w + 1) k
        rw [if_neg e2, if_pos e, ← q.1, Int32.add_assoc]
      · show _ = mnyF A 0 (if A (40 + w) = 0 then m + 1 else m) (w + 1) k + mnyF A 1 (if A (40 + w) = 1 then l + 1 else l) (w + 1) k
        rw [if_neg e2, if_pos e, ← q.2, nI_succ, Int32.add_comm (nI k) 1, ← Int32.add_assoc m l 1, Int32.add_assoc (m + l) 1]
theorem sp_mgap (F : MF h o A B) (R : RG A n) : Rf d 154 0 [.ref o, noV, noV, noV, noV] [] h = some (some (.int (gapF A n)), h) := by
  have e := lp_mgap (d := d) F R n 0 0 0 0 (by omega)
  rw [nI_0] at e
  have q := lot2 R n 0 0 0 0 0 (by omega)
  have q1 : pyF A 0 0 n - polF A 0 0 0 n = polF A 1 0 0 n := by
    have := q.1
    rw [show (0 : Int32) + 0 = 0 from by decide] at this
    rw [this, Int32.add_comm, Int32.add_sub_cancel]
  have q2 : nI n - mnyF A 0 0 0 n = mnyF A 1 0 0 n := by
    have := q.2
    rw [show (0 : Int32) + 0 = 0 from by decide, Int32.zero_add] at this
    rw [this, Int32.add_comm, Int32.add_sub_cancel]
  simp only [x154_0, x154_1, x154_2, x154_3, x154_4, x154_5, x154_6, x154_7]
  rw [e]
  simp only [x154_71, x154_72, x154_75, x154_76, x154_77, x154_78, x154_79, x154_81, x154_82, x154_85, x154_87, x154_90, x154_91, x154_94, x154_95, x154_96, x154_97, x154_98, x154_99, x154_100, x154_102, x154_103, x154_104, F, ixL, R.2.1, true_or, and_self, ↓reduceIte, q1, q2, gapF]
  by_cases h1 : mnyF A 0 0 0 n = 0
  · simp only [h1, true_or, ↓reduceIte]
  · by_cases h2 : mnyF A 1 0 0 n = 0
    · simp only [h1, h2, or_true, ↓reduceIte]
    · simp only [h1, h2, or_self, ↓reduceIte, not_false_eq_true]
/-- the model's least and greatest: it begins with the first WORKER's -/
theorem lp_mmid (F : MF h o A B) (R : RG A n) {v1 v2 v6 v7 v8 v9 : Value} : ∀ (k w : Nat) (a b : Int32), w + k = n → Rf (d + 1) 162 146 [.ref o, v1, v2, .int a, .int b, .int (nI w), v6, v7, v8, v9] [] h = some (some (.int (((midS A (a, b) w k).1 + (midS A (a, b) w k).2) / 2)), h) := by
  have hn := R.1
  have h0 := R.2.1
  intro k
  induction k with
  | zero =>
    intro w a b hw
    have c1 : ¬ nI w < nI n := nI_nlt (by omega) (by omega)
    simp only [x162_146, x162_148, x162_149, x162_152, x162_153, x162_154, x162_157, x162_158, x162_159, x162_162, x162_164, x162_166, x162_167, x162_171, x162_172, x162_174, x162_175, x162_178, x162_180, x162_182, x162_183, x162_187, x162_189, x162_192, x162_195, x162_196, x162_198, x162_199, x162_200, x162_201, F, ixL, h0, c1, true_or, and_self, ↓reduceIte, midS, lpF, litZ, not_false_eq_true]
  | succ k ih =>
    intro w a b hw
    have c1 : nI w < nI n := nI_lt (by omega) (by omega)
    have e1 := ih (w + 1) (mn a (A (20 + w))) (mx b (A (20 + w))) (by omega)
    rw [x162_146]
    simp only [x162_148, x162_149, x162_152, x162_153, x162_154, x162_157, x162_158, x162_159, x162_162, x162_164, x162_166, x162_167, x162_171, x162_172, x162_174, x162_175, x162_178, x162_180, x162_182, x162_183, x162_187, x162_189, x162_192, xc162_168 sp_min, xc162_184 sp_max, F, ixL, h0, c1, show (20 : Int32) = nI 20 from rfl, ixs 20 w (by omega), nI_1, true_or, and_self, ↓reduceIte]
    exact e1
theorem mid_eq (R : RG A n) (h1 : 0 < n) : midS A (A 20, A 20) 1 (n - 1) = midS A (999, 0) 0 n := by
  obtain ⟨k, hk, e⟩ := (R.2.2.1 0 h1).2.1
  obtain ⟨j, rfl⟩ : ∃ j, n = j + 1 := ⟨n - 1, by omega⟩
  show _ = midS A (mn 999 (A 20), mx 0 (A 20)) 1 j
  have e' : A 20 = nI k := e
  have a1 : mn 999 (A 20) = A 20 := by
    rw [e', mn_comm]
    unfold mn
    rw [if_neg (show ¬ (999 : Int32) < nI k from nI_nlt (b := k) (a := 999) (by omega) (by omega))]
  have a2 : mx 0 (A 20) = A 20 := by
    rw [e']
    unfold mx
    by_cases hz : k = 0
    · subst hz; decide
    · rw [if_pos (show (0 : Int32) < nI k from nI_lt (a := 0) (b := k) (by omega) (by omega))]
  rw [a1, a2]
  rfl
theorem seg162 (F : MF h o A B) (R : RG A n) {w : Nat} (hw : w < n) {k l r fr : Int32} {v3 v4 : Value} (hl : l = -1 ∨ ∃ j, j < n ∧ l = nI j) (hr : r = -1 ∨ ∃ j, j < n ∧ r = nI j) (hf : fr = -1 ∨ ∃ j, j < n ∧ fr = nI j) : Rf d 162 261 [.ref o, .int (nI w), .int k, v3, v4, .int l, .int r, .int fr, noV, noV] [] h = Rf d 162 361 [.ref o, .int (nI w), .int k, v3, v4, .int l, .int r, .int (if fr = l ∨ fr = r then -1 else fr), .int (ad1 A (ad1 A (ad1 A (A (20 + w), 1) l) r) (if fr = l ∨ fr = r then -1 else fr)).1, .int (ad1 A (ad1 A (ad1 A (A (20 + w), 1) l) r) (if fr = l ∨ fr = r then -1 else fr)).2] [] h := by
  have hn := R.1
  have s1 : Rf d 162 261 [.ref o, .int (nI w), .int k, v3, v4, .int l, .int r, .int fr, noV, noV] [] h = Rf d 162 292 [.ref o, .int (nI w), .int k, v3, v4, .int l, .int r, .int (if fr = l ∨ fr = r then -1 else fr), .int (A (20 + w)), .int 1] [] h := by
    simp only [x162_261, x162_263, x162_265, x162_268, x162_270, x162_272, x162_275, x162_276, x162_278, x162_279, x162_282, x162_284, x162_285, x162_286, x162_287, x162_289, x162_290, F, show (20 : Int32) = nI 20 from rfl, ixs 20 w (by omega), true_or, and_self, ↓reduceIte]
    by_cases y1 : fr = l
    · simp only [y1, true_or, ↓reduceIte]
    · by_cases y2 : fr = r
      · simp only [y2, or_true, ↓reduceIte, ite_self]
      · simp only [y1, y2, or_self, ↓reduceIte]
  have s2 : ∀ (x s m : Int32), Rf d 162 292 [.ref o, .int (nI w), .int k, v3, v4, .int l, .int r, .int x, .int s, .int m] [] h = Rf d 162 315 [.ref o, .int (nI w), .int k, v3, v4, .int l, .int r, .int x, .int (ad1 A (s, m) l).1, .int (ad1 A (s, m) l).2] [] h := by
    intro x s m
    rcases hl with rfl | ⟨j, hj, rfl⟩
    · simp only [x162_292, x162_294, x162_297, x162_299, x162_300, x162_303, x162_305, x162_307, x162_308, x162_309, x162_310, x162_312, show (-1 : Int32) < 0 from by decide, ↓reduceIte, ad1]
    · have c4 : ¬ nI j = -1 := fun e => nI_pos (n := j) (by omega) (by rw [e]; decide)
      simp only [x162_292, x162_294, x162_297, x162_299, x162_300, x162_303, x162_305, x162_307, x162_308, x162_309, x162_310, x162_312, F, nI_pos (n := j) (by omega), c4, show (20 : Int32) = nI 20 from rfl, ixs 20 j (by omega), nI_clamp (n := j) (by omega), true_or, and_self, ↓reduceIte, ad1]
  have s3 : ∀ (x s m : Int32), Rf d 162 315 [.ref o, .int (nI w), .int k, v3, v4, .int l, .int r, .int x, .int s, .int m] [] h = Rf d 162 338 [.ref o, .int (nI w), .int k, v3, v4, .int l, .int r, .int x, .int (ad1 A (s, m) r).1, .int (ad1 A (s, m) r).2] [] h := by
    intro x s m
    rcases hr with rfl | ⟨j, hj, rfl⟩
    · simp only [x162_315, x162_317, x162_320, x162_322, x162_323, x162_326, x162_328, x162_330, x162_331, x162_332, x162_333, x162_335, show (-1 : Int32) < 0 from by decide, ↓reduceIte, ad1]
    · have c4 : ¬ nI j = -1 := fun e => nI_pos (n := j) (by omega) (by rw [e]; decide)
      simp only [x162_315, x162_317, x162_320, x162_322, x162_323, x162_326, x162_328, x162_330, x162_331, x162_332, x162_333, x162_335, F, nI_pos (n := j) (by omega), c4, show (20 : Int32) = nI 20 from rfl, ixs 20 j (by omega), nI_clamp (n := j) (by omega), true_or, and_self, ↓reduceIte, ad1]
  have s4 : ∀ (x s m : Int32), (x = -1 ∨ ∃ j, j < n ∧ x = nI j) → Rf d 162 338 [.ref o, .int (nI w), .int k, v3, v4, .int l, .int r, .int x, .int s, .int m] [] h = Rf d 162 361 [.ref o, .int (nI w), .int k, v3, v4, .int l, .int r, .int x, .int (ad1 A (s, m) x).1, .int (ad1 A (s, m) x).2] [] h := by
    intro x s m hx
    rcases hx with rfl | ⟨j, hj, rfl⟩
    · simp only [x162_338, x162_340, x162_343, x162_345, x162_346, x162_349, x162_351, x162_353, x162_354, x162_355, x162_356, x162_358, show (-1 : Int32) < 0 from by decide, ↓reduceIte, ad1]
    · have c4 : ¬ nI j = -1 := fun e => nI_pos (n := j) (by omega) (by rw [e]; decide)
      simp only [x162_338, x162_340, x162_343, x162_345, x162_346, x162_349, x162_351, x162_353, x162_354, x162_355, x162_356, x162_358, F, nI_pos (n := j) (by omega), c4, show (20 : Int32) = nI 20 from rfl, ixs 20 j (by omega), nI_clamp (n := j) (by omega), true_or, and_self, ↓reduceIte, ad1]
  rw [s1, s2, s3, s4 _ _ _ (by split; exact Or.inl rfl; exact hf)]
theorem mul11 (v a : Int32) : a + 11 * v = a + v + 10 * v := by
  have h : (11 : Int32) * v = v + 10 * v := by
    rw [show (11 : Int32) = 1 + 10 from by decide, Int32.add_mul, Int32.one_mul]
  rw [h, Int32.add_assoc]
theorem sp_mbelief (F : MF h o A B) (R : RG A n) {w : Nat} (hw : w < n) : Rf (d + 2) 162 0 [.ref o, .int (nI w), noV, noV, noV, noV, noV, noV, noV, noV] [] h = some (some (.int (beF A n w)), h) := by
  have hn := R.1
  have hw10 : w < 10 := by omega
  have h0 := R.2.1
  have hz : ¬ A 0 = 0 := by rw [h0]; exact nI_ne0 (by omega) (by omega)
  obtain ⟨k, hk, hk2⟩ := kind_of R hw10
  obtain ⟨t, ht, ht2⟩ := R.2.2.2.2.2.1
  have eP := sp_mpays (d := d + 1) F R
  have eL := sp_bes0 (d := d) F R hw
  have eR := sp_bes1 (d := d) F R hw
  have l1 : ahead A w = -1 ∨ ∃ j, j < n ∧ ahead A w = nI j := ah_rng R _
  have l2 : behind A w = -1 ∨ ∃ j, j < n ∧ behind A w = nI j := bh_rng R _ _
  have l3 : A (50 + w) = -1 ∨ ∃ j, j < n ∧ A (50 + w) = nI j := by
    rcases (R.2.2.1 w hw).2.2.2.2 with e | ⟨k, h1, h2, e⟩
    · exact Or.inl e
    · exact Or.inr ⟨k, h1, e⟩
  have i60 := ixs 60 w (by omega)
  have i20 := ixs 20 w (by omega)
  have i70 := ixs 70 w (by omega)
  have i50 := ixs 50 w (by omega)
  -- the mean
  have cM : ∀ v2 : Value, Rf (d + 2) 162 94 [.ref o, .int (nI w), v2, noV, noV, noV, noV, noV, noV, noV] [] h = some (some (.int (pays A / A 0)), h) := by
    intro v2
    simp only [x162_94, x162_98, x162_99, x162_102, x162_103, x162_104, x162_105, xc162_95 F.1 eP, F, ixL, hz, true_or, and_self, ↓reduceIte, not_false_eq_true]
  have cD : ∀ v2 : Value, Rf (d + 2) 162 126 [.ref o, .int (nI w), v2, noV, noV, noV, noV, noV, noV, noV] [] h = some (some (.int (midF A n)), h) := by
    intro v2
    have e1 := lp_mmid (d := d + 1) F R (v1 := .int (nI w)) (v2 := v2) (v6 := noV) (v7 := noV) (v8 := noV) (v9 := noV) (n - 1) 1 (A 20) (A 20) (by omega)
    rw [mid_eq R (by omega)] at e1
    unfold midF
    rw [if_neg (by omega)]
    simp only [x162_126, x162_127, x162_130, x162_132, x162_133, x162_134, x162_135, x162_138, x162_140, x162_141, x162_143, x162_144, F, ixL, true_or, and_self, ↓reduceIte]
    exact e1
  have cA : ∀ (kk : Int32), Rf (d + 2) 162 225 [.ref o, .int (nI w), .int kk, noV, noV, noV, noV, noV, noV, noV] [] h = some (some (.int ((maF A w (if kk = 4 then A (50 + w) else -1)).1 / (maF A w (if kk = 4 then A (50 + w) else -1)).2)), h) := by
    intro kk
    have e2 := seg162 (d := d + 2) F R hw (k := kk) (v3 := noV) (v4 := noV) (fr := if kk = 4 then A (50 + w) else -1) l1 l2 (by split; exact l3; exact Or.inl rfl)
    have e3 := ad3_m (A := A) (a := A (20 + w)) (x := ahead A w) (y := behind A w) (z := if (if kk = 4 then A (50 + w) else -1) = ahead A w ∨ (if kk = 4 then A (50 + w) else -1) = behind A w then -1 else (if kk = 4 then A (50 + w) else -1))
    have e4 : Rf (d + 2) 162 225 [.ref o, .int (nI w), .int kk, noV, noV, noV, noV, noV, noV, noV] [] h = Rf (d + 2) 162 261 [.ref o, .int (nI w), .int kk, noV, noV, .int (ahead A w), .int (behind A w), .int (if kk = 4 then A (50 + w) else -1), noV, noV] [] h := by
      simp only [x162_225, x162_226, x162_227, x162_231, x162_233, x162_234, x162_235, x162_239, x162_241, x162_242, x162_243, x162_246, x162_247, x162_250, x162_252, x162_253, x162_254, x162_255, x162_258, x162_259, xc162_228 F.1 eL, xc162_236 F.1 eR, F, show (50 : Int32) = nI 50 from rfl, i50, true_or, and_self, ↓reduceIte]
      by_cases y : kk = 4
      · simp only [y, ↓reduceIte]
      · simp only [y, ↓reduceIte]
    rw [e4, e2]
    simp only [x162_361, x162_363, x162_365, x162_366, e3, not_false_eq_true, ↓reduceIte, maF]
  have s0 : ∀ j, j ≤ 6 → Rf (d + 2) 162 42 [.ref o, .int (nI w), .int (nI j), noV, noV, noV, noV, noV, noV, noV] [] h = some (some (.int (if nI j = 0 then A (20 + w) else if nI j = 2 then pays A / A 0 else if nI j = 3 then A (20 + w) + A (70 + w) else if nI j = 5 then midF A n else if nI j = 6 then A (20 + w) + A (70 + w) + 10 * A (70 + w) else if nI j = 4 then (maF A w (A (50 + w))).1 / (maF A w (A (50 + w))).2 else (maF A w (-1)).1 / (maF A w (-1)).2)), h) := by
    intro j hj
    match j, hj with
    | 0, _ => simp only [x162_42, x162_43, x162_84, x162_85, x162_88, x162_90, x162_91, x162_92, x162_93, nkk, F, show (20 : Int32) = nI 20 from rfl, i20, true_or, and_self, ↓reduceIte]
    | 1, _ =>
      have := cA (nI 1)
      simp only [nkk, ↓reduceIte] at this
      simp only [x162_42, x162_43, nkk, ↓reduceIte]
      exact this
    | 2, _ =>
      simp only [x162_42, x162_43, nkk, ↓reduceIte]
      exact cM _
    | 3, _ => simp only [x162_42, x162_43, x162_106, x162_107, x162_110, x162_112, x162_113, x162_114, x162_115, x162_116, x162_119, x162_121, x162_122, x162_123, x162_124, x162_125, nkk, F, show (20 : Int32) = nI 20 from rfl, show (70 : Int32) = nI 70 from rfl, i20, i70, true_or, and_self, ↓reduceIte]
    | 4, _ =>
      have := cA (nI 4)
      simp only [nkk, ↓reduceIte] at this
      simp only [x162_42, x162_43, nkk, ↓reduceIte]
      exact this
    | 5, _ =>
      simp only [x162_42, x162_43, nkk, ↓reduceIte]
      exact cD _
    | 6, _ => simp only [x162_42, x162_43, x162_202, x162_203, x162_206, x162_208, x162_209, x162_210, x162_211, x162_213, x162_214, x162_217, x162_219, x162_220, x162_221, x162_222, x162_223, x162_224, nkk, F, show (20 : Int32) = nI 20 from rfl, show (70 : Int32) = nI 70 from rfl, i20, i70, true_or, and_self, ↓reduceIte, mul11]
  unfold beF
  rw [hk2, ht2]
  have hT : ∀ j, j ≤ 3 → ((1 : Int32) < nI j ↔ (j = 2 ∨ j = 3)) := by decide +kernel
  match t, ht with
  | 0, _ =>
    simp only [x162_0, x162_1, x162_4, x162_6, x162_7, x162_8, x162_9, x162_10, x162_11, x162_14, x162_15, x162_16, x162_17, x162_20, x162_21, x162_22, x162_25, x162_26, x162_29, x162_30, x162_31, x162_32, x162_35, x162_36, x162_37, x162_40, x162_41, F, show (60 : Int32) = nI 60 from rfl, i60, hk2, ixL, ht2, hT 0 (by decide), nkk, show ¬ nI 0 = 1 from by decide, show ¬ nI 0 = 2 from by decide, show ¬ nI 0 = 3 from by decide, show ¬ ((0 : Nat) = 2 ∨ (0 : Nat) = 3) from by decide, true_or, and_self, false_and, or_self, ↓reduceIte]
    exact s0 k hk
  | 1, _ =>
    simp only [x162_0, x162_1, x162_4, x162_6, x162_7, x162_8, x162_9, x162_10, x162_11, x162_14, x162_15, x162_16, x162_17, x162_20, x162_21, x162_22, x162_25, x162_26, x162_29, x162_30, x162_31, x162_32, x162_35, x162_36, x162_37, x162_40, x162_41, F, show (60 : Int32) = nI 60 from rfl, i60, hk2, ixL, ht2, hT 1 (by decide), nkk, show ¬ ((1 : Nat) = 2 ∨ (1 : Nat) = 3) from by decide, true_or, and_self, true_and, or_self, ↓reduceIte]
    by_cases y : nI k = 2
    · simp only [y, not_true_eq_false, ↓reduceIte, litZ]
      exact (s0 2 (by decide)).trans (by simp only [nkk, ↓reduceIte])
    · simp only [y, not_false_eq_true, ↓reduceIte]
      exact (s0 5 (by decide)).trans (by simp only [nkk, ↓reduceIte])
  | 2, _ =>
    simp only [x162_0, x162_1, x162_4, x162_6, x162_7, x162_8, x162_9, x162_10, x162_11, x162_14, x162_15, x162_16, x162_17, x162_20, x162_21, x162_22, x162_25, x162_26, x162_29, x162_30, x162_31, x162_32, x162_35, x162_36, x162_37, x162_40, x162_41, F, show (60 : Int32) = nI 60 from rfl, i60, hk2, ixL, ht2, hT 2 (by decide), nkk, true_or, and_self, ↓reduceIte]
    exact (s0 2 (by decide)).trans (by simp only [nkk, ↓reduceIte])
  | 3, _ =>
    simp only [x162_0, x162_1, x162_4, x162_6, x162_7, x162_8, x162_9, x162_10, x162_11, x162_14, x162_15, x162_16, x162_17, x162_20, x162_21, x162_22, x162_25, x162_26, x162_29, x162_30, x162_31, x162_32, x162_35, x162_36, x162_37, x162_40, x162_41, F, show (60 : Int32) = nI 60 from rfl, i60, hk2, ixL, ht2, hT 3 (by decide), nkk, true_or, or_true, and_self, ↓reduceIte]
    exact (s0 2 (by decide)).trans (by simp only [nkk, ↓reduceIte])
theorem sp_glad (F : MF h o A B) (R : RG A n) {w : Nat} (hw : w < n) : Rf (d + 3) 163 0 [.ref o, .int (nI w), noV] [] h = some (some (.int (glF A w (beF A n w))), h) := by
  have hn := R.1
  have i20 := ixs 20 w (by omega)
  have e := sp_mbelief (d := d) F R hw
  simp only [x163_0, x163_1, x163_4, x163_6, x163_7, x163_8, x163_9, x163_10, x163_14, x163_15, x163_16, x163_17, x163_20, x163_21, x163_22, x163_23, x163_26, x163_27, x163_30, x163_31, x163_32, x163_33, x163_36, x163_37, xc163_11 F.1 e, F, ixL, show (20 : Int32) = nI 20 from rfl, i20, true_or, and_self, ↓reduceIte, glF]
  by_cases h1 : A 5 = 3
  · by_cases h2 : A (20 + w) - beF A n w < 0
    · simp only [h1, h2, and_self, ↓reduceIte]
    · simp only [h1, h2, and_false, ↓reduceIte]
  · simp only [h1, false_and, ↓reduceIte]
theorem sp_leave (F : MF h o A B) (Z : MH A C cl ml) : Rf (d + 1) 152 0 [.ref o] [] h = some (some (.int (la 3 20 ml)), h) := by
  simp only [x152_0, x152_1, x152_2, x152_7, xc152_4 F.1 (sp_last F Z)]
theorem sp_rise (F : MF h o A B) (Z : MH A C cl ml) : Rf (d + 1) 153 0 [.ref o] [] h = some (some (.int (la 4 5 ml)), h) := by
  simp only [x153_0, x153_1, x153_2, x153_6, xc153_3 F.1 (sp_last F Z)]
theorem sp_wish (F : MF h o A B) (R : RG A n) (Z : MH A C cl ml) {w : Nat} (hw : w < n) : ∃ S', Rf (d + 3) 151 0 [.ref o, .int (nI w)] [] (stk h o S) = some (some (.int (wiF A C ml w)), stk h o S') := by
  obtain ⟨S', e⟩ := sp_sum (d := d) (S := S) F R Z (y := 2) (by decide) hw
  have F1 := MF_stk F S
  exact ⟨S', by simp only [x151_0, x151_1, x151_2, x151_6, xc151_3 F1.1 e, wiF]⟩
theorem sp_offer (F : MF h o A B) (R : RG A n) (Z : MH A C cl ml) {w : Nat} (hw : w < n) : ∃ S', Rf (d + 3) 150 0 [.ref o, .int (nI w)] [] (stk h o S) = some (some (.int (ofF A C ml w)), stk h o S') := by
  have hn := R.1
  have i30 := ixs 30 w (by omega)
  obtain ⟨S1, e1⟩ := sp_sum (d := d) (S := S) F R Z (y := 0) (by decide) hw
  obtain ⟨S2, e2⟩ := sp_sum (d := d) (S := S1) F R Z (y := 1) (by decide) hw
  have F1 := MF_stk F
  refine ⟨S2, ?_⟩
  simp only [x150_0, x150_1, x150_4, x150_5, x150_8, x150_10, x150_11, x150_12, x150_13, x150_14, x150_15, x150_19, x150_20, x150_21, x150_22, x150_26, x150_33, xc150_16 (F1 S).1 e1, xc150_23 (F1 S).1 e1, xc150_16 (F1 S1).1 e2, xc150_23 (F1 S1).1 e2, xc150_27 (sp_min (d := d + 2)), xc150_30 (sp_max (d := d + 2)), F1, show (30 : Int32) = nI 30 from rfl, i30, true_or, and_self, ↓reduceIte, ofF]
end MB
