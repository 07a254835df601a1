-- deps: 36.office2
/-! WHAT EACH BELIEVES. -/
theorem sitK_rng {A : Nat → Int32} {x : Int32} : ∀ (k w : Nat), sitK A x w k = -1 ∨ ∃ j, w ≤ j ∧ j < w + k ∧ sitK A x w k = nI j ∧ A (10 + j) = x := by
  intro k
  induction k with
  | zero => intro w; exact Or.inl rfl
  | succ k ih =>
    intro w
    unfold sitK
    by_cases h : A (10 + w) = x
    · rw [if_pos h]; exact Or.inr ⟨w, Nat.le_refl _, by omega, rfl, h⟩
    · rw [if_neg h]
      rcases ih (w + 1) with q | ⟨j, h1, h2, h3⟩
      · exact Or.inl q
      · exact Or.inr ⟨j, by omega, by omega, h3⟩
section BE
variable {d o q n cl : Nat} {kn : Nat → Nat} {A B C S : Nat → Int32} {h : AHp} {ml : List Cl}
theorem sit_rng (R : RG A n) (x : Int32) : sit A x = -1 ∨ ∃ j, j < n ∧ sit A x = nI j ∧ A (10 + j) = x := by
  unfold sit
  rw [A0c R]
  rcases sitK_rng (A := A) (x := x) n 0 with q | ⟨j, h1, h2, h3⟩
  · exact Or.inl q
  · exact Or.inr ⟨j, by omega, h3⟩
theorem ah_rng (R : RG A n) : ∀ e, ahK A e = -1 ∨ ∃ j, j < n ∧ ahK A e = nI j := by
  intro e
  induction e with
  | zero => exact Or.inl rfl
  | succ e ih =>
    unfold ahK
    split
    · exact ih
    · next h =>
      rcases sit_rng R (nI e) with q | ⟨j, h1, h2, -⟩
      · exact absurd q h
      · exact Or.inr ⟨j, h1, h2⟩
theorem bh_rng (R : RG A n) : ∀ k e, bhK A e k = -1 ∨ ∃ j, j < n ∧ bhK A e k = nI j := by
  intro k
  induction k with
  | zero => intro e; exact Or.inl rfl
  | succ k ih =>
    intro e
    unfold bhK
    split
    · exact ih _
    · next h =>
      rcases sit_rng R (nI e) with q | ⟨j, h1, h2, -⟩
      · exact absurd q h
      · exact Or.inr ⟨j, h1, h2⟩
def midS (A : Nat → Int32) : Int32 × Int32 → Nat → Nat → Int32 × Int32 := lpF (fun p w => (mn p.1 (A (20 + w)), mx p.2 (A (20 + w))))
def midF (A : Nat → Int32) (n : Nat) : Int32 := if n = 0 then 0 else ((midS A (999, 0) 0 n).1 + (midS A (999, 0) 0 n).2) / 2
theorem lp_middle (F : OF h o A q kn) (R : RG A n) : ∀ (k w : Nat) (a b : Int32), w + k = n → Rf (d + 1) 53 17 [.ref o, .int a, .int b, .int (nI w)] [] h = some (some (.int (((midS A (a, b) w k).1 + (midS A (a, b) w k).2) / 2)), h) := by
  have hn := R.1
  have h0 := R.2.1
  intro k
  induction k with
  | zero =>
    intro w a b hw
    have c1 : ¬ nI w < nI n := nI_nlt (by omega) (by omega)
    simp only [x53_0, x53_1, x53_4, x53_7, x53_8, x53_9, x53_12, x53_13, x53_14, x53_15, x53_16, x53_17, x53_18, x53_19, x53_22, x53_25, x53_26, x53_27, x53_30, x53_31, x53_35, x53_36, x53_37, x53_38, x53_41, x53_42, x53_46, x53_47, x53_50, x53_53, x53_54, x53_55, x53_56, x53_57, x53_58, F, h0, c1, and_self, ↓reduceIte, midS, lpF, litZ, not_false_eq_true]
  | succ k ih =>
    intro w a b hw
    have c1 : nI w < nI n := nI_lt (by omega) (by omega)
    have c2 : inB (nI w) 10 = true := nI_inB (by omega) (by omega)
    have c3 : (nI w).toNatClampNeg = w := nI_clamp (by omega)
    have e1 := ih (w + 1) (mn a (A (20 + w))) (mx b (A (20 + w))) (by omega)
    rw [x53_17]
    simp only [x53_18, x53_19, x53_22, x53_25, x53_26, x53_27, x53_30, x53_31, x53_35, x53_36, x53_37, x53_38, x53_41, x53_42, x53_46, x53_47, x53_50, xc53_32 sp_min, xc53_43 sp_max, F, h0, c1, c2, c3, sub_at (show w < 10 by omega), nI_1, true_or, and_self, ↓reduceIte]
    exact e1
theorem sp_middle (F : OF h o A q kn) (R : RG A n) : Rf (d + 1) 53 0 [.ref o, noV, noV, noV] [] h = some (some (.int (midF A n)), h) := by
  have hn := R.1
  by_cases hz : n = 0
  · have e : A 0 = 0 := by rw [R.2.1, hz]; rfl
    simp only [x53_0, x53_1, x53_4, x53_7, x53_8, x53_9, x53_12, x53_13, x53_14, x53_15, x53_16, F, e, and_self, ↓reduceIte, midF, hz]
  · have e : ¬ A 0 = 0 := by rw [R.2.1]; exact nI_ne0 (by omega) (by omega)
    have e1 := lp_middle (d := d) F R n 0 999 0 (by omega)
    rw [nI_0] at e1
    simp only [x53_0, x53_1, x53_4, x53_7, x53_8, x53_9, x53_12, x53_13, x53_14, x53_15, x53_16, F, e, and_self, ↓reduceIte, midF, hz]
    exact e1
def ad1 (A : Nat → Int32) (p : Int32 × Int32) (x : Int32) : Int32 × Int32 := if x = -1 then p else (p.1 + A (20 + x.toNatClampNeg), p.2 + 1)
/-- MEAN of one, those beside it, and one more (-1: none) -/
def maF (A : Nat → Int32) (w : Nat) (fr : Int32) : Int32 × Int32 := ad1 A (ad1 A (ad1 A (A (20 + w), 1) (ahead A w)) (behind A w)) (if fr = ahead A w ∨ fr = behind A w then -1 else fr)
theorem seg52a (F : OF h o A q kn) (R : RG A n) {w more : Int32} {l r s m : Int32} (hl : l = -1 ∨ ∃ j, j < n ∧ l = nI j) : Rf d 52 34 [.ref o, .int w, .int more, .int l, .int r, .int s, .int m] [] h = Rf d 52 53 [.ref o, .int w, .int more, .int l, .int r, .int (ad1 A (s, m) l).1, .int (ad1 A (s, m) l).2] [] h := by
  have hn := R.1
  rcases hl with rfl | ⟨j, hj, rfl⟩
  · simp only [x52_34, x52_35, x52_36, x52_39, x52_41, x52_42, x52_45, x52_46, x52_47, x52_48, x52_50, ↓reduceIte, ad1]
  · have c2 : inB (nI j) 10 = true := nI_inB (by omega) (by omega)
    have c3 : (nI j).toNatClampNeg = j := nI_clamp (by omega)
    have c4 : ¬ nI j = -1 := fun e => nI_pos (n := j) (by omega) (by rw [e]; decide)
    simp only [x52_34, x52_35, x52_36, x52_39, x52_41, x52_42, x52_45, x52_46, x52_47, x52_48, x52_50, F, c2, c3, c4, sub_at (show j < 10 by omega), true_or, and_self, ↓reduceIte, ad1]
theorem seg52b (F : OF h o A q kn) (R : RG A n) {w more : Int32} {l r s m : Int32} (hl : r = -1 ∨ ∃ j, j < n ∧ r = nI j) : Rf d 52 53 [.ref o, .int w, .int more, .int l, .int r, .int s, .int m] [] h = Rf d 52 74 [.ref o, .int w, .int more, .int l, .int r, .int (ad1 A (s, m) r).1, .int (ad1 A (s, m) r).2] [] h := by
  have hn := R.1
  rcases hl with rfl | ⟨j, hj, rfl⟩
  · simp only [x52_53, x52_55, x52_56, x52_59, x52_61, x52_62, x52_65, x52_67, x52_68, x52_69, x52_71, ↓reduceIte, ad1]
  · have c2 : inB (nI j) 10 = true := nI_inB (by omega) (by omega)
    have c3 : (nI j).toNatClampNeg = j := nI_clamp (by omega)
    have c4 : ¬ nI j = -1 := fun e => nI_pos (n := j) (by omega) (by rw [e]; decide)
    simp only [x52_53, x52_55, x52_56, x52_59, x52_61, x52_62, x52_65, x52_67, x52_68, x52_69, x52_71, F, c2, c3, c4, sub_at (show j < 10 by omega), true_or, and_self, ↓reduceIte, ad1]
/-- how many: never 0 -/
theorem ad1_m {p : Int32 × Int32} {x : Int32} : (ad1 A p x).2 = p.2 ∨ (ad1 A p x).2 = p.2 + 1 := by
  unfold ad1
  split
  · exact Or.inl rfl
  · exact Or.inr rfl
theorem ad3_m {a x y z : Int32} : ¬ (ad1 A (ad1 A (ad1 A (a, 1) x) y) z).2 = 0 := by
  rcases ad1_m (A := A) (p := (a, 1)) (x := x) with e1 | e1 <;> rcases ad1_m (A := A) (p := ad1 A (a, 1) x) (x := y) with e2 | e2 <;> rcases ad1_m (A := A) (p := ad1 A (ad1 A (a, 1) x) y) (x := z) with e3 | e3 <;> rw [e3, e2, e1] <;> simp only <;> decide
theorem seg52c (F : OF h o A q kn) (R : RG A n) {w : Nat} (hw : w < n) {more fr l r s m : Int32} (hl : l = -1 ∨ ∃ j, j < n ∧ l = nI j) (hr : r = -1 ∨ ∃ j, j < n ∧ r = nI j) (hm : (more < 0 ∧ fr = -1) ∨ (∃ k, k < n ∧ k ≠ w ∧ more = nI k ∧ fr = nI k)) (hz : ¬ (ad1 A (s, m) (if fr = l ∨ fr = r then -1 else fr)).2 = 0) : Rf (d + 1) 52 74 [.ref o, .int (nI w), .int more, .int l, .int r, .int s, .int m] [] h = some (some (.int ((ad1 A (s, m) (if fr = l ∨ fr = r then -1 else fr)).1 / (ad1 A (s, m) (if fr = l ∨ fr = r then -1 else fr)).2)), h) := by
  have hn := R.1
  have e3 := sp_isWorker (d := d) (w := more) F
  rcases hm with ⟨h1, h2⟩ | ⟨k, h1, h2, h3, h4⟩
  · rw [b2_f (fun z => z.1 h1)] at e3
    have hmx : (if fr = l ∨ fr = r then -1 else fr) = -1 := by rw [h2]; split <;> rfl
    rw [hmx] at hz ⊢
    simp only [ad1, ↓reduceIte] at hz
    simp only [x52_74, x52_75, x52_79, x52_82, x52_83, x52_84, x52_87, x52_88, x52_89, x52_92, x52_93, x52_95, x52_98, x52_100, x52_101, x52_104, x52_105, x52_106, x52_107, x52_109, x52_112, x52_114, x52_116, x52_117, xc52_76 F.1 e3, ↓reduceIte, ad1, hz, not_false_eq_true]
  · subst h3
    subst h4
    rw [b2_t (isW_in R h1)] at e3
    have k2 : inB (nI k) 10 = true := nI_inB (by omega) (by omega)
    have k3 : (nI k).toNatClampNeg = k := nI_clamp (by omega)
    have k4 : ¬ nI k = nI w := fun e => h2 ((nI_eq (by omega) (by omega)).mp e)
    have k5 : ¬ nI k = -1 := fun e => nI_pos (n := k) (by omega) (by rw [e]; decide)
    by_cases y1 : nI k = l
    · rw [if_pos (Or.inl y1)] at hz ⊢
      simp only [ad1, ↓reduceIte] at hz
      simp only [x52_74, x52_75, x52_79, x52_82, x52_83, x52_84, x52_87, x52_88, x52_89, x52_92, x52_93, x52_95, x52_98, x52_100, x52_101, x52_104, x52_105, x52_106, x52_107, x52_109, x52_112, x52_114, x52_116, x52_117, xc52_76 F.1 e3, ↓reduceIte, ad1, hz, not_false_eq_true, litZ, k4, if_pos y1]
    · by_cases y2 : nI k = r
      · rw [if_pos (Or.inr y2)] at hz ⊢
        simp only [ad1, ↓reduceIte] at hz
        simp only [x52_74, x52_75, x52_79, x52_82, x52_83, x52_84, x52_87, x52_88, x52_89, x52_92, x52_93, x52_95, x52_98, x52_100, x52_101, x52_104, x52_105, x52_106, x52_107, x52_109, x52_112, x52_114, x52_116, x52_117, xc52_76 F.1 e3, ↓reduceIte, ad1, hz, not_false_eq_true, litZ, k4, if_neg y1, if_pos y2]
      · rw [if_neg (fun z => z.elim y1 y2)] at hz ⊢
        simp only [ad1, k5, k3, ↓reduceIte] at hz
        simp only [x52_74, x52_75, x52_79, x52_82, x52_83, x52_84, x52_87, x52_88, x52_89, x52_92, x52_93, x52_95, x52_98, x52_100, x52_101, x52_104, x52_105, x52_106, x52_107, x52_109, x52_112, x52_114, x52_116, x52_117, xc52_76 F.1 e3, F, k2, k3, k5, sub_at (show k < 10 by omega), true_or, and_self, ↓reduceIte, ad1, hz, not_false_eq_true, litZ, k4, if_neg y1, if_neg y2]
/-- the one more, as the class has it -/
theorem sp_meanAround (F : OF h o A q kn) (R : RG A n) {w : Nat} (hw : w < n) {more fr : Int32} (hm : (more < 0 ∧ fr = -1) ∨ (∃ k, k < n ∧ k ≠ w ∧ more = nI k ∧ fr = nI k)) : Rf (d + 1) 52 0 [.ref o, .int (nI w), .int more, noV, noV, noV, noV] [] h = some (some (.int ((maF A w fr).1 / (maF A w fr).2)), h) := by
  have hn := R.1
  have hw10 : w < 10 := by omega
  have c2 : inB (nI w) 10 = true := nI_inB (by omega) (by omega)
  have c3 : (nI w).toNatClampNeg = w := nI_clamp (by omega)
  have e0 := sp_isWorker (d := d) (w := nI w) F
  rw [b2_t (isW_in R hw)] at e0
  have e1 := sp_ahead (d := d) F R hw
  have e2 := sp_behind (d := d) F R hw
  have l1 : ahead A w = -1 ∨ ∃ j, j < n ∧ ahead A w = nI j := ah_rng R _
  have l2 : behind A w = -1 ∨ ∃ j, j < n ∧ behind A w = nI j := bh_rng R _ _
  simp only [x52_0, x52_1, x52_5, x52_8, x52_9, x52_10, x52_11, x52_15, x52_16, x52_17, x52_21, x52_23, x52_24, x52_27, x52_28, x52_29, x52_31, x52_32, xc52_2 F.1 e0, xc52_12 F.1 e1, xc52_18 F.1 e2, F, c2, c3, sub_at hw10, true_or, and_self, ↓reduceIte, litZ]
  rw [seg52a F R l1, seg52b F R l2]
  exact seg52c F R hw l1 l2 hm ad3_m
/-- what one believes -/
def beF (A : Nat → Int32) (n w : Nat) : Int32 :=
  if A 5 = 2 ∨ A 5 = 3 then pays A / A 0 else if A 5 = 1 ∧ ¬ A (60 + w) = 2 then midF A n else
  if A (60 + w) = 0 then A (20 + w) else if A (60 + w) = 2 then pays A / A 0 else if A (60 + w) = 3 then A (20 + w) + A (70 + w) else if A (60 + w) = 5 then midF A n else if A (60 + w) = 6 then A (20 + w) + A (70 + w) + 10 * A (70 + w) else
  if A (60 + w) = 4 then (maF A w (A (50 + w))).1 / (maF A w (A (50 + w))).2 else (maF A w (-1)).1 / (maF A w (-1)).2
theorem mean_of (R : RG A n) {w : Nat} (hw : w < n) : mean A = pays A / A 0 := by
  have hn := R.1
  unfold mean
  rw [if_neg (by rw [R.2.1]; exact nI_ne0 (by omega) (by omega))]
theorem fr_of (R : RG A n) {w : Nat} (hw : w < n) : (frF (A (50 + w)) < 0 ∧ A (50 + w) = -1) ∨ (∃ k, k < n ∧ k ≠ w ∧ frF (A (50 + w)) = nI k ∧ A (50 + w) = nI k) := by
  have hn := R.1
  rcases (R.2.2.1 w hw).2.2.2.2 with e | ⟨k, h1, h2, e⟩
  · exact Or.inl ⟨by rw [e]; decide, e⟩
  · refine Or.inr ⟨k, h1, h2, ?_, e⟩
    unfold frF
    rw [e, if_neg (nI_pos (by omega))]
theorem nkk : (¬ nI 0 = 1) ∧ (¬ nI 0 = 2) ∧ (¬ nI 0 = 3) ∧ (¬ nI 0 = 4) ∧ (¬ nI 0 = 5) ∧ (¬ nI 0 = 6) ∧ (¬ nI 1 = 0) ∧ (¬ nI 1 = 2) ∧ (¬ nI 1 = 3) ∧ (¬ nI 1 = 4) ∧ (¬ nI 1 = 5) ∧ (¬ nI 1 = 6) ∧ (¬ nI 2 = 0) ∧ (¬ nI 2 = 1) ∧ (¬ nI 2 = 3) ∧ (¬ nI 2 = 4) ∧ (¬ nI 2 = 5) ∧ (¬ nI 2 = 6) ∧ (¬ nI 3 = 0) ∧ (¬ nI 3 = 1) ∧ (¬ nI 3 = 2) ∧ (¬ nI 3 = 4) ∧ (¬ nI 3 = 5) ∧ (¬ nI 3 = 6) ∧ (¬ nI 4 = 0) ∧ (¬ nI 4 = 1) ∧ (¬ nI 4 = 2) ∧ (¬ nI 4 = 3) ∧ (¬ nI 4 = 5) ∧ (¬ nI 4 = 6) ∧ (¬ nI 5 = 0) ∧ (¬ nI 5 = 1) ∧ (¬ nI 5 = 2) ∧ (¬ nI 5 = 3) ∧ (¬ nI 5 = 4) ∧ (¬ nI 5 = 6) ∧ (¬ nI 6 = 0) ∧ (¬ nI 6 = 1) ∧ (¬ nI 6 = 2) ∧ (¬ nI 6 = 3) ∧ (¬ nI 6 = 4) ∧ (¬ nI 6 = 5) ∧ (nI 0 = 0 ↔ True) ∧ (nI 1 = 1 ↔ True) ∧ (nI 2 = 2 ↔ True) ∧ (nI 3 = 3 ↔ True) ∧ (nI 4 = 4 ↔ True) ∧ (nI 5 = 5 ↔ True) ∧ (nI 6 = 6 ↔ True) := ⟨by decide, by decide, by decide, by decide, by decide, by decide, by decide, by decide, by decide, by decide, by decide, by decide, by decide, by decide, by decide, by decide, by decide, by decide, by decide, by decide, by decide, by decide, by decide, by decide, by decide, by decide, by decide, by decide, by decide, by decide, by decide, by decide, by decide, by decide, by decide, by decide, by decide, by decide, by decide, by decide, by decide, by decide, by decide, by decide, by decide, by decide, by decide, by decide, by decide⟩
/-- each KIND's own belief -/
theorem sp_bel (F : OF h o A q kn) (K : KN h A kn) (R : RG A n) {w k : Nat} (hw : w < n) (hk : k ≤ 6) (hk2 : A (60 + w) = nI k) {a0 a1 : Value} : Rf (d + 4) 54 53 [a0, a1] [.ref o, .ref (kn w)] h = Rf (d + 4) 54 56 [a0, a1] [.int (if nI k = 0 then A (20 + w) else if nI k = 2 then pays A / A 0 else if nI k = 3 then A (20 + w) + A (70 + w) else if nI k = 5 then midF A n else if nI k = 6 then A (20 + w) + A (70 + w) + 10 * A (70 + w) else if nI k = 4 then (maF A w (A (50 + w))).1 / (maF A w (A (50 + w))).2 else (maF A w (-1)).1 / (maF A w (-1)).2)] h := by
  have hn := R.1
  have hw10 : w < 10 := by omega
  obtain ⟨k1, k2, k3, k4, k5, k6⟩ := K w hw10
  rw [hk2] at k1
  have eP := fun d => sp_payOf (d := d) F R hw
  have eM := fun d => sp_meanOfAll (d := d) F R
  rw [mean_of R hw] at eM
  have eF := fun d => sp_friendOf (d := d) F R hw
  have eA := fun d => sp_meanAround (d := d) (more := -5) (fr := -1) F R hw (Or.inl ⟨by decide, rfl⟩)
  have eB := fun d => sp_meanAround (d := d) F R hw (fr_of R hw)
  have eD := fun d => sp_middle (d := d) F R
  match k, hk with
  | 0, _ =>
    have c : cls (h.1 (kn w)) = 4 := k1.trans (by decide)
    refine xc54_53_4 c ?_
    simp only [x31_0, x31_1, x31_2, x31_8, xc31_5 F.1 (eP _), c, k2, k3, and_self, ↓reduceIte, nkk, show fIx [(0, 0), (1, 0), (2, 0), (4, 0), (5, 0), (8, 0), (9, 0)] 4 = some 0 from rfl]
  | 1, _ =>
    have c : cls (h.1 (kn w)) = 2 := k1.trans (by decide)
    refine xc54_53_2 c ?_
    simp only [x10_0, x10_1, x10_2, x10_5, x10_10, xc10_7 F.1 (eA _), c, k2, k3, and_self, ↓reduceIte, nkk, show fIx [(1, 0), (2, 0)] 2 = some 0 from rfl]
  | 2, _ =>
    have c : cls (h.1 (kn w)) = 5 := k1.trans (by decide)
    refine xc54_53_5 c ?_
    simp only [x37_0, x37_4, xc37_1 F.1 (eM _), c, k2, k3, and_self, ↓reduceIte, nkk]
  | 3, _ =>
    have c : cls (h.1 (kn w)) = 9 := k1.trans (by decide)
    refine xc54_53_9 c ?_
    simp only [x90_0, x90_1, x90_2, x90_8, x90_9, x90_12, x90_13, xc90_5 F.1 (eP _), c, k2, k3, k4, k5, and_self, ↓reduceIte, nkk, show fIx [(0, 0), (9, 0)] 9 = some 0 from rfl, show fIx [(0, 1), (9, 1)] 9 = some 1 from rfl, litZ]
  | 4, _ =>
    have c : cls (h.1 (kn w)) = 1 := k1.trans (by decide)
    refine xc54_53_1 c ?_
    simp only [x6_0, x6_1, x6_2, x6_5, x6_6, x6_7, x6_16, xc6_10 F.1 (eF _), xc6_13 F.1 (eB _), c, k2, k3, and_self, ↓reduceIte, nkk]
  | 5, _ =>
    have c : cls (h.1 (kn w)) = 8 := k1.trans (by decide)
    refine xc54_53_8 c ?_
    simp only [x86_0, x86_4, xc86_1 F.1 (eD _), c, k2, k3, and_self, ↓reduceIte, nkk]
  | 6, _ =>
    have c : cls (h.1 (kn w)) = 0 := k1.trans (by decide)
    refine xc54_53_0 c ?_
    have e9 : Rf (d + 2) 90 0 [.ref (kn w), .ref o] [] h = some (some (.int (A (20 + w) + A (70 + w))), h) := by
      simp only [x90_0, x90_1, x90_2, x90_8, x90_9, x90_12, x90_13, xc90_5 F.1 (eP _), c, k2, k3, k4, k5, and_self, ↓reduceIte, nkk, show fIx [(0, 0), (9, 0)] 0 = some 0 from rfl, show fIx [(0, 1), (9, 1)] 0 = some 1 from rfl]
    simp only [x2_0, x2_1, x2_5, x2_7, x2_8, x2_11, x2_12, x2_13, xc2_2 (by rw [c]; decide) e9, c, k2, k3, k4, k5, and_self, ↓reduceIte, nkk]
theorem sp_beliefOf (F : OF h o A q kn) (K : KN h A kn) (R : RG A n) {w : Nat} (hw : w < n) : Rf (d + 4) 54 0 [.ref o, .int (nI w)] [] h = some (some (.int (beF A n w)), h) := by
  have hn := R.1
  have hw10 : w < 10 := by omega
  obtain ⟨k, hk, hk2⟩ := kind_of R hw10
  obtain ⟨k1, k2, k3, k4, k5, k6⟩ := K w hw10
  rw [hk2] at k1
  have c2 : inB (nI w) 10 = true := nI_inB (by omega) (by omega)
  have c3 : (nI w).toNatClampNeg = w := nI_clamp (by omega)
  have eM := sp_meanOfAll (d := d + 2) F R
  rw [mean_of R hw] at eM
  have eD := sp_middle (d := d + 2) F R
  have eB := sp_bel (d := d) F K R hw hk hk2 (a0 := .ref o) (a1 := .int (nI w))
  unfold beF
  rw [hk2]
  by_cases t2 : A 5 = 2
  · simp only [x54_0, x54_1, x54_4, x54_5, x54_8, x54_9, x54_12, x54_13, x54_16, x54_20, x54_21, x54_22, x54_25, x54_26, x54_29, x54_30, x54_33, x54_34, x54_35, x54_38, x54_41, x54_45, x54_46, x54_47, x54_50, x54_51, x54_52, x54_56, xc54_17 F.1 eM, F, t2, true_or, and_self, ↓reduceIte]
  · by_cases t3 : A 5 = 3
    · simp only [x54_0, x54_1, x54_4, x54_5, x54_8, x54_9, x54_12, x54_13, x54_16, x54_20, x54_21, x54_22, x54_25, x54_26, x54_29, x54_30, x54_33, x54_34, x54_35, x54_38, x54_41, x54_45, x54_46, x54_47, x54_50, x54_51, x54_52, x54_56, xc54_17 F.1 eM, F, t3, or_true, and_self, ↓reduceIte, show ¬ (3 : Int32) = 2 from by decide]
    · by_cases t1 : A 5 = 1
      · simp only [x54_0, x54_1, x54_4, x54_5, x54_8, x54_9, x54_12, x54_13, x54_16, x54_20, x54_21, x54_22, x54_25, x54_26, x54_29, x54_30, x54_33, x54_34, x54_35, F, t1, c2, c3, krR_at hw10, Option.isSome_some, Option.getD_some, and_self, ↓reduceIte, show ¬ (1 : Int32) = 2 from by decide, show ¬ (1 : Int32) = 3 from by decide, or_self, true_and, k1]
        match k, hk with
        | 0, _ => simp only [x54_38, x54_41, x54_45, x54_46, x54_47, x54_50, x54_51, x54_52, xc54_42 F.1 eD, ↓reduceIte, show (fIx [(0, 0), (1, 0), (2, 0), (4, 0), (5, 1), (8, 1), (9, 0), (200, 5)] (kc (nI 0))).isSome = true from by decide, show nI ((fIx [(0, 0), (1, 0), (2, 0), (4, 0), (5, 1), (8, 1), (9, 0), (200, 5)] (kc (nI 0))).getD 0) = 0 from by decide, show ¬ nI 0 = 2 from by decide, not_false_eq_true]
        | 1, _ => simp only [x54_38, x54_41, x54_45, x54_46, x54_47, x54_50, x54_51, x54_52, xc54_42 F.1 eD, ↓reduceIte, show (fIx [(0, 0), (1, 0), (2, 0), (4, 0), (5, 1), (8, 1), (9, 0), (200, 5)] (kc (nI 1))).isSome = true from by decide, show nI ((fIx [(0, 0), (1, 0), (2, 0), (4, 0), (5, 1), (8, 1), (9, 0), (200, 5)] (kc (nI 1))).getD 0) = 0 from by decide, show ¬ nI 1 = 2 from by decide, not_false_eq_true]
        | 3, _ => simp only [x54_38, x54_41, x54_45, x54_46, x54_47, x54_50, x54_51, x54_52, xc54_42 F.1 eD, ↓reduceIte, show (fIx [(0, 0), (1, 0), (2, 0), (4, 0), (5, 1), (8, 1), (9, 0), (200, 5)] (kc (nI 3))).isSome = true from by decide, show nI ((fIx [(0, 0), (1, 0), (2, 0), (4, 0), (5, 1), (8, 1), (9, 0), (200, 5)] (kc (nI 3))).getD 0) = 0 from by decide, show ¬ nI 3 = 2 from by decide, not_false_eq_true]
        | 4, _ => simp only [x54_38, x54_41, x54_45, x54_46, x54_47, x54_50, x54_51, x54_52, xc54_42 F.1 eD, ↓reduceIte, show (fIx [(0, 0), (1, 0), (2, 0), (4, 0), (5, 1), (8, 1), (9, 0), (200, 5)] (kc (nI 4))).isSome = true from by decide, show nI ((fIx [(0, 0), (1, 0), (2, 0), (4, 0), (5, 1), (8, 1), (9, 0), (200, 5)] (kc (nI 4))).getD 0) = 0 from by decide, show ¬ nI 4 = 2 from by decide, not_false_eq_true]
        | 6, _ => simp only [x54_38, x54_41, x54_45, x54_46, x54_47, x54_50, x54_51, x54_52, xc54_42 F.1 eD, ↓reduceIte, show (fIx [(0, 0), (1, 0), (2, 0), (4, 0), (5, 1), (8, 1), (9, 0), (200, 5)] (kc (nI 6))).isSome = true from by decide, show nI ((fIx [(0, 0), (1, 0), (2, 0), (4, 0), (5, 1), (8, 1), (9, 0), (200, 5)] (kc (nI 6))).getD 0) = 0 from by decide, show ¬ nI 6 = 2 from by decide, not_false_eq_true]
        | 2, _ =>
          simp only [x54_38, x54_41, x54_45, x54_46, x54_47, x54_50, x54_51, x54_52, x54_56, F, c2, c3, krR_at hw10, Option.isSome_some, Option.getD_some, and_self, eB, ↓reduceIte, show (fIx [(0, 0), (1, 0), (2, 0), (4, 0), (5, 1), (8, 1), (9, 0), (200, 5)] (kc (nI 2))).isSome = true from by decide, show nI ((fIx [(0, 0), (1, 0), (2, 0), (4, 0), (5, 1), (8, 1), (9, 0), (200, 5)] (kc (nI 2))).getD 0) = 1 from by decide, nkk, not_true_eq_false, litZ]
        | 5, _ =>
          simp only [x54_38, x54_41, x54_45, x54_46, x54_47, x54_50, x54_51, x54_52, x54_56, F, c2, c3, krR_at hw10, Option.isSome_some, Option.getD_some, and_self, eB, ↓reduceIte, show (fIx [(0, 0), (1, 0), (2, 0), (4, 0), (5, 1), (8, 1), (9, 0), (200, 5)] (kc (nI 5))).isSome = true from by decide, show nI ((fIx [(0, 0), (1, 0), (2, 0), (4, 0), (5, 1), (8, 1), (9, 0), (200, 5)] (kc (nI 5))).getD 0) = 1 from by decide, nkk, litZ, not_false_eq_true]
      · simp only [x54_0, x54_1, x54_4, x54_5, x54_8, x54_9, x54_12, x54_13, x54_16, x54_20, x54_21, x54_22, x54_25, x54_26, x54_29, x54_30, x54_33, x54_34, x54_35, x54_38, x54_41, x54_45, x54_46, x54_47, x54_50, x54_51, x54_52, x54_56, eB, F, t1, t2, t3, c2, c3, krR_at hw10, Option.isSome_some, Option.getD_some, and_self, ↓reduceIte, or_self, false_and]
theorem sp_doneBy (F : OF h o A q kn) (K : KN h A kn) (R : RG A n) (P : AP o q kn) (H : HO h q C cl ml) {w : Nat} (hw : w < n) : ∃ S', Rf (d + 5) 59 0 [.ref o, .int (nI w)] [] (fst h o S) = some (some (.int (doF A (la 3 20 ml) w (beF A n w) (ofF A C ml w) (wiF A C ml w))), fst h o S') := by
  have F1 := OF_fst F
  have K1 : ∀ S, KN (fst h o S) A kn := fun S j hj => by
    rw [fst_ne (by have := P.2 j hj; omega)]
    exact K j hj
  have e1 := sp_beliefOf (d := d) (F1 S) (K1 S) R hw
  obtain ⟨S1, e2⟩ := sp_offerTo (d := d + 1) (S := S) F K R P H hw
  obtain ⟨S2, e3⟩ := sp_wishOf (d := d + 1) (S := S1) F K R P H hw
  have e4 := sp_doneFor (d := d + 3) (F1 S2) R (HO_fst H P.1 S2) hw (b := beF A n w) (of := ofF A C ml w) (wi := wiF A C ml w)
  refine ⟨S2, ?_⟩
  simp only [x59_0, x59_1, x59_2, x59_3, x59_7, x59_8, x59_12, x59_13, x59_20, xc59_4 (F1 S).1 e1, xc59_9 (F1 S).1 e2, xc59_14 (F1 S1).1 e3, xc59_17 (F1 S2).1 e4]
end BE
