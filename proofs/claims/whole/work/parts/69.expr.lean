-- deps: 68.number
/-! AN EXPRESSION read by both. -/
def bv : Bool → Int32
  | true => 1
  | false => 0
def CX (X : Nat → Int32) (g l l' : Nat) (C' : Nat → Int32) : Nat → Int32 := fun j => if 431 + 100 * g + l ≤ j ∧ j < 431 + 100 * g + l' then mtok (C' (j - (431 + 100 * g))) else X j
theorem CX_rf {X : Nat → Int32} {g l : Nat} {C : Nat → Int32} : CX X g l l C = X := by
  funext j
  unfold CX
  rw [if_neg (by omega)]
theorem CX_put {X : Nat → Int32} {g l l' : Nat} {C : Nat → Int32} {v w : Int32} (hl : l ≤ l') (hw : mtok v = w) : upd (CX X g l l' C) (431 + 100 * g + l') w = CX X g l (l' + 1) (upd C l' v) := by
  funext j
  unfold CX
  by_cases z : j = 431 + 100 * g + l'
  · subst z
    rw [upd_at, if_pos rfl, if_pos (by omega), Nat.add_sub_cancel_left, upd_at, if_pos rfl, hw]
  · rw [upd_at, if_neg z]
    by_cases y : 431 + 100 * g + l ≤ j ∧ j < 431 + 100 * g + l'
    · rw [if_pos y, if_pos (by omega), upd_at, if_neg (by omega)]
    · rw [if_neg y, if_neg (by omega)]
theorem CX_tr {X : Nat → Int32} {g l l1 l2 : Nat} {C1 C2 : Nat → Int32} (h1 : l ≤ l1) (h2 : l1 ≤ l2) (e : ∀ i, i < l1 → C2 i = C1 i) : CX (CX X g l l1 C1) g l1 l2 C2 = CX X g l l2 C2 := by
  funext j
  unfold CX
  by_cases y : 431 + 100 * g + l1 ≤ j ∧ j < 431 + 100 * g + l2
  · rw [if_pos y, if_pos (by omega)]
  · rw [if_neg y]
    by_cases z : 431 + 100 * g + l ≤ j ∧ j < 431 + 100 * g + l1
    · rw [if_pos z, if_pos (by omega), e _ (by omega)]
    · rw [if_neg z, if_neg (by omega)]
theorem XO_CX {X : Nat → Int32} {n g l l' : Nat} {u : Nat → Nat} {C : Nat → Int32} (Z : XO X n g u) : XO (CX X g l l' C) n g u := by
  have e : ∀ i, i < 431 → CX X g l l' C i = X i := fun i hi => by
    unfold CX
    rw [if_neg (by omega)]
  obtain ⟨z1, z2, z3, z4, z5⟩ := Z
  exact ⟨(e 4 (by omega)).trans z1, (e 1 (by omega)).trans z2, fun i hi => by rw [e _ (by omega)]; exact z3 i hi, z4, z5⟩
theorem rnD_add {C : Nat → Int32} : ∀ (a b i d : Nat), rnD C i (a + b) d = (rnD C i a d).bind (fun e => rnD C (i + a) b e) := by
  intro a
  induction a with
  | zero => intro b i d; rw [Nat.zero_add]; rfl
  | succ a ih =>
    intro b i d
    rw [Nat.succ_add]
    show (match dp1 (C i) d with | some e => rnD C (i + 1) (a + b) e | none => none) = _
    cases hd : dp1 (C i) d with
    | none => simp only [rnD, hd, Option.bind]
    | some e =>
      simp only [rnD, hd]
      rw [ih b (i + 1) e, show i + 1 + a = i + (a + 1) by omega]
theorem rnD_cg {C C' : Nat → Int32} : ∀ (k i d : Nat), (∀ j, i ≤ j → j < i + k → C' j = C j) → rnD C' i k d = rnD C i k d := by
  intro k
  induction k with
  | zero => intro i d _; rfl
  | succ k ih =>
    intro i d e
    simp only [rnD, e i (by omega) (by omega)]
    cases dp1 (C i) d with
    | none => rfl
    | some x => exact ih (i + 1) x (fun j a b => e j (by omega) (by omega))
def OK1 (n p l : Nat) (C : Nat → Int32) (op need : Nat) (r : Bool) (p' l' : Nat) (C' : Nat → Int32) (op' : Nat) : Prop :=
  p ≤ p' ∧ p' ≤ n ∧ l ≤ l' ∧ l' + p ≤ p' + l ∧ (∀ i, i < l → C' i = C i) ∧ (r = true → p < p' ∧ op' = op ∧ ∀ dd, dd + need < 20 → rnD C' l (l' - l) dd = some (dd + 1))
def JJ (n g : Nat) (u : Nat → Nat) (op need mc mm dc : Nat) (lc lm : Nat → List Value) : Prop :=
  ∀ (p l : Nat) (C : Nat → Int32), p ≤ n → l ≤ p → ∃ (r : Bool) (p' l' : Nat) (C' : Nat → Int32) (op' : Nat), OK1 n p l C op need r p' l' C' op' ∧
    (∀ d h q lv rs nc W N E, HB h q n u → Rf (d + dc) mc 0 (lc q) [] (PS h q n lv rs p nc l W N E C) = some (some (.int (bv r)), PS h q n lv rs p' nc l' W N E C')) ∧
    (∀ d h o A B X, MF h o A B → XO X n g u → Rf (d + dc) mm 0 (lm o) [] (MS h o p op l X) = some (some (.int (bv r)), MS h o p' op' l' (CX X g l l' C')))
section EX
variable {n g op need dc : Nat} {u : Nat → Nat}
theorem kcP {h : AHp} {q n : Nat} {lv rs : Int32} {p nc l : Nat} {W N E C : Nat → Int32} : cls ((PS h q n lv rs p nc l W N E C).1 q) = 3 := by rw [PS_q]; rfl
theorem kcM {h : AHp} {o pt op md : Nat} {X A B : Nat → Int32} (F : MF h o A B) : cls ((MS h o pt op md X).1 o) = 12 := by rw [MS_o]; exact (ocf F).1
theorem mt_2 : mtok (-2) = -2 ∧ mtok (-3) = -1 ∧ mtok (-1) = -3 := by decide
theorem dp_2 (dd : Nat) : dp1 (-2) (dd + 2) = some (dd + 1) ∧ dp1 (-3) (dd + 2) = some (dd + 1) ∧ dp1 (-1) (dd + 1) = some (dd + 1) := by
  refine ⟨?_, ?_, ?_⟩
  · unfold dp1
    rw [if_neg (by decide), if_pos (Or.inl rfl), if_pos (by omega)]
    rfl
  · unfold dp1
    rw [if_neg (by decide), if_pos (Or.inr rfl), if_pos (by omega)]
    rfl
  · unfold dp1
    rw [if_pos rfl, if_pos (by omega)]
/-- F's value, then a sign of the code, then the rest -/
theorem rn_loop {C1 C' : Nat → Int32} {l l1 l' dd need : Nat} {t : Int32} (h1 : l ≤ l1) (h2 : l1 + 1 ≤ l') (a : ∀ dd, dd + need < 20 → rnD C1 l (l1 - l) dd = some (dd + 1)) (e : ∀ i, i < l1 + 1 → C' i = upd C1 l1 t i) (ht : dp1 t (dd + 2) = some (dd + 1)) (b : rnD C' (l1 + 1) (l' - (l1 + 1)) (dd + 1) = some (dd + 1)) (hd : dd + 1 + need < 20) : rnD C' l (l' - l) (dd + 1) = some (dd + 1) := by
  rw [show l' - l = (l1 - l) + (1 + (l' - (l1 + 1))) by omega, rnD_add]
  rw [rnD_cg (C := C1) (l1 - l) l (dd + 1) (fun j x y => by rw [e j (by omega), upd_at, if_neg (by omega)]), a (dd + 1) hd]
  show rnD C' (l + (l1 - l)) (1 + (l' - (l1 + 1))) (dd + 1 + 1) = _
  rw [show l + (l1 - l) = l1 by omega, rnD_add]
  have hc : C' l1 = t := by rw [e l1 (by omega), upd_at, if_pos rfl]
  have : rnD C' l1 1 (dd + 1 + 1) = some (dd + 1) := by
    simp only [rnD, hc, ht]
  rw [this]
  exact b
theorem lp_T {lcI lmI : Nat → List Value} (hn : n < 100) (hdc : 2 ≤ dc) (J : JJ n g u op need 19 142 dc lcI lmI) (hlc : ∀ q, lcI q = [.ref q, .int (nI op)] ++ [noV, noV, noV]) (hlm : ∀ o, lmI o = [.ref o] ++ [noV, noV, noV, noV]) : ∀ (m p l : Nat) (C : Nat → Int32) (i : Nat), n - p ≤ m → p ≤ n → l ≤ p → i ≤ p → ∃ (r : Bool) (p' l' : Nat) (C' : Nat → Int32) (op' : Nat), p ≤ p' ∧ p' ≤ n ∧ l ≤ l' ∧ l' + p ≤ p' + l ∧ (∀ i, i < l → C' i = C i) ∧ (r = true → op' = op ∧ ∀ dd, dd + 1 + need < 20 → rnD C' l (l' - l) (dd + 1) = some (dd + 1)) ∧
    (∀ d h q lv rs nc W N E, HB h q n u → Rf (d + dc + 1) 18 8 [.ref q, .int (nI op), .int 1, .int (nI i)] [] (PS h q n lv rs p nc l W N E C) = some (some (.int (bv r)), PS h q n lv rs p' nc l' W N E C')) ∧
    (∀ d h o A B X, MF h o A B → XO X n g u → Rf (d + dc + 1) 141 9 [.ref o] [] (MS h o p op l X) = some (some (.int (bv r)), MS h o p' op' l' (CX X g l l' C'))) := by
  intro m
  induction m with
  | zero =>
    intro p l C i hm hp hl hi
    have ht : ¬ tk u n p 38 := fun z => by have := z.1; omega
    have c100 : nI i < 100 := nI_lt (a := i) (b := 100) (by omega) (by decide)
    refine ⟨true, p, l, C, op, Nat.le_refl _, hp, Nat.le_refl _, by omega, fun _ _ => rfl, fun _ => ⟨rfl, fun dd _ => by rw [Nat.sub_self]; rfl⟩, fun d h q lv rs nc W N E H => ?_, fun d h o A B X F Z => ?_⟩
    · simp only [x18_8, x18_9, x18_12, x18_13, x18_15, x18_18, x18_19, x18_24, x18_56, x18_57, xc18_21 kcP (tk_n (d := d + dc) H hp (by decide) ht), show (38 : Int32) = nI 38 from rfl, c100, litZ, retI_z1, bv, ↓reduceIte]
    · simp only [x141_9, x141_10, x141_15, x141_36, x141_37, xc141_12 (kcM F) (Rf_up (show 0 + 1 ≤ d + dc by omega) (is_n (d := 0) F Z hp (by decide) ht)), show (38 : Int32) = nI 38 from rfl, retI_z1, bv, CX_rf, ↓reduceIte]
  | succ m ih =>
    intro p l C i hm hp hl hi
    have c100 : nI i < 100 := nI_lt (a := i) (b := 100) (by omega) (by decide)
    by_cases ht : tk u n p 38
    · have hp1 : p + 1 ≤ n := ht.1
      obtain ⟨r1, p1, l1, C1, op1, ⟨o1, o2, o3, o4, o5, o6⟩, jc, jm⟩ := J (p + 1) l C hp1 (by omega)
      cases r1 with
      | false =>
        refine ⟨false, p1, l1, C1, op1, by omega, o2, o3, by omega, o5, fun z => absurd z (by decide), fun d h q lv rs nc W N E H => ?_, fun d h o A B X F Z => ?_⟩
        · have e1 := jc d h q lv rs nc W N E H
          rw [hlc] at e1
          simp only [bv, List.cons_append, List.nil_append] at e1
          rw [x18_8]
          simp only [x18_9, x18_12, x18_13, x18_15, x18_18, x18_19, x18_24, x18_27, x18_28, x18_32, x18_35, x18_36, x18_41, x18_44, x18_45, x18_48, x18_49, x18_50, x18_53, x18_56, x18_57, xc18_21 kcP (tk_y (d := d + dc) H hp (by decide) ht), xc18_29 kcP e1, show (38 : Int32) = nI 38 from rfl, c100, litZ, retI_z0, bv, ↓reduceIte]
          rw [x18_8]
          simp only [x18_9, x18_56, x18_57, retI_z0, ↓reduceIte]
        · have e1 := jm d h o A B X F Z
          rw [hlm] at e1
          simp only [bv, List.cons_append, List.nil_append] at e1
          rw [x141_9]
          simp only [x141_10, x141_15, x141_18, x141_22, x141_25, x141_26, xc141_12 (kcM F) (Rf_up (show 0 + 1 ≤ d + dc by omega) (is_y (d := 0) F Z hp (by decide) ht)), xc141_19 (kcM F) e1, show (38 : Int32) = nI 38 from rfl, litZ, retI_z0, bv, ↓reduceIte]
      | true =>
        obtain ⟨o7, o8, o9⟩ := o6 rfl
        subst o8
        have hl1 : l1 < n := by omega
        obtain ⟨r, p', l', C', op', q1, q2, q3, q4, q5, q6, kc, km⟩ := ih p1 (l1 + 1) (upd C1 l1 (-2)) (i + 1) (by omega) o2 (by omega) (by omega)
        refine ⟨r, p', l', C', op', by omega, q2, by omega, by omega, fun j hj => by rw [q5 j (by omega), upd_at, if_neg (by omega)]; exact o5 j hj, fun z => ⟨(q6 z).1, fun dd hd => rn_loop o3 q3 o9 q5 (by have := dp_2 dd; simp only [this]) ((q6 z).2 dd hd) hd⟩, fun d h q lv rs nc W N E H => ?_, fun d h o A B X F Z => ?_⟩
        · have e1 := jc d h q lv rs nc W N E H
          rw [hlc] at e1
          simp only [bv, List.cons_append, List.nil_append] at e1
          have e2 := kc d h q lv rs nc W N E H
          rw [x18_8]
          simp only [x18_9, x18_12, x18_13, x18_15, x18_18, x18_19, x18_24, x18_27, x18_28, x18_32, x18_35, x18_36, x18_41, x18_44, x18_45, x18_48, x18_49, x18_50, x18_53, xc18_21 kcP (tk_y (d := d + dc) H hp (by decide) ht), xc18_29 kcP e1, xc18_38 kcP (sp_emit (d := d + dc) hl1 hn), show (38 : Int32) = nI 38 from rfl, c100, litZ, nI_1, ↓reduceIte]
          exact e2
        · have e1 := jm d h o A B X F Z
          rw [hlm] at e1
          simp only [bv, List.cons_append, List.nil_append] at e1
          have e3 := sp_put (d := d + dc) (op := op1) (pt := p1) (v := -2) F (XO_CX (l := l) (l' := l1) (C := C1) Z) (md := l1) (by omega)
          have e4 : upd (CX X g l l1 C1) (431 + 100 * g + l1) (-2) = CX X g l (l1 + 1) (upd C1 l1 (-2)) := CX_put o3 (by decide)
          rw [e4] at e3
          have e2 := km d h o A B _ F (XO_CX (l := l) (l' := l1 + 1) (C := upd C1 l1 (-2)) Z)
          rw [CX_tr (by omega) q3 q5] at e2
          rw [x141_9]
          simp only [x141_10, x141_15, x141_18, x141_22, x141_25, x141_26, x141_27, x141_28, x141_33, xc141_12 (kcM F) (Rf_up (show 0 + 1 ≤ d + dc by omega) (is_y (d := 0) F Z hp (by decide) ht)), xc141_19 (kcM F) e1, xc141_30 (kcM F) e3, show (38 : Int32) = nI 38 from rfl, litZ, ↓reduceIte]
          exact e2
    · refine ⟨true, p, l, C, op, Nat.le_refl _, hp, Nat.le_refl _, by omega, fun _ _ => rfl, fun _ => ⟨rfl, fun dd _ => by rw [Nat.sub_self]; rfl⟩, fun d h q lv rs nc W N E H => ?_, fun d h o A B X F Z => ?_⟩
      · simp only [x18_8, x18_9, x18_12, x18_13, x18_15, x18_18, x18_19, x18_24, x18_56, x18_57, xc18_21 kcP (tk_n (d := d + dc) H hp (by decide) ht), show (38 : Int32) = nI 38 from rfl, c100, litZ, retI_z1, bv, ↓reduceIte]
      · simp only [x141_9, x141_10, x141_15, x141_36, x141_37, xc141_12 (kcM F) (Rf_up (show 0 + 1 ≤ d + dc by omega) (is_n (d := 0) F Z hp (by decide) ht)), show (38 : Int32) = nI 38 from rfl, retI_z1, bv, CX_rf, ↓reduceIte]
theorem lp_E {lcI lmI : Nat → List Value} (hn : n < 100) (hdc : 2 ≤ dc) (J : JJ n g u op need 18 141 dc lcI lmI) (hlc : ∀ q, lcI q = [.ref q, .int (nI op)] ++ [noV, noV]) (hlm : ∀ o, lmI o = [.ref o] ++ []) : ∀ (m p l : Nat) (C : Nat → Int32) (i : Nat), n - p ≤ m → p ≤ n → l ≤ p → i ≤ p → ∃ (r : Bool) (p' l' : Nat) (C' : Nat → Int32) (op' : Nat), p ≤ p' ∧ p' ≤ n ∧ l ≤ l' ∧ l' + p ≤ p' + l ∧ (∀ i, i < l → C' i = C i) ∧ (r = true → op' = op ∧ ∀ dd, dd + 1 + need < 20 → rnD C' l (l' - l) (dd + 1) = some (dd + 1)) ∧
    (∀ d h q lv rs nc W N E, HB h q n u → Rf (d + dc + 1) 17 8 [.ref q, .int (nI op), .int 1, .int (nI i)] [] (PS h q n lv rs p nc l W N E C) = some (some (.int (bv r)), PS h q n lv rs p' nc l' W N E C')) ∧
    (∀ d h o A B X, MF h o A B → XO X n g u → Rf (d + dc + 1) 140 9 [.ref o] [] (MS h o p op l X) = some (some (.int (bv r)), MS h o p' op' l' (CX X g l l' C'))) := by
  intro m
  induction m with
  | zero =>
    intro p l C i hm hp hl hi
    have ht : ¬ tk u n p 124 := fun z => by have := z.1; omega
    have c100 : nI i < 100 := nI_lt (a := i) (b := 100) (by omega) (by decide)
    refine ⟨true, p, l, C, op, Nat.le_refl _, hp, Nat.le_refl _, by omega, fun _ _ => rfl, fun _ => ⟨rfl, fun dd _ => by rw [Nat.sub_self]; rfl⟩, fun d h q lv rs nc W N E H => ?_, fun d h o A B X F Z => ?_⟩
    · simp only [x17_8, x17_9, x17_12, x17_13, x17_15, x17_18, x17_19, x17_24, x17_56, x17_57, xc17_21 kcP (tk_n (d := d + dc) H hp (by decide) ht), show (124 : Int32) = nI 124 from rfl, c100, litZ, retI_z1, bv, ↓reduceIte]
    · simp only [x140_9, x140_10, x140_15, x140_35, x140_36, xc140_12 (kcM F) (Rf_up (show 0 + 1 ≤ d + dc by omega) (is_n (d := 0) F Z hp (by decide) ht)), show (124 : Int32) = nI 124 from rfl, retI_z1, bv, CX_rf, ↓reduceIte]
  | succ m ih =>
    intro p l C i hm hp hl hi
    have c100 : nI i < 100 := nI_lt (a := i) (b := 100) (by omega) (by decide)
    by_cases ht : tk u n p 124
    · have hp1 : p + 1 ≤ n := ht.1
      obtain ⟨r1, p1, l1, C1, op1, ⟨o1, o2, o3, o4, o5, o6⟩, jc, jm⟩ := J (p + 1) l C hp1 (by omega)
      cases r1 with
      | false =>
        refine ⟨false, p1, l1, C1, op1, by omega, o2, o3, by omega, o5, fun z => absurd z (by decide), fun d h q lv rs nc W N E H => ?_, fun d h o A B X F Z => ?_⟩
        · have e1 := jc d h q lv rs nc W N E H
          rw [hlc] at e1
          simp only [bv, List.cons_append, List.nil_append] at e1
          rw [x17_8]
          simp only [x17_9, x17_12, x17_13, x17_15, x17_18, x17_19, x17_24, x17_27, x17_28, x17_32, x17_35, x17_36, x17_41, x17_44, x17_45, x17_48, x17_49, x17_50, x17_53, x17_56, x17_57, xc17_21 kcP (tk_y (d := d + dc) H hp (by decide) ht), xc17_29 kcP e1, show (124 : Int32) = nI 124 from rfl, c100, litZ, retI_z0, bv, ↓reduceIte]
          rw [x17_8]
          simp only [x17_9, x17_56, x17_57, retI_z0, ↓reduceIte]
        · have e1 := jm d h o A B X F Z
          rw [hlm] at e1
          simp only [bv, List.cons_append, List.nil_append] at e1
          rw [x140_9]
          simp only [x140_10, x140_15, x140_18, x140_22, x140_25, x140_26, xc140_12 (kcM F) (Rf_up (show 0 + 1 ≤ d + dc by omega) (is_y (d := 0) F Z hp (by decide) ht)), xc140_19 (kcM F) e1, show (124 : Int32) = nI 124 from rfl, litZ, retI_z0, bv, ↓reduceIte]
      | true =>
        obtain ⟨o7, o8, o9⟩ := o6 rfl
        subst o8
        have hl1 : l1 < n := by omega
        obtain ⟨r, p', l', C', op', q1, q2, q3, q4, q5, q6, kc, km⟩ := ih p1 (l1 + 1) (upd C1 l1 (-3)) (i + 1) (by omega) o2 (by omega) (by omega)
        refine ⟨r, p', l', C', op', by omega, q2, by omega, by omega, fun j hj => by rw [q5 j (by omega), upd_at, if_neg (by omega)]; exact o5 j hj, fun z => ⟨(q6 z).1, fun dd hd => rn_loop o3 q3 o9 q5 (by have := dp_2 dd; simp only [this]) ((q6 z).2 dd hd) hd⟩, fun d h q lv rs nc W N E H => ?_, fun d h o A B X F Z => ?_⟩
        · have e1 := jc d h q lv rs nc W N E H
          rw [hlc] at e1
          simp only [bv, List.cons_append, List.nil_append] at e1
          have e2 := kc d h q lv rs nc W N E H
          rw [x17_8]
          simp only [x17_9, x17_12, x17_13, x17_15, x17_18, x17_19, x17_24, x17_27, x17_28, x17_32, x17_35, x17_36, x17_41, x17_44, x17_45, x17_48, x17_49, x17_50, x17_53, xc17_21 kcP (tk_y (d := d + dc) H hp (by decide) ht), xc17_29 kcP e1, xc17_38 kcP (sp_emit (d := d + dc) hl1 hn), show (124 : Int32) = nI 124 from rfl, c100, litZ, nI_1, ↓reduceIte]
          exact e2
        · have e1 := jm d h o A B X F Z
          rw [hlm] at e1
          simp only [bv, List.cons_append, List.nil_append] at e1
          have e3 := sp_put (d := d + dc) (op := op1) (pt := p1) (v := -1) F (XO_CX (l := l) (l' := l1) (C := C1) Z) (md := l1) (by omega)
          have e4 : upd (CX X g l l1 C1) (431 + 100 * g + l1) (-1) = CX X g l (l1 + 1) (upd C1 l1 (-3)) := CX_put o3 (by decide)
          rw [e4] at e3
          have e2 := km d h o A B _ F (XO_CX (l := l) (l' := l1 + 1) (C := upd C1 l1 (-3)) Z)
          rw [CX_tr (by omega) q3 q5] at e2
          rw [x140_9]
          simp only [x140_10, x140_15, x140_18, x140_22, x140_25, x140_26, x140_27, x140_28, x140_32, xc140_12 (kcM F) (Rf_up (show 0 + 1 ≤ d + dc by omega) (is_y (d := 0) F Z hp (by decide) ht)), xc140_19 (kcM F) e1, xc140_29 (kcM F) e3, show (124 : Int32) = nI 124 from rfl, litZ, ↓reduceIte]
          exact e2
    · refine ⟨true, p, l, C, op, Nat.le_refl _, hp, Nat.le_refl _, by omega, fun _ _ => rfl, fun _ => ⟨rfl, fun dd _ => by rw [Nat.sub_self]; rfl⟩, fun d h q lv rs nc W N E H => ?_, fun d h o A B X F Z => ?_⟩
      · simp only [x17_8, x17_9, x17_12, x17_13, x17_15, x17_18, x17_19, x17_24, x17_56, x17_57, xc17_21 kcP (tk_n (d := d + dc) H hp (by decide) ht), show (124 : Int32) = nI 124 from rfl, c100, litZ, retI_z1, bv, ↓reduceIte]
      · simp only [x140_9, x140_10, x140_15, x140_35, x140_36, xc140_12 (kcM F) (Rf_up (show 0 + 1 ≤ d + dc by omega) (is_n (d := 0) F Z hp (by decide) ht)), show (124 : Int32) = nI 124 from rfl, retI_z1, bv, CX_rf, ↓reduceIte]
end EX
