-- deps: 44.known
/-! WHAT HOLDS between two calls. -/
/-- the places of what is made anew, or of the first Knowings and houses -/
def dyn (p : Nat) : Prop := (44 ≤ p ∧ p ≤ 59) ∨ (77 ≤ p ∧ p ≤ 92) ∨ (110 ≤ p ∧ p ≤ 125) ∨ 136 ≤ p
def DP (q : Nat) (kn : Nat → Nat) : Prop := (∀ i, i ≤ 5 → dyn (q + i)) ∧ ∀ j, j < 10 → dyn (kn j)
def HR (ml : List Cl) : Prop := ∀ x ∈ ml, (∃ k, k ≤ 4 ∧ x.1 = nI k) ∧ ∃ k, k ≤ 99 ∧ x.2.1 = nI k
def YB (A : Nat → Int32) : Prop := ∃ k, k ≤ 99 ∧ A 6 = nI k
theorem YB_cong {A A' : Nat → Int32} (Y : YB A) (e : A' 6 = A 6) : YB A' := by
  obtain ⟨k, hk, z⟩ := Y
  exact ⟨k, hk, e.trans z⟩
def SD (h : AHp) (o pp : Nat) (A : Nat → Int32) (n : Nat) (C : Nat → Int32) (cl : Nat) (ml : List Cl) (q : Nat) (kn : Nat → Nat) : Prop :=
  OF h o A q kn ∧ KN h A kn ∧ PP h pp A ∧ RG A n ∧ RP A ∧ HO h q C cl ml ∧ MH A C cl ml ∧ (HR ml ∧ YB A) ∧ DP q kn ∧ q + 5 < h.2.1 ∧ ∀ j, j < 10 → kn j < h.2.1
def TR (h : AHp) (rn : Int32) (T : Nat → Int32) : Prop := cls (h.1 126) = 10 ∧ oL (h.1 126) = 2 ∧ oKr (h.1 126) 0 = true ∧ oR (h.1 126) 0 = 127 ∧ oKi (h.1 126) 1 = true ∧ oN (h.1 126) 1 = rn ∧ aT (h.1 127) = 0 ∧ aN (h.1 127) = 20 ∧ aF (h.1 127) = T
def GX (h : AHp) (A B : Nat → Int32) (im rn : Int32) (T : Nat → Int32) (n : Nat) (C : Nat → Int32) (cl : Nat) (ml : List Cl) (q : Nat) (kn : Nat → Nat) (n2 : Nat) (C2 : Nat → Int32) (cl2 : Nat) (ml2 : List Cl) (q2 : Nat) (kn2 : Nat → Nat) : Prop :=
  XF h ∧ oN (h.1 32) 6 = im ∧ (im = 0 ∨ im = 1) ∧ SD h 33 60 A n C cl ml q kn ∧ SD h 66 93 B n2 C2 cl2 ml2 q2 kn2 ∧ (∃ A3 q3 kn3, OF h 99 A3 q3 kn3) ∧ TR h rn T ∧ (∃ k, k ≤ 100 ∧ rn = nI k) ∧ MM h 128 A B im rn T ∧ 136 ≤ h.2.1
def GI (h : AHp) : Prop := ∃ A B im rn T n C cl ml q kn n2 C2 cl2 ml2 q2 kn2, GX h A B im rn T n C cl ml q kn n2 C2 cl2 ml2 q2 kn2
/-- the signs of the tapes, at most -/
def sgH (h : AHp) : Nat := max (oN (h.1 60) 1).toNatClampNeg (oN (h.1 93) 1).toNatClampNeg
def SGo (h : AHp) (A B : Nat → Int32) : Prop := (A 4).toNatClampNeg ≤ sgH h + 1 ∧ (B 4).toNatClampNeg ≤ sgH h + 1
def PR (h : AHp) (c m : Nat) (lc lm : List Value) : Prop := ∃ v h1 h2, Rf 900 c 0 lc [] h = some (some (.int v), h1) ∧ Rf 900 m 0 lm [] h1 = some (some (.int v), h2) ∧ GI h2 ∧ h2.2.1 ≤ h.2.1 + 6 ∧ h2.2.2 ≤ h.2.2 + 300 ∧ sgH h2 ≤ sgH h + 1
section IV
variable {d o q n cl pp : Nat} {kn : Nat → Nat} {A B C A' : Nat → Int32} {h h' : AHp} {ml : List Cl}
theorem AP_of (D : DP q kn) : AP 33 q kn ∧ AP 66 q kn ∧ AP 99 q kn := by
  obtain ⟨a, b⟩ := D
  have a0 := a 0 (by decide)
  have a1 := a 1 (by decide)
  have a2 := a 2 (by decide)
  have a3 := a 3 (by decide)
  have a4 := a 4 (by decide)
  have a5 := a 5 (by decide)
  unfold dyn at a0 a1 a2 a3 a4 a5 b
  refine ⟨⟨by omega, fun j hj => ?_⟩, ⟨by omega, fun j hj => ?_⟩, ⟨by omega, fun j hj => ?_⟩⟩ <;> have := b j hj <;> omega
theorem sub_cong {b k : Nat} (e : ∀ i, i < k → A' (b + i) = A (b + i)) : sub A' b k = sub A b k := by
  funext j
  unfold sub
  by_cases hj : j < k
  · rw [if_pos hj, if_pos hj, e j hj]
  · rw [if_neg hj, if_neg hj]
theorem OF_ne (F : OF h o A q kn) (e : ∀ p, o ≤ p → p ≤ o + 10 → h'.1 p = h.1 p) : OF h' o A q kn := by
  simp only [OF, e o (by omega) (by omega), e (o + 1) (by omega) (by omega), e (o + 2) (by omega) (by omega), e (o + 3) (by omega) (by omega), e (o + 4) (by omega) (by omega), e (o + 5) (by omega) (by omega), e (o + 6) (by omega) (by omega), e (o + 7) (by omega) (by omega), e (o + 8) (by omega) (by omega), e (o + 9) (by omega) (by omega), e (o + 10) (by omega) (by omega), F, and_self]
theorem PP_ne (F : PP h o A) (e : ∀ p, o ≤ p → p ≤ o + 5 → h'.1 p = h.1 p) : PP h' o A := by
  simp only [PP, e o (by omega) (by omega), e (o + 1) (by omega) (by omega), e (o + 2) (by omega) (by omega), e (o + 3) (by omega) (by omega), e (o + 4) (by omega) (by omega), e (o + 5) (by omega) (by omega), F, and_self]
theorem MF_ne (F : MF h o A B) (e : ∀ p, o ≤ p → p ≤ o + 7 → h'.1 p = h.1 p) : MF h' o A B := by
  simp only [MF, e o (by omega) (by omega), e (o + 1) (by omega) (by omega), e (o + 2) (by omega) (by omega), e (o + 3) (by omega) (by omega), e (o + 4) (by omega) (by omega), e (o + 5) (by omega) (by omega), e (o + 6) (by omega) (by omega), e (o + 7) (by omega) (by omega), F, and_self]
theorem wat_cong (R : A 0 = nI n) (hn : n ≤ 10) (e0 : A' 0 = A 0) (e : ∀ i, i < 10 → A' (10 + i) = A (10 + i)) : wat A' = wat A := by
  have key : ∀ (x : Int32) (k w : Nat), w + k ≤ 10 → sitK A' x w k = sitK A x w k := by
    intro x k
    induction k with
    | zero => intro w _; rfl
    | succ k ih =>
      intro w hw
      unfold sitK
      rw [e w (by omega), ih (w + 1) (by omega)]
  funext d
  unfold wat sit
  rw [e0, R, nI_clamp (by omega), key (nI d) n 0 (by omega)]
theorem OF_cong (F : OF h o A q kn) (R : A 0 = nI n) (hn : n ≤ 10) (e0 : A' 0 = A 0) (e1 : A' 1 = A 1) (e5 : A' 5 = A 5) (e6 : A' 6 = A 6) (e : ∀ i, 10 ≤ i → i < 60 → A' i = A i) : OF h o A' q kn := by
  have fr : frR A' = frR A := by
    funext j
    unfold frR
    by_cases hj : j < 10
    · rw [if_pos hj, if_pos hj, e (50 + j) (by omega) (by omega)]
    · rw [if_neg hj, if_neg hj]
  simp only [OF, e0, e1, e5, e6, sub_cong (A' := A') (A := A) (b := 10) (k := 10) (fun i hi => e _ (by omega) (by omega)), sub_cong (A' := A') (A := A) (b := 20) (k := 10) (fun i hi => e _ (by omega) (by omega)), sub_cong (A' := A') (A := A) (b := 30) (k := 10) (fun i hi => e _ (by omega) (by omega)), sub_cong (A' := A') (A := A) (b := 40) (k := 10) (fun i hi => e _ (by omega) (by omega)), wat_cong R hn e0 (fun i hi => e _ (by omega) (by omega)), fr, F, and_self]
theorem KN_cong (K : KN h A kn) (e : ∀ i, 60 ≤ i → i < 80 → A' i = A i) : KN h A' kn := fun j hj => by
  rw [e _ (by omega) (by omega), e _ (by omega) (by omega)]
  exact K j hj
theorem PP_cong (F : PP h pp A) (e2 : A' 2 = A 2) (e3 : A' 3 = A 3) (e4 : A' 4 = A 4) (e7 : A' 7 = A 7) (e : ∀ i, 80 ≤ i → i < 226 → A' i = A i) : PP h pp A' := by
  simp only [PP, e2, e3, e4, e7, sub_cong (A' := A') (A := A) (b := 126) (k := 100) (fun i hi => e _ (by omega) (by omega)), sub_cong (A' := A') (A := A) (b := 80) (k := 12) (fun i hi => e _ (by omega) (by omega)), sub_cong (A' := A') (A := A) (b := 92) (k := 12) (fun i hi => e _ (by omega) (by omega)), sub_cong (A' := A') (A := A) (b := 104) (k := 12) (fun i hi => e _ (by omega) (by omega)), sub_cong (A' := A') (A := A) (b := 116) (k := 10) (fun i hi => e _ (by omega) (by omega)), F, and_self]
theorem RG_cong (R : RG A n) (e0 : A' 0 = A 0) (e5 : A' 5 = A 5) (e6 : A' 6 = A 6) (e : ∀ i, 10 ≤ i → i < 80 → A' i = A i) : RG A' n := by
  obtain ⟨h1, h2, h3, h4, h5, h6, h7⟩ := R
  refine ⟨h1, e0.trans h2, fun w hw => ?_, fun w hw => ?_, fun w v hw hv => ?_, by rw [e5]; exact h6, by rw [e6]; exact h7⟩
  · rw [e _ (by omega) (by omega), e _ (by omega) (by omega), e _ (by omega) (by omega), e _ (by omega) (by omega), e _ (by omega) (by omega)]
    exact h3 w hw
  · rw [e _ (by omega) (by omega), e _ (by omega) (by omega)]
    exact h4 w hw
  · rw [e _ (by omega) (by omega), e _ (by omega) (by omega)]
    exact h5 w v hw hv
theorem RP_cong (R : RP A) (e2 : A' 2 = A 2) (e3 : A' 3 = A 3) (e4 : A' 4 = A 4) (e7 : A' 7 = A 7) (e : ∀ i, 92 ≤ i → i < 226 → A' i = A i) : RP A' := by
  obtain ⟨h1, h2, h3, h4, h5, h6⟩ := R
  refine ⟨by rw [e2]; exact h1, by rw [e3]; exact h2, by rw [e4]; exact h3, by rw [e7]; exact h4, fun i hi => ?_, fun i hi => ?_⟩
  · rw [e _ (by omega) (by omega), e _ (by omega) (by omega)]
    exact h5 i hi
  · rw [e _ (by omega) (by omega)]
    exact h6 i hi
theorem MH_cong (Z : MH A C cl ml) (e1 : A' 1 = A 1) (e : ∀ i, 226 ≤ i → i < 931 → A' i = A i) : MH A' C cl ml := by
  rcases Z with ⟨h1, h2⟩ | ⟨g, hg, z0, z1, z2, z3, z4, z5⟩
  · exact Or.inl ⟨e1.trans h1, h2⟩
  · refine Or.inr ⟨g, e1.trans hg, z0, z1, z2, by rw [e _ (by omega) (by omega)]; exact z3, fun i hi hx => by rw [e _ (by omega) (by omega)]; exact z4 i hi hx, fun k x hx => ?_⟩
    have hk : k < 10 := by
      have := (List.getElem?_eq_some_iff.mp hx).1
      omega
    rw [e _ (by omega) (by omega), e _ (by omega) (by omega), e _ (by omega) (by omega), e _ (by omega) (by omega)]
    exact z5 k x hx
/-- a side, where its own places are as they were -/
theorem SD_ne (Z : SD h o pp A n C cl ml q kn) (hz : h.2.1 ≤ h'.2.1) (e : ∀ p, (o ≤ p ∧ p ≤ o + 10) ∨ (pp ≤ p ∧ p ≤ pp + 5) ∨ (dyn p ∧ p < h.2.1) → h'.1 p = h.1 p) : SD h' o pp A n C cl ml q kn := by
  obtain ⟨F, K, D, R, Q, H, M, HRm, DD, l1, l2⟩ := Z
  refine ⟨OF_ne F (fun p a b => e p (Or.inl ⟨a, b⟩)), KN_ne K (fun j hj => e _ (Or.inr (Or.inr ⟨DD.2 j hj, l2 j hj⟩))), PP_ne D (fun p a b => e p (Or.inr (Or.inl ⟨a, b⟩))), R, Q, HO_ne H (fun p a b => e p (Or.inr (Or.inr ⟨?_, by omega⟩))), M, HRm, DD, by omega, fun j hj => by have := l2 j hj; omega⟩
  have := DD.1 (p - q) (by omega)
  rwa [Nat.add_sub_cancel' a] at this
end IV
section GG
variable {A B C T : Nat → Int32} {im rn : Int32} {n cl q n2 cl2 q2 : Nat} {ml ml2 : List Cl} {kn kn2 : Nat → Nat} {C2 : Nat → Int32} {h h' : AHp}
theorem TR_ne (Z : TR h rn T) (e6 : h'.1 126 = h.1 126) (e7 : h'.1 127 = h.1 127) : TR h' rn T := by
  unfold TR at Z ⊢
  rw [e6, e7]
  exact Z
theorem MM_ne (M : MM h 128 A B im rn T) (e : ∀ p, 128 ≤ p → p ≤ 135 → h'.1 p = h.1 p) : MM h' 128 A B im rn T := by
  obtain ⟨a, b, c, d⟩ := M
  exact ⟨MF_ne a (fun p x y => e p x (by omega)), by rw [e 128 (by omega) (by omega)]; exact b, by rw [e 128 (by omega) (by omega)]; exact c, by rw [e 135 (by omega) (by omega)]; exact d⟩
theorem XF_ne (G : XF h) (e : h'.1 32 = h.1 32) : XF h' := by
  simp only [XF, e, G, and_self]
/-- only the model's own scratch has changed -/
theorem GX_M (G : GX h A B im rn T n C cl ml q kn n2 C2 cl2 ml2 q2 kn2) (M : MM h' 128 A B im rn T) (E : ME h h' 128) : GX h' A B im rn T n C cl ml q kn n2 C2 cl2 ml2 q2 kn2 := by
  obtain ⟨x1, x2, x3, s1, s2, ⟨A3, q3, kn3, f3⟩, t1, t2, m1, w⟩ := G
  obtain ⟨e1, e2⟩ := E
  have hz : h.2.1 ≤ h'.2.1 := by rw [e1]; exact Nat.le_refl _
  refine ⟨XF_ne x1 (e2 32 (by omega)), by rw [e2 32 (by omega)]; exact x2, x3, SD_ne s1 hz (fun p hp => e2 p (by unfold dyn at hp; omega)), SD_ne s2 hz (fun p hp => e2 p (by unfold dyn at hp; omega)), ⟨A3, q3, kn3, OF_ne f3 (fun p a b => e2 p (by omega))⟩, TR_ne t1 (e2 126 (by omega)) (e2 127 (by omega)), t2, M, by rw [e1]; exact w⟩
/-- only the office's own scratch has changed -/
theorem GX_O (G : GX h A B im rn T n C cl ml q kn n2 C2 cl2 ml2 q2 kn2) (F : OF h' 33 A q kn) (E : OE h h' 33) : GX h' A B im rn T n C cl ml q kn n2 C2 cl2 ml2 q2 kn2 := by
  obtain ⟨x1, x2, x3, s1, s2, ⟨A3, q3, kn3, f3⟩, t1, t2, m1, w⟩ := G
  obtain ⟨e1, e2⟩ := E
  have hz : h.2.1 ≤ h'.2.1 := by rw [e1]; exact Nat.le_refl _
  obtain ⟨y1, K, D, R, Q, H, M, HRm, DD, l1, l2⟩ := s1
  have ap := (AP_of DD).1
  refine ⟨XF_ne x1 (e2 32 (by omega)), by rw [e2 32 (by omega)]; exact x2, x3, ⟨F, KN_ne K (fun j hj => e2 _ (by have := ap.2 j hj; omega)), PP_ne D (fun p a b => e2 p (by omega)), R, Q, HO_ne H (fun p a b => e2 p (by have := ap.1; omega)), M, HRm, DD, by rw [e1]; exact l1, by rw [e1]; exact l2⟩, SD_ne s2 hz (fun p hp => e2 p (by unfold dyn at hp; omega)), ⟨A3, q3, kn3, OF_ne f3 (fun p a b => e2 p (by omega))⟩, TR_ne t1 (e2 126 (by omega)) (e2 127 (by omega)), t2, MM_ne m1 (fun p a b => e2 p (by omega)), by rw [e1]; exact w⟩
/-- only the trial has changed -/
theorem GX_T (G : GX h A B im rn T n C cl ml q kn n2 C2 cl2 ml2 q2 kn2) {A3 : Nat → Int32} {q3 : Nat} {kn3 : Nat → Nat} (F : OF h' 99 A3 q3 kn3) (E : OE h h' 99) : GX h' A B im rn T n C cl ml q kn n2 C2 cl2 ml2 q2 kn2 := by
  obtain ⟨x1, x2, x3, s1, s2, -, t1, t2, m1, w⟩ := G
  obtain ⟨e1, e2⟩ := E
  have hz : h.2.1 ≤ h'.2.1 := by rw [e1]; exact Nat.le_refl _
  exact ⟨XF_ne x1 (e2 32 (by omega)), by rw [e2 32 (by omega)]; exact x2, x3, SD_ne s1 hz (fun p hp => e2 p (by unfold dyn at hp; omega)), SD_ne s2 hz (fun p hp => e2 p (by unfold dyn at hp; omega)), ⟨A3, q3, kn3, F⟩, TR_ne t1 (e2 126 (by omega)) (e2 127 (by omega)), t2, MM_ne m1 (fun p a b => e2 p (by omega)), by rw [e1]; exact w⟩
theorem SG_eq (G : GX h A B im rn T n C cl ml q kn n2 C2 cl2 ml2 q2 kn2) : oN (h.1 60) 1 = A 4 ∧ oN (h.1 93) 1 = B 4 := by
  have p1 := G.2.2.2.1.2.2.1
  have p2 := G.2.2.2.2.1.2.2.1
  exact ⟨by simp only [p1], by simp only [p2]⟩
theorem SG_up {A' B' : Nat → Int32} (G : GX h A B im rn T n C cl ml q kn n2 C2 cl2 ml2 q2 kn2) (a : A' 4 = A 4 ∨ A' 4 = B 4) (b : B' 4 = A 4 ∨ B' 4 = B 4) : SGo h A' B' := by
  obtain ⟨e1, e2⟩ := SG_eq G
  unfold SGo sgH
  rw [e1, e2]
  constructor
  · rcases a with a | a <;> rw [a] <;> omega
  · rcases b with b | b <;> rw [b] <;> omega
theorem SG_self (G : GX h A B im rn T n C cl ml q kn n2 C2 cl2 ml2 q2 kn2) : SGo h A B := SG_up G (Or.inl rfl) (Or.inr rfl)
theorem SG_same {A' : Nat → Int32} (G : GX h A B im rn T n C cl ml q kn n2 C2 cl2 ml2 q2 kn2) (a : A' 4 = A 4) : SGo h A' B := SG_up G (Or.inl a) (Or.inr rfl)
theorem SG_feed {A' : Nat → Int32} {j : Nat} (G : GX h A B im rn T n C cl ml q kn n2 C2 cl2 ml2 q2 kn2) (a : A 4 = nI j) (hj : j < 100) (b : A' 4 = nI (j + 1)) : SGo h A' B := by
  obtain ⟨e1, e2⟩ := SG_eq G
  unfold SGo sgH
  rw [e1, e2, a, b, nI_clamp (by omega), nI_clamp (by omega)]
  omega
theorem PR_of {c m : Nat} {lc lm : List Value} {v : Int32} {h1 h2 : AHp} {dc dm : Nat} (a : Rf dc c 0 lc [] h = some (some (.int v), h1)) (b : Rf dm m 0 lm [] h1 = some (some (.int v), h2)) (hc : dc ≤ 900) (hm : dm ≤ 900) (G : GX h2 A B im rn T n C cl ml q kn n2 C2 cl2 ml2 q2 kn2) (e : h2.2.1 ≤ h.2.1 + 6 ∧ h2.2.2 ≤ h.2.2 + 300) (sg : SGo h A B := by first | exact SG_self (by assumption) | exact SG_same (by assumption) (by rfl)) : PR h c m lc lm := by
  refine ⟨v, h1, h2, Rf_up hc a, Rf_up hm b, ⟨A, B, im, rn, T, n, C, cl, ml, q, kn, n2, C2, cl2, ml2, q2, kn2, G⟩, e.1, e.2, ?_⟩
  obtain ⟨e1, e2⟩ := SG_eq G
  obtain ⟨s1, s2⟩ := sg
  have : sgH h2 = max (A 4).toNatClampNeg (B 4).toNatClampNeg := by unfold sgH; rw [e1, e2]
  rw [this]
  omega
theorem same2 (e : h'.2 = h.2) : h'.2.1 ≤ h.2.1 + 6 ∧ h'.2.2 ≤ h.2.2 + 300 := by rw [e]; exact ⟨by omega, by omega⟩
theorem PR_ro {c m : Nat} {lc lm : List Value} {v : Int32} {dc dm : Nat} (a : Rf dc c 0 lc [] h = some (some (.int v), h)) (b : Rf dm m 0 lm [] h = some (some (.int v), h)) (hc : dc ≤ 900) (hm : dm ≤ 900) (G : GX h A B im rn T n C cl ml q kn n2 C2 cl2 ml2 q2 kn2) (e : h.2.1 ≤ h.2.1 + 6 ∧ h.2.2 ≤ h.2.2 + 300) : PR h c m lc lm := PR_of a b hc hm G e (SG_self G)
theorem pr_even (G : GI h) {x : Int32} : PR h 108 174 [.ref 32, .int x] [.ref 128, .int x, noV, noV, noV, noV, noV] := by
  obtain ⟨A, B, im, rn, T, n, C, cl, ml, q, kn, n2, C2, cl2, ml2, q2, kn2, G⟩ := G
  have s1 := G.2.2.2.1
  have m1 := G.2.2.2.2.2.2.2.2.1
  exact PR_of (sp_even (d := 0) G.1 s1.1 s1.2.2.2.1) (sp_meven (d := 0) m1.1 s1.2.2.2.1) (by decide) (by decide) G (same2 rfl)
theorem pr_spread (G : GI h) {w x : Int32} : PR h 109 175 [.ref 32, .int w, .int x] [.ref 128, .int w, .int x, noV, noV, noV] := by
  obtain ⟨A, B, im, rn, T, n, C, cl, ml, q, kn, n2, C2, cl2, ml2, q2, kn2, G⟩ := G
  have s1 := G.2.2.2.1
  have m1 := G.2.2.2.2.2.2.2.2.1
  exact PR_of (sp_spread (d := 0) G.1 s1.1 s1.2.2.2.1) (sp_mspread (d := 0) m1.1 s1.2.2.2.1) (by decide) (by decide) G (same2 rfl)
theorem pr_slip (G : GI h) {k : Int32} : PR h 112 179 [.ref 32, .int k, noV] [.ref 128, .int k, noV, noV] := by
  obtain ⟨A, B, im, rn, T, n, C, cl, ml, q, kn, n2, C2, cl2, ml2, q2, kn2, G⟩ := G
  have s1 := G.2.2.2.1
  have m1 := G.2.2.2.2.2.2.2.2.1
  obtain ⟨h', e1, e2, e3⟩ := sp_mslip (d := 0) (k := k) m1 s1.2.2.2.1 s1.2.2.2.2.1
  exact PR_of (sp_slip (d := 0) G.1 s1.1 s1.2.2.1 s1.2.2.2.1 s1.2.2.2.2.1) e1 (by decide) (by decide) (GX_M G e2 e3) (same2 e3.1)
theorem pr_known (G : GI h) {s : Int32} : PR h 113 180 [.ref 32, .int s, noV] [.ref 128, .int s, noV, noV, noV, noV, noV] := by
  obtain ⟨A, B, im, rn, T, n, C, cl, ml, q, kn, n2, C2, cl2, ml2, q2, kn2, G⟩ := G
  have s1 := G.2.2.2.1
  have m1 := G.2.2.2.2.2.2.2.2.1
  obtain ⟨h', e1, e2, e3⟩ := sp_mknown (d := 0) (s := s) m1 s1.2.2.2.1
  exact PR_of (sp_known (d := 0) G.1 s1.1 s1.2.2.2.1) e1 (by decide) (by decide) (GX_M G e2 e3) (same2 e3.1)
theorem pr_bargain (G : GI h) {w f b : Int32} : PR h 110 176 [.ref 32, .int w, .int f, .int b] [.ref 128, .int w, .int f, .int b, noV, noV, noV, noV, noV] := by
  obtain ⟨A, B, im, rn, T, n, C, cl, ml, q, kn, n2, C2, cl2, ml2, q2, kn2, G⟩ := G
  obtain ⟨y1, K, D, R, Q, H, M, HRm, DD, l1, l2⟩ := G.2.2.2.1
  obtain ⟨h1, e1, e2, e3⟩ := sp_bargain (d := 0) (w := w) (first := f) (b := b) G.1 y1 K R (AP_of DD).1 H
  have G1 := GX_O G e2 e3
  obtain ⟨h2, e4, e5, e6⟩ := sp_mbargain (d := 0) (w := w) (first := f) (b := b) G1.2.2.2.2.2.2.2.2.1 R M
  exact PR_of e1 e4 (by decide) (by decide) (GX_M G1 e5 e6) (same2 (e6.1.trans e3.1))
end GG
