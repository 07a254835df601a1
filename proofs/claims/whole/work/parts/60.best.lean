-- deps: 59.years
/-! BEST. -/
def gA (A C : Nat → Int32) (ml : List Cl) (n N t : Nat) : Int32 := ab (gapF (yP A C ml n N t).1 n)
def bt1 (A C : Nat → Int32) (ml : List Cl) (n N b t : Nat) : Nat := if gA A C ml n N t < gA A C ml n N b then t else b
section BS
variable {d o q n cl N t b : Nat} {kn : Nat → Nat} {A B C T : Nat → Int32} {h h' : AHp} {ml : List Cl} {im rn : Int32}
def CS (h : AHp) (A : Nat → Int32) (n : Nat) (C : Nat → Int32) (cl : Nat) (ml : List Cl) (q : Nat) (kn : Nat → Nat) : Prop := XF h ∧ SD h 33 60 A n C cl ml q kn ∧ ∃ A3 q3 kn3, OF h 99 A3 q3 kn3
theorem CS_ne (Z : CS h A n C cl ml q kn) {A3 : Nat → Int32} {q3 : Nat} {kn3 : Nat → Nat} (F : OF h' 99 A3 q3 kn3) (E : OE h h' 99) : CS h' A n C cl ml q kn := by
  obtain ⟨x, s, -⟩ := Z
  refine ⟨XF_ne x (E.2 32 (by decide)), SD_ne s (by rw [E.1]; exact Nat.le_refl _) (fun p hp => E.2 p ?_), A3, q3, kn3, F⟩
  clear F x s
  unfold dyn at hp
  omega
theorem cb_try (Z : CS h A n C cl ml q kn) (hN : N ≤ 20) (ht : t ≤ 3) {a b c v5 : Value} : ∃ h' A3 q3 kn3, Rf (d + 9) 106 25 [.ref 32, .int (nI N), a, b, .int (nI t), v5] [] h = Rf (d + 9) 106 45 [.ref 32, .int (nI N), a, b, .int (nI t), .int (gA A C ml n N t)] [] h' ∧ OF h' 99 A3 q3 kn3 ∧ OE h h' 99 := by
  obtain ⟨X0, S, A3, q3, kn3, f3⟩ := Z
  obtain ⟨h1, e1, g1, o1⟩ := sp_try (d := d + 1) X0 S f3 hN ht
  obtain ⟨F, K, D, R, Q, H, Mh, HRm, DD, l1, l2⟩ := S
  have Y3 := (yK_ok N (upd A 5 (nI t), 0) (YO_0 R Mh HRm.1 HRm.2 ht hN)).1
  have p2 := sp_gap (d := d + 7) g1 Y3.1
  have X1 : XF h1 := XF_ne X0 (o1.2 32 (by decide))
  refine ⟨h1, _, _, _, ?_, g1, o1⟩
  simp only [x106_25, x106_26, x106_27, x106_32, x106_33, x106_34, x106_43, xc106_29 X0.1 e1, xc106_37 g1.1 p2, xc106_40 (sp_abs (d := d + 8)), X0, X1, and_self, ↓reduceIte]
  rfl
theorem cb_0 (Z : CS h A n C cl ml q kn) (hN : N ≤ 20) {v5 : Value} : ∃ h' A3 q3 kn3, Rf (d + 9) 106 19 [.ref 32, .int (nI N), .int 0, .int 0, .int (nI 0), v5] [] h = Rf (d + 9) 106 19 [.ref 32, .int (nI N), .int (nI 0), .int (gA A C ml n N 0), .int (nI 1), .int (gA A C ml n N 0)] [] h' ∧ OF h' 99 A3 q3 kn3 ∧ OE h h' 99 := by
  obtain ⟨h1, A3, q3, kn3, e1, f1, o1⟩ := cb_try (d := d) (c := v5) (a := .int 0) (b := .int 0) (v5 := v5) Z hN (Nat.zero_le 3) (t := 0)
  refine ⟨h1, A3, q3, kn3, ?_, f1, o1⟩
  rw [x106_19]
  have c1 : nI 0 < 4 := by decide
  have c2 : nI 0 = 0 := rfl
  simp only [x106_21, x106_22, c1, e1, x106_45, x106_47, x106_50, x106_52, x106_53, x106_56, x106_58, x106_59, x106_61, x106_62, x106_65, ↓reduceIte]
  simp only [x106_45, x106_47, x106_50, x106_52, x106_53, x106_56, x106_58, x106_59, x106_61, x106_62, x106_65, c2, ↓reduceIte]
  rfl
theorem cb_s (Z : CS h A n C cl ml q kn) (hN : N ≤ 20) (h1 : 1 ≤ t) (ht : t ≤ 3) {v5 : Value} : ∃ h' A3 q3 kn3, Rf (d + 9) 106 19 [.ref 32, .int (nI N), .int (nI b), .int (gA A C ml n N b), .int (nI t), v5] [] h = Rf (d + 9) 106 19 [.ref 32, .int (nI N), .int (nI (bt1 A C ml n N b t)), .int (gA A C ml n N (bt1 A C ml n N b t)), .int (nI (t + 1)), .int (gA A C ml n N t)] [] h' ∧ OF h' 99 A3 q3 kn3 ∧ OE h h' 99 := by
  obtain ⟨h1, A3, q3, kn3, e1, f1, o1⟩ := cb_try (d := d) (c := v5) (a := .int (nI b)) (b := .int (gA A C ml n N b)) (v5 := v5) Z hN ht
  refine ⟨h1, A3, q3, kn3, ?_, f1, o1⟩
  have c1 : nI t < 4 := nI_lt (a := t) (b := 4) (by clear f1; omega) (by decide)
  have c2 : ¬ nI t = 0 := fun z => by
    have := (nI_eq (a := t) (b := 0) (by clear f1; omega) (by decide)).mp z
    clear f1
    omega
  rw [x106_19]
  simp only [x106_21, x106_22, c1, ↓reduceIte]
  rw [e1]
  unfold bt1
  by_cases y : gA A C ml n N t < gA A C ml n N b
  · simp only [x106_45, x106_47, x106_50, x106_52, x106_53, x106_56, x106_58, x106_59, x106_61, x106_62, x106_65, c2, y, nI_1, ↓reduceIte]
  · simp only [x106_45, x106_47, x106_50, x106_52, x106_53, x106_56, x106_58, x106_59, x106_61, x106_62, x106_65, c2, y, nI_1, ↓reduceIte]
theorem mb_s (M : MM h o A B im rn T) (R : RG A n) (Z : MH A C cl ml) (H : HR ml) (Y : YB A) (hN : N ≤ 20) (hb : b ≤ 3) (ht : t ≤ 3) : ∃ h', Rf (d + 8) 173 17 [.ref o, .int (nI N), .int (nI b), .int (nI t)] [] h = Rf (d + 8) 173 17 [.ref o, .int (nI N), .int (nI (bt1 A C ml n N b t)), .int (nI (t + 1))] [] h' ∧ MM h' o A B im rn T ∧ ME h h' o := by
  obtain ⟨h1, e1, m1, E1⟩ := sp_myears (d := d) M R Z H Y hN ht (x := 2) (by decide)
  obtain ⟨h2, e2, m2, E2⟩ := sp_myears (d := d) m1 R Z H Y hN hb (x := 2) (by decide)
  have c1 : nI t < 4 := nI_lt (a := t) (b := 4) (by omega) (by decide)
  have v2 : ∀ t, yV A C ml n N t 2 = gapF (yP A C ml n N t).1 n := fun t => by
    unfold yV
    rw [if_neg (by decide), if_neg (by decide)]
  rw [v2] at e1 e2
  refine ⟨h2, ?_, m2, E2.1.trans E1.1, fun p hp => (E2.2 p hp).trans (E1.2 p hp)⟩
  rw [x173_17]
  unfold bt1
  by_cases y : gA A C ml n N t < gA A C ml n N b
  · have y' := y
    unfold gA at y'
    simp only [x173_18, x173_19, x173_22, x173_23, x173_24, x173_25, x173_32, x173_33, x173_34, x173_35, x173_42, x173_45, x173_46, x173_47, x173_50, xc173_26 M.1.1 e1, xc173_36 m1.1.1 e2, xc173_29 (sp_abs (d := d + 7)), xc173_39 (sp_abs (d := d + 7)), c1, y, y', nI_1, ↓reduceIte]
  · have y' := y
    unfold gA at y'
    simp only [x173_18, x173_19, x173_22, x173_23, x173_24, x173_25, x173_32, x173_33, x173_34, x173_35, x173_42, x173_45, x173_46, x173_47, x173_50, xc173_26 M.1.1 e1, xc173_36 m1.1.1 e2, xc173_29 (sp_abs (d := d + 7)), xc173_39 (sp_abs (d := d + 7)), c1, y, y', nI_1, ↓reduceIte]
theorem bt_3 {A C : Nat → Int32} (hb : b ≤ 3) (ht : t ≤ 3) : bt1 A C ml n N b t ≤ 3 := by
  unfold bt1
  split <;> omega
theorem pr_best (G : GI h) {x : Int32} : PR h 106 173 [.ref 32, .int x, noV, noV, noV, noV] [.ref 128, .int x, noV, noV] := by
  obtain ⟨A, B, im, rn, T, n, C, cl, ml, q, kn, n2, C2, cl2, ml2, q2, kn2, G⟩ := G
  have S := G.2.2.2.1
  obtain ⟨F, K, D, R, Q, H, Mh, HRm, DD, l1, l2⟩ := G.2.2.2.1
  by_cases hx : ¬ x < 0 ∧ ¬ 20 < x
  rotate_left
  · exact PR_ro (dc := 9) (dm := 9) (v := -2) (by simp only [x106_0, x106_1, x106_6, x106_9, x106_11, xc106_3 (sp_within (d := 8)), b2_0, hx, not_false_eq_true, and_self, ↓reduceIte]) (by simp only [x173_0, x173_1, x173_2, x173_7, x173_10, x173_12, xc173_4 (sp_mwithin (d := 8)), b2_0, hx, not_false_eq_true, and_self, ↓reduceIte]) (by decide) (by decide) G (same2 rfl)
  obtain ⟨N, hN, rfl⟩ := nI_of2 (M := 20) (n := 20) (by decide) hx.1 (Int32.not_lt.mp hx.2)
  have Z0 : CS h A n C cl ml q kn := ⟨G.1, S, G.2.2.2.2.2.1⟩
  obtain ⟨h0, A0, q0, kn0, e0, f0, o0⟩ := cb_0 (d := 0) (v5 := noV) Z0 hN
  have Z1 := CS_ne Z0 f0 o0
  obtain ⟨h1, A1, q1, kn1, e1, f1, o1⟩ := cb_s (d := 0) (b := 0) (t := 1) (v5 := .int (gA A C ml n N 0)) Z1 hN (by decide) (by decide)
  have Z2 := CS_ne Z1 f1 o1
  generalize eb1 : bt1 A C ml n N 0 1 = b1 at e1
  obtain ⟨h2, A2, q2', kn2', e2, f2, o2⟩ := cb_s (d := 0) (b := b1) (t := 2) (v5 := .int (gA A C ml n N 1)) Z2 hN (by decide) (by decide)
  have Z3 := CS_ne Z2 f2 o2
  generalize eb2 : bt1 A C ml n N b1 2 = b2 at e2
  obtain ⟨h3, A3, q3, kn3, e3, f3, o3⟩ := cb_s (d := 0) (b := b2) (t := 3) (v5 := .int (gA A C ml n N 2)) Z3 hN (by decide) (by decide)
  generalize eb3 : bt1 A C ml n N b2 3 = b3 at e3
  have oo := OE_tr (OE_tr (OE_tr o0 o1) o2) o3
  have G1 := GX_T G f3 oo
  have hb1 : b1 ≤ 3 := by rw [← eb1]; exact bt_3 (by decide) (by decide)
  have hb2 : b2 ≤ 3 := by rw [← eb2]; exact bt_3 hb1 (by decide)
  obtain ⟨k1, r1, m1, E1⟩ := mb_s (d := 0) (b := 0) (t := 1) G1.2.2.2.2.2.2.2.2.1 R Mh HRm.1 HRm.2 hN (by decide) (by decide)
  obtain ⟨k2, r2, m2, E2⟩ := mb_s (d := 0) (b := b1) (t := 2) m1 R Mh HRm.1 HRm.2 hN hb1 (by decide)
  obtain ⟨k3, r3, m3, E3⟩ := mb_s (d := 0) (b := b2) (t := 3) m2 R Mh HRm.1 HRm.2 hN hb2 (by decide)
  rw [eb1] at r1
  rw [eb2] at r2
  rw [eb3] at r3
  have EE : ME h3 k3 128 := ⟨E3.1.trans (E2.1.trans E1.1), fun p hp => (E3.2 p hp).trans ((E2.2 p hp).trans (E1.2 p hp))⟩
  have c4 : ¬ nI 4 < 4 := by decide
  refine PR_of (h1 := h3) (h2 := k3) (dc := 9) (dm := 8) (v := nI b3) ?_ ?_ (by decide) (by decide) (GX_M G1 m3 EE) (same2 (EE.1.trans oo.1))
  · simp only [x106_0, x106_1, x106_6, x106_9, x106_11, x106_12, x106_13, x106_14, x106_15, x106_16, x106_17, xc106_3 (sp_within (d := 8)), b2_0, hx, not_true_eq_false, not_false_eq_true, and_self, ↓reduceIte]
    refine e0.trans (e1.trans (e2.trans (e3.trans ?_)))
    simp only [x106_19, x106_21, x106_22, x106_68, x106_69, c4, ↓reduceIte]
  · simp only [x173_0, x173_1, x173_2, x173_7, x173_10, x173_12, x173_13, x173_14, x173_15, x173_16, xc173_4 (sp_mwithin (d := 7)), b2_0, hx, not_true_eq_false, not_false_eq_true, and_self, ↓reduceIte]
    refine r1.trans (r2.trans (r3.trans ?_))
    simp only [x173_17, x173_18, x173_19, x173_53, x173_54, c4, ↓reduceIte]
end BS
