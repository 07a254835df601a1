-- deps: 57.copy2
/-! THE IMAGE. -/
def rsb (h : AHp) (o : Nat) (X : Nat → Int32) : AHp := hset h (o + 2) (.inl (0, 931, .inl X))
section IM
variable {d o o2 pp pp2 p n cl q : Nat} {A A' B X C : Nat → Int32} {h h' : AHp} {ml : List Cl} {kn : Nat → Nat}
theorem MF_rsb (F : MF h o A B) (X : Nat → Int32) : MF (rsb h o X) o A X := by
  simp only [MF, rsb, hset_at, plus_ne o 1 2 (by decide), plus_ne o 3 2 (by decide), plus_ne o 4 2 (by decide), plus_ne o 5 2 (by decide), plus_ne o 6 2 (by decide), plus_ne o 7 2 (by decide), plus_ne0 o 2 (by decide), ↓reduceIte, aT_i, aN_i, aF_i, F, and_self]
theorem lp_img (F : MF h o A B) : ∀ (k i : Nat) (X : Nat → Int32), i + k = 931 → Rf d 196 2 [.ref o, .int (nI i)] [] (rsb h o X) = Rf d 196 27 [.ref o, .int (nI 931)] [] (rsb h o (fun j => if i ≤ j ∧ j < 931 then A j else X j)) := by
  intro k
  induction k with
  | zero =>
    intro i X hi
    have e0 : i = 931 := by clear F; omega
    subst e0
    have c1 : ¬ nI 931 < 931 := by decide
    have ex : (fun j => if 931 ≤ j ∧ j < 931 then A j else X j) = X := by
      funext j
      rw [if_neg (by omega)]
    rw [ex]
    simp only [x196_2, x196_3, x196_6, c1, ↓reduceIte]
  | succ k ih =>
    intro i X hi
    have hi2 : i < 931 := by clear F; omega
    have c1 : nI i < 931 := nI_lt (a := i) (b := 931) hi2 (by decide)
    have c2 : inB (nI i) 931 = true := nI_inB hi2 (by decide)
    have c3 : (nI i).toNatClampNeg = i := nI_clamp (by omega)
    have e1 := ih (i + 1) (upd X i (A i)) (by clear F; omega)
    have ex : (fun j => if i + 1 ≤ j ∧ j < 931 then A j else upd X i (A i) j) = (fun j => if i ≤ j ∧ j < 931 then A j else X j) := by
      funext j
      clear F
      by_cases z : j = i
      · subst z
        rw [if_neg (by omega), if_pos (by omega), upd_at, if_pos rfl]
      · by_cases y : i + 1 ≤ j ∧ j < 931
        · rw [if_pos y, if_pos (by omega)]
        · rw [if_neg y, if_neg (by omega), upd_at, if_neg z]
    rw [ex] at e1
    have F1 := MF_rsb F X
    rw [x196_2]
    simp only [x196_3, x196_6, x196_9, x196_10, x196_13, x196_14, x196_15, x196_18, x196_19, x196_20, x196_21, x196_24, F1, c1, c2, c3, true_or, and_self, nI_1, ↓reduceIte]
    unfold rsb at e1 ⊢
    rw [hset_hset]
    exact e1
theorem lp_und (F : MF h o A B) : ∀ (k i : Nat) (X : Nat → Int32), i + k = 931 → Rf d 197 12 [.ref o, .int (nI i)] [] (rst h o X) = Rf d 197 37 [.ref o, .int (nI 931)] [] (rst h o (fun j => if i ≤ j ∧ j < 931 then B j else X j)) := by
  intro k
  induction k with
  | zero =>
    intro i X hi
    have e0 : i = 931 := by clear F; omega
    subst e0
    have c1 : ¬ nI 931 < 931 := by decide
    have ex : (fun j => if 931 ≤ j ∧ j < 931 then B j else X j) = X := by
      funext j
      rw [if_neg (by omega)]
    rw [ex]
    simp only [x197_12, x197_13, x197_16, c1, ↓reduceIte]
  | succ k ih =>
    intro i X hi
    have hi2 : i < 931 := by clear F; omega
    have c1 : nI i < 931 := nI_lt (a := i) (b := 931) hi2 (by decide)
    have c2 : inB (nI i) 931 = true := nI_inB hi2 (by decide)
    have c3 : (nI i).toNatClampNeg = i := nI_clamp (by omega)
    have e1 := ih (i + 1) (upd X i (B i)) (by clear F; omega)
    have ex : (fun j => if i + 1 ≤ j ∧ j < 931 then B j else upd X i (B i) j) = (fun j => if i ≤ j ∧ j < 931 then B j else X j) := by
      funext j
      clear F
      by_cases z : j = i
      · subst z
        rw [if_neg (by omega), if_pos (by omega), upd_at, if_pos rfl]
      · by_cases y : i + 1 ≤ j ∧ j < 931
        · rw [if_pos y, if_pos (by omega)]
        · rw [if_neg y, if_neg (by omega), upd_at, if_neg z]
    rw [ex] at e1
    have F1 := MF_rst F X
    rw [x197_12]
    simp only [x197_13, x197_16, x197_19, x197_20, x197_23, x197_24, x197_25, x197_28, x197_29, x197_30, x197_31, x197_34, F1, c1, c2, c3, true_or, and_self, nI_1, rst_rst, ↓reduceIte]
    exact e1
/-- a side as another one -/
theorem SD_copy (S : SD h o pp A n C cl ml q kn) (F' : OF h' o2 A q kn) (D' : PP h' pp2 A) (e : ∀ p, dyn p → p < h.2.1 → h'.1 p = h.1 p) (z : h'.2 = h.2) (u : ∀ i, i < 931 → A' i = A i) : SD h' o2 pp2 A' n C cl ml q kn := by
  obtain ⟨F, K, D, R, Q, H, Mh, HRm, DD, l1, l2⟩ := S
  have hn := R.1
  refine ⟨OF_cong F' R.2.1 hn (u 0 (by decide)) (u 1 (by decide)) (u 5 (by decide)) (u 6 (by decide)) (fun i a b => u i (by clear F F'; omega)), KN_ne (KN_cong K (fun i a b => u i (by clear F F'; omega))) (fun j hj => e _ (DD.2 j hj) (l2 j hj)), PP_cong D' (u 2 (by decide)) (u 3 (by decide)) (u 4 (by decide)) (u 7 (by decide)) (fun i a b => u i (by clear F F'; omega)), RG_cong R (u 0 (by decide)) (u 5 (by decide)) (u 6 (by decide)) (fun i a b => u i (by clear F F'; omega)), RP_cong Q (u 2 (by decide)) (u 3 (by decide)) (u 4 (by decide)) (u 7 (by decide)) (fun i a b => u i (by clear F F'; omega)), HO_ne H (fun p a b => ?_), MH_cong Mh (u 1 (by decide)) (fun i a b => u i b), ⟨HRm.1, YB_cong HRm.2 (u 6 (by decide))⟩, DD, by rw [z]; exact l1, by rw [z]; exact l2⟩
  have d1 := DD.1 (p - q) (by clear F F'; omega)
  rw [Nat.add_sub_cancel' a] at d1
  exact e p d1 (by clear F F'; omega)
theorem XF_im (G : XF h) (v : Int32) : XF (hset h 32 (oSet (h.1 32) 6 (.int v))) ∧ oN ((hset h 32 (oSet (h.1 32) 6 (.int v))).1 32) 6 = v := by
  have hl : 6 < oL (h.1 32) := by simp only [G]; decide
  constructor
  · simp only [XF, hset_at, ↓reduceIte, cls_set, oL_set, oKi_eq hl, oKr_ne (show ¬ 0 = 6 by decide), oR_ne (show ¬ 0 = 6 by decide), oKr_ne (show ¬ 1 = 6 by decide), oR_ne (show ¬ 1 = 6 by decide), oKr_ne (show ¬ 2 = 6 by decide), oR_ne (show ¬ 2 = 6 by decide), oKr_ne (show ¬ 3 = 6 by decide), oR_ne (show ¬ 3 = 6 by decide), oKr_ne (show ¬ 4 = 6 by decide), oR_ne (show ¬ 4 = 6 by decide), oKr_ne (show ¬ 5 = 6 by decide), oR_ne (show ¬ 5 = 6 by decide), G, and_self]
  · rw [hset_at, if_pos rfl, oN_eq hl]
theorem MF_im (F : MF h o A B) (v : Int32) : MF (hset h o (oSet (h.1 o) 2 (.int v))) o A B := by
  have hl : 2 < oL (h.1 o) := by simp only [F]; decide
  simp only [MF, hset_at, plus_ne0 o 1 (by decide), plus_ne0 o 2 (by decide), plus_ne0 o 3 (by decide), plus_ne0 o 4 (by decide), plus_ne0 o 5 (by decide), plus_ne0 o 6 (by decide), plus_ne0 o 7 (by decide), ↓reduceIte, cls_set, oL_set, oKi_eq hl,
    oKr_ne (show ¬ 0 = 2 by decide), oR_ne (show ¬ 0 = 2 by decide),
    oKr_ne (show ¬ 1 = 2 by decide), oR_ne (show ¬ 1 = 2 by decide),
    oKr_ne (show ¬ 6 = 2 by decide), oR_ne (show ¬ 6 = 2 by decide),
    oKr_ne (show ¬ 7 = 2 by decide), oR_ne (show ¬ 7 = 2 by decide),
    oKr_ne (show ¬ 8 = 2 by decide), oR_ne (show ¬ 8 = 2 by decide),
    oKr_ne (show ¬ 9 = 2 by decide), oR_ne (show ¬ 9 = 2 by decide),
    oKr_ne (show ¬ 11 = 2 by decide), oR_ne (show ¬ 11 = 2 by decide),
    oKi_ne (show ¬ 3 = 2 by decide),
    oKi_ne (show ¬ 4 = 2 by decide),
    oKi_ne (show ¬ 5 = 2 by decide),
    oKi_ne (show ¬ 10 = 2 by decide),
    F, and_self]
end IM
section IG
theorem pr_image {h : AHp} (G : GI h) : PR h 126 196 [.ref 32] [.ref 128, noV] := by
  obtain ⟨A, B, im, rn, T, n, C, cl, ml, q, kn, n2, C2, cl2, ml2, q2, kn2, G⟩ := G
  have G0 := G
  obtain ⟨x1, x2, x3, S1, S2, ⟨A3, q3, kn3, f3⟩, t1, t2, m1, w⟩ := G
  have s1 := S1
  obtain ⟨F, K, D, R, Q, H, Mh, HRm, DD, l1, l2⟩ := s1
  have F2 := S2.1
  have D2 := S2.2.2.1
  have ap := (AP_of DD).2.1
  obtain ⟨h1, e1, f1, o1, o2⟩ := sp_copy (d := 0) F2 F (fun j hj => (K j hj).2.2.2.2.2) ap.2 (by decide)
  have D' : PP h1 60 A := PP_ne D (fun p a b => o2 p (by clear F F2 f1 f3 D D2; omega))
  have D2' : PP h1 93 B := PP_ne D2 (fun p a b => o2 p (by clear F F2 f1 f3 D D2; omega))
  obtain ⟨h2, e2, f2, p1, p2⟩ := sp_copyP (d := 1) D2' D' Q (by decide)
  have c32 : h2.1 32 = h.1 32 := (p2 32 (by decide)).trans (o2 32 (by decide))
  have c33 : h2.1 33 = h.1 33 := (p2 33 (by decide)).trans (o2 33 (by decide))
  have X1 : XF h1 := XF_ne x1 (o2 32 (by decide))
  have X2 : XF h2 := XF_ne x1 c32
  obtain ⟨X3, i3⟩ := XF_im X2 1
  have f66 : cls (h.1 66) = 6 := F2.1
  have f93 : cls (h1.1 93) = 7 := D2'.1
  have fw : cls (h2.1 33) = 6 ∧ oKi (h2.1 33) 0 = true ∧ oN (h2.1 33) 0 = A 0 := by rw [c33]; simp only [F, and_self]
  have h3e : ∀ p, ¬ p = 32 → (p < 66 ∨ 76 < p) → (p < 93 ∨ 98 < p) → (hset h2 32 (oSet (h2.1 32) 6 (.int 1))).1 p = h.1 p := fun p a b c => (hset_ne a).trans ((p2 p c).trans (o2 p b))
  have hz : (hset h2 32 (oSet (h2.1 32) 6 (.int 1))).2 = h.2 := p1.trans o1
  have a1 : Rf 2 126 0 [.ref 32] [] h = some (some (.int (A 0)), hset h2 32 (oSet (h2.1 32) 6 (.int 1))) := by
    have fw' : cls ((hset h2 32 (oSet (h2.1 32) 6 (.int 1))).1 33) = 6 ∧ oKi ((hset h2 32 (oSet (h2.1 32) 6 (.int 1))).1 33) 0 = true ∧ oN ((hset h2 32 (oSet (h2.1 32) 6 (.int 1))).1 33) 0 = A 0 := by
      rw [hset_ne (by decide)]; exact fw
    simp only [x126_0, x126_1, x126_4, x126_5, x126_11, x126_12, x126_15, x126_16, x126_22, x126_23, xc126_8 f66 e1, xc126_19 f93 e2, x126_24 (Or.inr rfl), x126_27, x126_28, x126_31, x126_34, x1, X1, X2, X3, fw', and_self, ↓reduceIte]
  have h3w : ∀ p, ¬ p = 32 → (hset h2 32 (oSet (h2.1 32) 6 (.int 1))).1 p = h2.1 p := fun p a => hset_ne a
  generalize hset h2 32 (oSet (h2.1 32) 6 (.int 1)) = h3 at X3 i3 h3e hz a1 h3w
  have M3 : MM h3 128 A B im rn T := MM_ne m1 (fun p a b => h3e p (by clear F F2 f1 f2 f3 D D2 D' D2'; omega) (by clear F F2 f1 f2 f3 D D2 D' D2'; omega) (by clear F F2 f1 f2 f3 D D2 D' D2'; omega))
  have hB : h3.1 130 = .inl (0, 931, .inl B) := by
    have MF3 := M3.1
    have := cell_eq (c := h3.1 130) (t := 0) (by simp only [MF3]) (by decide)
    rw [show aN (h3.1 130) = 931 by simp only [MF3], show aF (h3.1 130) = B by simp only [MF3]] at this
    exact this
  have hr : rsb h3 128 B = h3 := hset_self hB
  have l := lp_img (d := 0) M3.1 931 0 B (by decide)
  rw [hr, nI_0] at l
  generalize eB : (fun j => if 0 ≤ j ∧ j < 931 then A j else B j) = B' at l
  have u : ∀ i, i < 931 → B' i = A i := fun i hi => by rw [← eB]; exact if_pos ⟨Nat.zero_le _, hi⟩
  have F4 := MF_rsb M3.1 B'
  have F5 := MF_im F4 1
  have a2 : Rf 0 196 0 [.ref 128, noV] [] h3 = some (some (.int (A 0)), hset (rsb h3 128 B') 128 (oSet ((rsb h3 128 B').1 128) 2 (.int 1))) := by
    simp only [x196_0, x196_1, l, x196_27, x196_28, x196_29 (Or.inr rfl), x196_32, x196_33, x196_36, x196_37, x196_38, F4, F5, ixL, true_or, and_self, ↓reduceIte]
  have he : ∀ p, ¬ p = 128 → ¬ p = 130 → (hset (rsb h3 128 B') 128 (oSet ((rsb h3 128 B').1 128) 2 (.int 1))).1 p = h3.1 p := fun p a b => (hset_ne a).trans (hset_ne b)
  have he2 : ∀ p, ¬ p = 32 → (p < 66 ∨ 76 < p) → (p < 93 ∨ 98 < p) → ¬ p = 128 → ¬ p = 130 → (hset (rsb h3 128 B') 128 (oSet ((rsb h3 128 B').1 128) 2 (.int 1))).1 p = h.1 p := fun p a b c d e => (he p d e).trans (h3e p a b c)
  have h128 : (rsb h3 128 B').1 128 = h3.1 128 := hset_ne (by decide)
  have l128 : 2 < oL ((rsb h3 128 B').1 128) := by rw [h128]; have := M3.1; simp only [this]; decide
  have hz4 : h.2.1 ≤ (hset (rsb h3 128 B') 128 (oSet ((rsb h3 128 B').1 128) 2 (.int 1))).2.1 := by
    show h.2.1 ≤ h3.2.1
    rw [hz]; exact Nat.le_refl _
  have hf : ∀ p, 66 ≤ p → p ≤ 76 → (hset (rsb h3 128 B') 128 (oSet ((rsb h3 128 B').1 128) 2 (.int 1))).1 p = h1.1 p := fun p a b => by
    clear F F2 f1 f2 f3 D D2 D' D2'
    rw [he p (by omega) (by omega), h3w p (by omega), p2 p (by omega)]
  have hg : ∀ p, 93 ≤ p → p ≤ 98 → (hset (rsb h3 128 B') 128 (oSet ((rsb h3 128 B').1 128) 2 (.int 1))).1 p = h2.1 p := fun p a b => by
    clear F F2 f1 f2 f3 D D2 D' D2'
    rw [he p (by omega) (by omega), h3w p (by omega)]
  refine PR_of a1 a2 (by decide) (by decide) (A := A) (B := B') (im := 1) (rn := rn) (T := T) (n := n) (C := C) (cl := cl) (ml := ml) (q := q) (kn := kn) (n2 := n) (C2 := C) (cl2 := cl) (ml2 := ml) (q2 := q) (kn2 := kn) ⟨XF_ne X3 (he 32 (by decide) (by decide)), by rw [he 32 (by decide) (by decide)]; exact i3, Or.inr rfl, SD_ne S1 hz4 (fun p hp => ?_), SD_copy S1 (OF_ne f1 (fun p a b => hf p a b)) (PP_ne f2 (fun p a b => hg p a b)) (fun p hp hl => ?_) hz u, ⟨A3, q3, kn3, OF_ne f3 (fun p a b => ?_)⟩, TR_ne t1 ?_ ?_, t2, ⟨F5, ?_, ?_, ?_⟩, Nat.le_trans w hz4⟩ (same2 hz) (SG_up G0 (Or.inl rfl) (Or.inl (u 4 (by decide))))
  · clear F F2 f1 f2 f3 D D2 D' D2'
    unfold dyn at hp
    exact he2 p (by omega) (by omega) (by omega) (by omega) (by omega)
  · clear F F2 f1 f2 f3 D D2 D' D2'
    unfold dyn at hp
    exact he2 p (by omega) (by omega) (by omega) (by omega) (by omega)
  · clear F F2 f1 f2 f3 D D2 D' D2'
    exact he2 p (by omega) (by omega) (by omega) (by omega) (by omega)
  · exact he2 126 (by decide) (by decide) (by decide) (by decide) (by decide)
  · exact he2 127 (by decide) (by decide) (by decide) (by decide) (by decide)
  · rw [hset_at, if_pos rfl, oN_eq l128]
  · rw [hset_at, if_pos rfl, oN_ne (by decide), h128]; exact M3.2.2.1
  · rw [he (128 + 7) (by decide) (by decide)]; exact M3.2.2.2
theorem pr_undo {h : AHp} (G : GI h) : PR h 127 197 [.ref 32] [.ref 128, noV] := by
  obtain ⟨A, B, im, rn, T, n, C, cl, ml, q, kn, n2, C2, cl2, ml2, q2, kn2, G⟩ := G
  have G0 := G
  obtain ⟨x1, x2, x3, S1, S2, ⟨A3, q3, kn3, f3⟩, t1, t2, m1, w⟩ := G
  rcases x3 with x3 | x3
  · have mi := m1.2.1
    have m0 := m1.1
    rw [x3] at x2 mi
    exact PR_ro (dc := 1) (dm := 1) (v := -3) (by simp only [x127_0, x127_1, x127_4, x127_7, x127_9, x1, x2, and_self, ↓reduceIte]) (by simp only [x197_0, x197_1, x197_4, x197_7, x197_9, m0, mi, and_self, ↓reduceIte]) (by decide) (by decide) G0 (same2 rfl)
  have mi := m1.2.1
  rw [x3] at x2 mi
  have s1 := S1
  obtain ⟨F, K, D, R, Q, H, Mh, HRm, DD, l1, l2⟩ := S2
  have F2 := s1.1
  have D2 := s1.2.2.1
  have ap := (AP_of DD).1
  obtain ⟨h1, e1, f1, o1, o2⟩ := sp_copy (d := 0) F2 F (fun j hj => (K j hj).2.2.2.2.2) ap.2 (by decide)
  have D' : PP h1 93 B := PP_ne D (fun p a b => o2 p (by clear F F2 f1 f3 D D2; omega))
  have D2' : PP h1 60 A := PP_ne D2 (fun p a b => o2 p (by clear F F2 f1 f3 D D2; omega))
  obtain ⟨h2, e2, f2, p1, p2⟩ := sp_copyP (d := 1) D2' D' Q (by decide)
  have c32 : h2.1 32 = h.1 32 := (p2 32 (by decide)).trans (o2 32 (by decide))
  have c33 : h2.1 33 = h1.1 33 := p2 33 (by decide)
  have X1 : XF h1 := XF_ne x1 (o2 32 (by decide))
  have X2 : XF h2 := XF_ne x1 c32
  have f66 : cls (h.1 33) = 6 := F2.1
  have f93 : cls (h1.1 60) = 7 := D2'.1
  have fw : cls (h2.1 33) = 6 ∧ oKi (h2.1 33) 0 = true ∧ oN (h2.1 33) 0 = B 0 := by rw [c33]; simp only [f1, and_self]
  have h3e : ∀ p, (p < 33 ∨ 43 < p) → (p < 60 ∨ 65 < p) → h2.1 p = h.1 p := fun p b c => (p2 p c).trans (o2 p b)
  have hz : h2.2 = h.2 := p1.trans o1
  have a1 : Rf 2 127 0 [.ref 32] [] h = some (some (.int (B 0)), h2) := by
    simp only [x127_0, x127_1, x127_4, x127_7, x127_9, x127_10, x127_11, x127_14, x127_15, x127_21, x127_22, x127_25, x127_26, x127_32, x127_33, x127_36, x127_39, xc127_18 f66 e1, xc127_29 f93 e2, x1, x2, X1, X2, fw, l06, and_self, ↓reduceIte]
  have M3 : MM h2 128 A B im rn T := MM_ne m1 (fun p a b => h3e p (by clear F F2 f1 f2 f3 D D2 D' D2'; omega) (by clear F F2 f1 f2 f3 D D2 D' D2'; omega))
  have mi3 := M3.2.1
  rw [x3] at mi3
  have hA : h2.1 129 = .inl (0, 931, .inl A) := by
    have MF3 := M3.1
    have := cell_eq (c := h2.1 129) (t := 0) (by simp only [MF3]) (by decide)
    rw [show aN (h2.1 129) = 931 by simp only [MF3], show aF (h2.1 129) = A by simp only [MF3]] at this
    exact this
  have hr : rst h2 128 A = h2 := hset_self hA
  have l := lp_und (d := 0) M3.1 931 0 A (by decide)
  rw [hr, nI_0] at l
  generalize eB : (fun j => if 0 ≤ j ∧ j < 931 then B j else A j) = B' at l
  have u : ∀ i, i < 931 → B' i = B i := fun i hi => by rw [← eB]; exact if_pos ⟨Nat.zero_le _, hi⟩
  have u0 : B' 0 = B 0 := u 0 (by decide)
  have F4 := MF_rst M3.1 B'
  have a2 : Rf 0 197 0 [.ref 128, noV] [] h2 = some (some (.int (B 0)), rst h2 128 B') := by
    have m0 := M3.1
    simp only [x197_0, x197_1, x197_4, x197_7, x197_9, x197_10, x197_11, m0, mi3, l, x197_37, x197_38, x197_41, x197_42, x197_43, F4, ixL, u0, l06, true_or, and_self, ↓reduceIte]
  have he : ∀ p, ¬ p = 129 → (rst h2 128 B').1 p = h2.1 p := fun p a => hset_ne a
  have he2 : ∀ p, (p < 33 ∨ 43 < p) → (p < 60 ∨ 65 < p) → ¬ p = 129 → (rst h2 128 B').1 p = h.1 p := fun p b c d => (he p d).trans (h3e p b c)
  have hz4 : h.2.1 ≤ (rst h2 128 B').2.1 := by
    show h.2.1 ≤ h2.2.1
    rw [hz]; exact Nat.le_refl _
  refine PR_of a1 a2 (by decide) (by decide) (A := B') (B := B) (im := im) (rn := rn) (T := T) (n := n2) (C := C2) (cl := cl2) (ml := ml2) (q := q2) (kn := kn2) (n2 := n2) (C2 := C2) (cl2 := cl2) (ml2 := ml2) (q2 := q2) (kn2 := kn2) ⟨XF_ne X2 (he 32 (by decide)), by rw [he 32 (by decide), c32, x3]; exact x2, Or.inr x3, SD_copy ⟨F, K, D, R, Q, H, Mh, HRm, DD, l1, l2⟩ (OF_ne f1 (fun p a b => ?_)) (PP_ne f2 (fun p a b => ?_)) (fun p hp hl => ?_) hz u, SD_ne ⟨F, K, D, R, Q, H, Mh, HRm, DD, l1, l2⟩ hz4 (fun p hp => ?_), ⟨A3, q3, kn3, OF_ne f3 (fun p a b => ?_)⟩, TR_ne t1 ?_ ?_, t2, MM_rst M3 B', Nat.le_trans w hz4⟩ (same2 hz) (SG_up G0 (Or.inr (u 4 (by decide))) (Or.inr rfl))
  · clear F F2 f1 f2 f3 D D2 D' D2'
    rw [he p (by omega), p2 p (by omega)]
  · clear F F2 f1 f2 f3 D D2 D' D2'
    exact he p (by omega)
  · clear F F2 f1 f2 f3 D D2 D' D2'
    unfold dyn at hp
    exact he2 p (by omega) (by omega) (by omega)
  · clear F F2 f1 f2 f3 D D2 D' D2'
    unfold dyn at hp
    exact he2 p (by omega) (by omega) (by omega)
  · clear F F2 f1 f2 f3 D D2 D' D2'
    exact he2 p (by omega) (by omega) (by omega)
  · exact he2 126 (by decide) (by decide) (by decide)
  · exact he2 127 (by decide) (by decide) (by decide)
end IG
