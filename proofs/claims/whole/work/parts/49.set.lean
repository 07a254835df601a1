-- deps: 48.flds
section ST
variable {A B C T A' C' : Nat → Int32} {im rn : Int32} {n cl q n2 cl2 q2 n' cl' q' d o : Nat} {ml ml2 ml' : List Cl} {kn kn2 kn' : Nat → Nat} {C2 : Nat → Int32} {h h' h1 : AHp}
theorem MM_rst {T0 : Nat → Int32} (M : MM h o A B im rn T0) (X : Nat → Int32) : MM (rst h o X) o X B im rn T0 := by
  obtain ⟨F, a, b, c⟩ := M
  refine ⟨MF_rst F X, ?_, ?_, ?_⟩
  · simp only [rst, hset_at, plus_ne0 o 1 (by decide), ↓reduceIte, a]
  · simp only [rst, hset_at, plus_ne0 o 1 (by decide), ↓reduceIte, b]
  · simp only [rst, hset_at, plus_ne o 7 1 (by decide), ↓reduceIte, c]
theorem rst_fold {X : Nat → Int32} : hset h (o + 1) (.inl (0, 931, .inl X)) = rst h o X := rfl
theorem rst_twice {X Y : Nat → Int32} : rst (rst h o X) o Y = rst h o Y := hset_hset
/-- the class has gone on to A' -/
theorem GX_cls (G : GX h A B im rn T n C cl ml q kn n2 C2 cl2 ml2 q2 kn2) (e : ∀ p, p < h.2.1 → (p < 33 ∨ 43 < p) → (p < 60 ∨ 65 < p) → h1.1 p = h.1 p) : MM h1 128 A B im rn T := by
  have m1 := G.2.2.2.2.2.2.2.2.1
  have w := G.2.2.2.2.2.2.2.2.2
  exact MM_ne m1 (fun p a b => e p (by omega) (by omega) (by omega))
/-- the model has followed -/
theorem GX_rst (G : GX h A B im rn T n C cl ml q kn n2 C2 cl2 ml2 q2 kn2) (S : SD h1 33 60 A' n' C' cl' ml' q' kn') (hz : h.2.1 ≤ h1.2.1) (e : ∀ p, p < h.2.1 → (p < 33 ∨ 43 < p) → (p < 60 ∨ 65 < p) → h1.1 p = h.1 p) : GX (rst h1 128 A') A' B im rn T n' C' cl' ml' q' kn' n2 C2 cl2 ml2 q2 kn2 := by
  have m1 := GX_cls G e
  obtain ⟨x1, x2, x3, s1, s2, ⟨A3, q3, kn3, f3⟩, t1, t2, -, w⟩ := G
  have r : ∀ p, ¬ p = 129 → (rst h1 128 A').1 p = h1.1 p := fun p hp => if_neg hp
  have e2 : ∀ p, p < h.2.1 → (p < 33 ∨ 43 < p) → (p < 60 ∨ 65 < p) → ¬ p = 129 → (rst h1 128 A').1 p = h.1 p := fun p a b c d => (r p d).trans (e p a b c)
  refine ⟨XF_ne x1 (e2 32 (by omega) (by omega) (by omega) (by omega)), by rw [e2 32 (by omega) (by omega) (by omega) (by omega)]; exact x2, x3, SD_ne S (Nat.le_refl _) (fun p hp => r p (by unfold dyn at hp; omega)), SD_ne s2 hz (fun p hp => e2 p (by unfold dyn at hp; omega) (by unfold dyn at hp; omega) (by unfold dyn at hp; omega) (by unfold dyn at hp; omega)), ⟨A3, q3, kn3, OF_ne f3 (fun p a b => e2 p (by omega) (by omega) (by omega) (by omega))⟩, TR_ne t1 (e2 126 (by omega) (by omega) (by omega) (by omega)) (e2 127 (by omega) (by omega) (by omega) (by omega)), t2, MM_rst m1 A', by show 136 ≤ h1.2.1; omega⟩
theorem PR_st {c m : Nat} {lc lm : List Value} {v : Int32} {dc dm : Nat} (a : Rf dc c 0 lc [] h = some (some (.int v), h1)) (b : Rf dm m 0 lm [] h1 = some (some (.int v), rst h1 128 A')) (hc : dc ≤ 900) (hm : dm ≤ 900) (G : GX (rst h1 128 A') A' B im rn T n C cl ml q kn n2 C2 cl2 ml2 q2 kn2) (e : (rst h1 128 A').2.1 ≤ h.2.1 + 6 ∧ (rst h1 128 A').2.2 ≤ h.2.2 + 300) (sg : SGo h A' B := by exact SG_same (by assumption) (by rfl)) : PR h c m lc lm := PR_of a b hc hm G e sg
theorem pr_telling (G : GI h) {t : Int32} : PR h 103 167 [.ref 32, .int t, noV] [.ref 128, .int t, noV] := by
  obtain ⟨A, B, im, rn, T, n, C, cl, ml, q, kn, n2, C2, cl2, ml2, q2, kn2, G⟩ := G
  obtain ⟨F, K, D, R, Q, H, Mh, HRm, DD, l1, l2⟩ := G.2.2.2.1
  have X0 := G.1
  have m0 := G.2.2.2.2.2.2.2.2.1.1
  by_cases ht : ¬ t < 0 ∧ ¬ 3 < t
  · obtain ⟨k, hk, rfl⟩ := nI_of2 (M := 3) (n := 3) (by decide) ht.1 (Int32.not_lt.mp ht.2)
    have fr : ∀ p, p < h.2.1 → (p < 33 ∨ 43 < p) → (p < 60 ∨ 65 < p) → (hset h 33 (oSet (h.1 33) 8 (.int (nI k)))).1 p = h.1 p := fun p a b c => if_neg (by omega)
    have F' := OF_tel F R.2.1 R.1 (nI k)
    have ap := (AP_of DD).1
    have u : ∀ i, ¬ i = 5 → upd A 5 (nI k) i = A i := fun i hi => if_neg hi
    have R' : RG (upd A 5 (nI k)) n := by
      obtain ⟨r1, r2, r3, r4, r5, r6, r7⟩ := R
      have R0 := RG_cong (A' := upd A 5 (nI k)) (A := upd (upd A 5 (nI k)) 5 (A 5)) (n := n)
      refine ⟨r1, (u 0 (by omega)).trans r2, fun w hw => ?_, fun w hw => ?_, fun w v hw hv => ?_, ⟨k, hk, if_pos rfl⟩, ?_⟩
      · rw [u _ (by omega), u _ (by omega), u _ (by omega), u _ (by omega), u _ (by omega)]; exact r3 w hw
      · rw [u _ (by omega), u _ (by omega)]; exact r4 w hw
      · rw [u _ (by omega), u _ (by omega)]; exact r5 w v hw hv
      · rw [u _ (by omega)]; exact r7
    have S' : SD (hset h 33 (oSet (h.1 33) 8 (.int (nI k)))) 33 60 (upd A 5 (nI k)) n C cl ml q kn := ⟨F', KN_ne (KN_upd K (by omega)) (fun j hj => if_neg (by have := ap.2 j hj; omega)), PP_ne (PP_cong D (u 2 (by omega)) (u 3 (by omega)) (u 4 (by omega)) (u 7 (by omega)) (fun i a b => u i (by omega))) (fun p a b => if_neg (by omega)), R', RP_cong Q (u 2 (by omega)) (u 3 (by omega)) (u 4 (by omega)) (u 7 (by omega)) (fun i a b => u i (by omega)), HO_ne H (fun p a b => if_neg (by have := ap.1; omega)), MH_cong Mh (u 1 (by omega)) (fun i a b => u i (by omega)), ⟨HRm.1, YB_cong HRm.2 (u 6 (by omega))⟩, DD, l1, l2⟩
    have m1 := GX_cls G fr
    exact PR_of (h1 := hset h 33 (oSet (h.1 33) 8 (.int (nI k)))) (h2 := rst (hset h 33 (oSet (h.1 33) 8 (.int (nI k)))) 128 (upd A 5 (nI k))) (dc := 1) (dm := 1) (v := A 5) (by simp only [x103_0, x103_1, x103_5, x103_8, x103_9, x103_10, x103_11, x103_14, x103_17, x103_18, x103_19, x103_22, x103_23, x103_26, x103_27, xc103_2 (sp_within (d := 0)), X0, F, b2_0, ht, not_true_eq_false, not_false_eq_true, and_self, ↓reduceIte]) (by simp only [x167_0, x167_1, x167_2, x167_6, x167_9, x167_10, x167_11, x167_12, x167_15, x167_16, x167_17, x167_18, x167_19, x167_22, x167_23, x167_24, x167_25, x167_26, xc167_3 (sp_mwithin (d := 0)), m1.1, ixL, rst_fold, b2_0, ht, true_or, not_true_eq_false, not_false_eq_true, and_self, ↓reduceIte]) (by decide) (by decide) (GX_rst G S' (Nat.le_refl _) fr) (same2 rfl)
  · exact PR_ro (dc := 1) (dm := 1) (v := -1) (by simp only [x103_0, x103_1, x103_5, x103_8, x103_9, x103_10, x103_11, x103_14, x103_17, x103_18, x103_19, x103_22, x103_23, x103_26, x103_27, xc103_2 (sp_within (d := 0)), b2_0, ht, not_false_eq_true, ↓reduceIte]) (by simp only [x167_0, x167_1, x167_2, x167_6, x167_9, x167_10, x167_11, x167_12, x167_15, x167_16, x167_17, x167_18, x167_19, x167_22, x167_23, x167_24, x167_25, x167_26, xc167_3 (sp_mwithin (d := 0)), b2_0, ht, not_false_eq_true, ↓reduceIte]) (by decide) (by decide) G (same2 rfl)
/-- where only the papers have changed -/
theorem SD_pap (S : SD h 33 60 A n C cl ml q kn) (D' : PP h1 60 A') (Q' : RP A') (e : ∀ p, (p < 60 ∨ 65 < p) → h1.1 p = h.1 p) (e2 : h1.2 = h.2) (u : ∀ i, (i < 2 ∨ i = 5 ∨ i = 6 ∨ (10 ≤ i ∧ i < 80) ∨ 226 ≤ i) → A' i = A i) : SD h1 33 60 A' n C cl ml q kn := by
  obtain ⟨F, K, D, R, Q, H, Mh, HRm, DD, l1, l2⟩ := S
  have a0 := DD.1 0 (by decide)
  have a5 := DD.1 5 (by decide)
  have a1 := DD.1 1 (by decide)
  have a2 := DD.1 2 (by decide)
  have a3 := DD.1 3 (by decide)
  have a4 := DD.1 4 (by decide)
  unfold dyn at a0 a1 a2 a3 a4 a5
  refine ⟨OF_ne (OF_cong F R.2.1 R.1 (u 0 (by omega)) (u 1 (by omega)) (u 5 (by omega)) (u 6 (by omega)) (fun i a b => u i (by omega))) (fun p a b => e p (by omega)), KN_ne (KN_cong K (fun i a b => u i (by omega))) (fun j hj => e _ ?_), D', RG_cong R (u 0 (by omega)) (u 5 (by omega)) (u 6 (by omega)) (fun i a b => u i (by omega)), Q', HO_ne H (fun p a b => e p (by omega)), MH_cong Mh (u 1 (by omega)) (fun i a b => u i (by omega)), ⟨HRm.1, YB_cong HRm.2 (u 6 (by omega))⟩, DD, by rw [e2]; exact l1, by rw [e2]; exact l2⟩
  have := DD.2 j hj
  unfold dyn at this
  omega
theorem pr_die (G : GI h) {t : Int32} : PR h 111 177 [.ref 32, .int t, noV] [.ref 128, .int t, noV] := by
  obtain ⟨A, B, im, rn, T, n, C, cl, ml, q, kn, n2, C2, cl2, ml2, q2, kn2, G⟩ := G
  have S := G.2.2.2.1
  have D := S.2.2.1
  have Q := S.2.2.2.2.1
  have X0 := G.1
  by_cases ht : ¬ t < 0 ∧ ¬ 9999 < t
  · obtain ⟨k, hk, rfl⟩ := nI_of2 (M := 9999) (n := 9999) (by decide) ht.1 (Int32.not_lt.mp ht.2)
    have u : ∀ i, ¬ i = 7 → upd A 7 (nI k) i = A i := fun i hi => if_neg hi
    have Q' : RP (upd A 7 (nI k)) := by
      obtain ⟨r1, r2, r3, r4, r5, r6⟩ := Q
      refine ⟨by rw [u _ (by omega)]; exact r1, by rw [u _ (by omega)]; exact r2, by rw [u _ (by omega)]; exact r3, ⟨k, hk, if_pos rfl⟩, fun i hi => ?_, fun i hi => ?_⟩
      · rw [u _ (by omega), u _ (by omega)]; exact r5 i hi
      · rw [u _ (by omega)]; exact r6 i hi
    have S' := SD_pap (h1 := hset h 60 (oSet (h.1 60) 2 (.int (nI k)))) S (PP_die D (nI k)) Q' (fun p hp => if_neg (by omega)) rfl (fun i hi => u i (by omega))
    have fr : ∀ p, p < h.2.1 → (p < 33 ∨ 43 < p) → (p < 60 ∨ 65 < p) → (hset h 60 (oSet (h.1 60) 2 (.int (nI k)))).1 p = h.1 p := fun p a b c => if_neg (by omega)
    have m1 := GX_cls G fr
    exact PR_of (h1 := hset h 60 (oSet (h.1 60) 2 (.int (nI k)))) (h2 := rst (hset h 60 (oSet (h.1 60) 2 (.int (nI k)))) 128 (upd A 7 (nI k))) (dc := 1) (dm := 1) (v := A 7) (by simp only [x111_0, x111_1, x111_7, x111_10, x111_12, x111_13, x111_14, x111_17, x111_20, x111_21, x111_22, x111_25, x111_26, x111_29, x111_30, xc111_4 (sp_within (d := 0)), X0, D, b2_0, ht, not_true_eq_false, not_false_eq_true, and_self, ↓reduceIte]) (by simp only [x177_0, x177_1, x177_2, x177_8, x177_11, x177_13, x177_14, x177_15, x177_18, x177_20, x177_21, x177_22, x177_23, x177_26, x177_28, x177_29, x177_30, x177_31, xc177_5 (sp_mwithin (d := 0)), m1.1, ixL, rst_fold, b2_0, ht, true_or, not_true_eq_false, not_false_eq_true, and_self, ↓reduceIte]) (by decide) (by decide) (GX_rst G S' (Nat.le_refl _) fr) (same2 rfl)
  · exact PR_ro (dc := 1) (dm := 1) (v := -2) (by simp only [x111_0, x111_1, x111_7, x111_10, x111_12, x111_13, x111_14, x111_17, x111_20, x111_21, x111_22, x111_25, x111_26, x111_29, x111_30, xc111_4 (sp_within (d := 0)), b2_0, ht, not_false_eq_true, ↓reduceIte]) (by simp only [x177_0, x177_1, x177_2, x177_8, x177_11, x177_13, x177_14, x177_15, x177_18, x177_20, x177_21, x177_22, x177_23, x177_26, x177_28, x177_29, x177_30, x177_31, xc177_5 (sp_mwithin (d := 0)), b2_0, ht, not_false_eq_true, ↓reduceIte]) (by decide) (by decide) G (same2 rfl)
theorem pr_clear (G : GI h) : PR h 115 182 [.ref 32, noV] [.ref 128, noV] := by
  obtain ⟨A, B, im, rn, T, n, C, cl, ml, q, kn, n2, C2, cl2, ml2, q2, kn2, G⟩ := G
  have S := G.2.2.2.1
  have D := S.2.2.1
  have Q := S.2.2.2.2.1
  have X0 := G.1
  have u : ∀ i, ¬ i = 2 → upd A 2 0 i = A i := fun i hi => if_neg hi
  have Q' : RP (upd A 2 0) := by
    obtain ⟨r1, r2, r3, r4, r5, r6⟩ := Q
    refine ⟨⟨0, by omega, if_pos rfl⟩, by rw [u _ (by omega)]; exact r2, by rw [u _ (by omega)]; exact r3, by rw [u _ (by omega)]; exact r4, fun i hi => ?_, fun i hi => ?_⟩
    · rw [u _ (by omega), u _ (by omega)]; exact r5 i hi
    · rw [u _ (by omega)]; exact r6 i hi
  have S' := SD_pap (h1 := hset h 60 (oSet (h.1 60) 6 (.int 0))) S (PP_adv D 0) Q' (fun p hp => if_neg (by omega)) rfl (fun i hi => u i (by omega))
  have fr : ∀ p, p < h.2.1 → (p < 33 ∨ 43 < p) → (p < 60 ∨ 65 < p) → (hset h 60 (oSet (h.1 60) 6 (.int 0))).1 p = h.1 p := fun p a b c => if_neg (by omega)
  have m1 := GX_cls G fr
  exact PR_of (h1 := hset h 60 (oSet (h.1 60) 6 (.int 0))) (h2 := rst (hset h 60 (oSet (h.1 60) 6 (.int 0))) 128 (upd A 2 0)) (dc := 1) (dm := 1) (v := A 2) (by simp only [x115_0, x115_1, x115_4, x115_7, x115_8, x115_9, x115_12, x115_13, x115_16, x115_17, X0, D, and_self, ↓reduceIte]) (by simp only [x182_0, x182_1, x182_4, x182_5, x182_6, x182_7, x182_8, x182_11, x182_12, x182_13, x182_14, x182_15, m1.1, ixL, rst_fold, true_or, and_self, ↓reduceIte]) (by decide) (by decide) (GX_rst G S' (Nat.le_refl _) fr) (same2 rfl)
theorem ix_of {x : Int32} {k N : Nat} (e : x = nI k) (h : k < N) (hN : N < 2 ^ 31) : inB x N = true ∧ x.toNatClampNeg = k := inB_of e h hN
theorem pr_list (G : GI h) {t : Int32} : PR h 118 186 [.ref 32, .int t] [.ref 128, .int t] := by
  obtain ⟨A, B, im, rn, T, n, C, cl, ml, q, kn, n2, C2, cl2, ml2, q2, kn2, G⟩ := G
  have S := G.2.2.2.1
  have D := S.2.2.1
  have Q := S.2.2.2.2.1
  have X0 := G.1
  have u0 : ∀ i, ¬ i = 3 → upd A 3 0 i = A i := fun i hi => if_neg hi
  by_cases t1 : t = -1
  · subst t1
    have Q' : RP (upd A 3 0) := by
      obtain ⟨r1, r2, r3, r4, r5, r6⟩ := Q
      refine ⟨by rw [u0 _ (by omega)]; exact r1, ⟨0, by omega, if_pos rfl⟩, by rw [u0 _ (by omega)]; exact r3, by rw [u0 _ (by omega)]; exact r4, fun i hi => ?_, fun i hi => ?_⟩
      · rw [u0 _ (by omega), u0 _ (by omega)]; exact r5 i hi
      · rw [u0 _ (by omega)]; exact r6 i hi
    have S' := SD_pap (h1 := hset h 60 (oSet (h.1 60) 8 (.int 0))) S (PP_lst D 0) Q' (fun p hp => if_neg (by omega)) rfl (fun i hi => u0 i (by omega))
    have fr : ∀ p, p < h.2.1 → (p < 33 ∨ 43 < p) → (p < 60 ∨ 65 < p) → (hset h 60 (oSet (h.1 60) 8 (.int 0))).1 p = h.1 p := fun p a b c => if_neg (by omega)
    have m1 := GX_cls G fr
    exact PR_of (h1 := hset h 60 (oSet (h.1 60) 8 (.int 0))) (h2 := rst (hset h 60 (oSet (h.1 60) 8 (.int 0))) 128 (upd A 3 0)) (dc := 1) (dm := 1) (v := 0) (by simp only [x118_0, x118_1, x118_2, x118_5, x118_6, x118_9, x118_10, x118_13, x118_14, X0, D, and_self, ↓reduceIte]) (by simp only [x186_0, x186_1, x186_2, x186_8, x186_11, x186_13, x186_14, x186_15, x186_18, x186_19, x186_22, x186_23, x186_24, x186_25, x186_26, xc186_5 (sp_mwithin (d := 0)), m1.1, ixL, rst_fold, b2_0, show ¬ (-1 : Int32) < -1 from by decide, show ¬ (999 : Int32) < -1 from by decide, show (-1 : Int32) < 0 from by decide, not_false_eq_true, not_true_eq_false, true_or, and_self, ↓reduceIte]) (by decide) (by decide) (GX_rst G S' (Nat.le_refl _) fr) (same2 rfl)
  · have m0 := G.2.2.2.2.2.2.2.2.1.1
    by_cases ht : ¬ t < 0 ∧ ¬ 999 < t
    · obtain ⟨k, hk, rfl⟩ := nI_of2 (M := 999) (n := 999) (by decide) ht.1 (Int32.not_lt.mp ht.2)
      have ht2 : ¬ nI k < -1 := fun z => ht.1 (by
        rw [Int32.lt_iff_toInt_lt] at z ⊢
        have e1 : (-1 : Int32).toInt = -1 := by decide
        have e2 : (0 : Int32).toInt = 0 := by decide
        omega)
      obtain ⟨j, hj, hj2⟩ := Q.2.1
      by_cases hf : j = 10
      · subst hf
        have g1 : ¬ A 3 < 10 := by rw [hj2]; decide
        have g2 : A 3 = 10 := by rw [hj2]; rfl
        exact PR_ro (dc := 2) (dm := 2) (v := -4) (by simp only [x118_0, x118_1, x118_2, x118_5, x118_6, x118_9, x118_10, x118_13, x118_14, x118_15, x118_16, x118_22, x118_25, x118_27, x118_28, x118_29, x118_32, x118_35, x118_37, x118_40, x118_42, x118_45, x118_46, x118_49, x118_53, xc118_19 (sp_within (d := 1)), X0, D, t1, b2_0, ht, g1, not_true_eq_false, not_false_eq_true, and_self, ↓reduceIte]) (by simp only [x186_0, x186_1, x186_2, x186_8, x186_11, x186_13, x186_14, x186_15, x186_18, x186_19, x186_22, x186_23, x186_24, x186_25, x186_26, x186_27, x186_28, x186_31, x186_32, x186_33, x186_35, x186_38, x186_40, x186_41, x186_42, x186_45, x186_47, x186_48, x186_51, x186_52, x186_53, x186_54, x186_55, x186_56, x186_57, x186_60, x186_61, x186_62, x186_63, x186_64, x186_65, x186_66, x186_67, xc186_5 (sp_mwithin (d := 1)), m0, ixL, b2_0, ht, ht2, g2, true_or, not_true_eq_false, not_false_eq_true, and_self, ↓reduceIte]) (by decide) (by decide) G (same2 rfl)
      · have g1 : A 3 < 10 := by rw [hj2]; exact nI_lt (a := j) (b := 10) (by omega) (by omega)
        have g2 : ¬ A 3 = 10 := by rw [hj2]; exact fun z => hf ((nI_eq (a := j) (b := 10) (by omega) (by omega)).mp z)
        have g3 := ix_of hj2 (show j < 10 by omega) (by decide)
        have i116 : (116 : Int32) + A 3 = nI (116 + j) ∧ inB (nI (116 + j)) 931 = true ∧ (nI (116 + j)).toNatClampNeg = 116 + j := by rw [hj2]; exact ixs 116 j (by omega)
        have D1 := PP_lis D (show j < 10 by omega) (nI k)
        have D2 := PP_lst D1 (A 3 + 1)
        have u : ∀ i, ¬ i = 3 → ¬ i = 116 + j → upd (upd A (116 + j) (nI k)) 3 (A 3 + 1) i = A i := fun i a b => (if_neg a).trans (if_neg b)
        have u3 : upd A (116 + j) (nI k) 3 = A 3 := if_neg (by omega)
        have Q' : RP (upd (upd A (116 + j) (nI k)) 3 (A 3 + 1)) := by
          obtain ⟨r1, r2, r3, r4, r5, r6⟩ := Q
          refine ⟨by rw [u _ (by omega) (by omega)]; exact r1, ⟨j + 1, by omega, by rw [upd_at, if_pos rfl, hj2, nI_1]⟩, by rw [u _ (by omega) (by omega)]; exact r3, by rw [u _ (by omega) (by omega)]; exact r4, fun i hi => ?_, fun i hi => ?_⟩
          · rw [u _ (by omega) (by omega), u _ (by omega) (by omega)]; exact r5 i hi
          · rw [u _ (by omega) (by omega)]; exact r6 i hi
        have S' := SD_pap S D2 Q' (fun p hp => by rw [hset_at, if_neg (by omega), hset_at, if_neg (by omega)]) rfl (fun i hi => u i (by omega) (by omega))
        have fr : ∀ p, p < h.2.1 → (p < 33 ∨ 43 < p) → (p < 60 ∨ 65 < p) → (hset (hset h (60 + 5) (.inl (0, 10, .inl (sub (upd A (116 + j) (nI k)) 116 10)))) 60 (oSet ((hset h (60 + 5) (.inl (0, 10, .inl (sub (upd A (116 + j) (nI k)) 116 10)))).1 60) 8 (.int (A 3 + 1)))).1 p = h.1 p := fun p a b c => by rw [hset_at, if_neg (by omega), hset_at, if_neg (by omega)]
        have m1 := GX_cls G fr
        have F1 := MF_rst m1.1
        refine PR_st (dc := 2) (dm := 2) (v := A 3 + 1) ?_ ?_ (by decide) (by decide) (GX_rst G S' (Nat.le_refl _) fr) (same2 rfl) (SG_same G (u 4 (by omega) (by omega)))
        · have e1 : Rf 1 83 0 [.ref 60, .int (nI k)] [] h = some (some (.int (A 3 + 1)), hset (hset h (60 + 5) (.inl (0, 10, .inl (sub (upd A (116 + j) (nI k)) 116 10)))) 60 (oSet ((hset h (60 + 5) (.inl (0, 10, .inl (sub (upd A (116 + j) (nI k)) 116 10)))).1 60) 8 (.int (A 3 + 1)))) := by
            simp only [x83_0, x83_1, x83_4, x83_5, x83_8, x83_9, x83_10, x83_11, x83_12, x83_15, x83_16, x83_17, x83_20, x83_21, x83_24, D, D1, D2, g3, sub_in (show j < 10 by omega), u3, upd_at, true_or, and_self, ↓reduceIte]
          simp only [x118_0, x118_1, x118_2, x118_5, x118_6, x118_9, x118_10, x118_13, x118_14, x118_15, x118_16, x118_22, x118_25, x118_27, x118_28, x118_29, x118_32, x118_35, x118_37, x118_40, x118_42, x118_45, x118_46, x118_49, x118_53, xc118_19 (sp_within (d := 1)), xc118_50 D.1 e1, X0, D, t1, b2_0, ht, g1, not_true_eq_false, not_false_eq_true, and_self, ↓reduceIte]
        · simp only [x186_0, x186_1, x186_2, x186_8, x186_11, x186_13, x186_14, x186_15, x186_18, x186_19, x186_22, x186_23, x186_24, x186_25, x186_26, x186_27, x186_28, x186_31, x186_32, x186_33, x186_35, x186_38, x186_40, x186_41, x186_42, x186_45, x186_47, x186_48, x186_51, x186_52, x186_53, x186_54, x186_55, x186_56, x186_57, x186_60, x186_61, x186_62, x186_63, x186_64, x186_65, x186_66, x186_67, xc186_5 (sp_mwithin (d := 1)), m1.1, F1, ixL, rst_fold, rst_twice, b2_0, ht, ht2, g2, g3, i116, u3, true_or, not_true_eq_false, not_false_eq_true, and_self, ↓reduceIte]
    · have hb : ¬ (¬ t < -1 ∧ ¬ 999 < t) := by
        rintro ⟨a, b⟩
        apply ht
        refine ⟨fun z => t1 ?_, b⟩
        have a1 := Int32.le_iff_toInt_le.mp (Int32.not_lt.mp a)
        have z1 := Int32.lt_iff_toInt_lt.mp z
        apply Int32.toInt_inj.mp
        have e1 : (-1 : Int32).toInt = -1 := by decide
        have e2 : (0 : Int32).toInt = 0 := by decide
        rw [e1] at a1 ⊢
        rw [e2] at z1
        omega
      exact PR_ro (dc := 2) (dm := 2) (v := -2) (by simp only [x118_0, x118_1, x118_2, x118_5, x118_6, x118_9, x118_10, x118_13, x118_14, x118_15, x118_16, x118_22, x118_25, x118_27, x118_28, x118_29, x118_32, x118_35, x118_37, x118_40, x118_42, x118_45, x118_46, x118_49, x118_53, xc118_19 (sp_within (d := 1)), t1, b2_0, ht, not_false_eq_true, ↓reduceIte]) (by simp only [x186_0, x186_1, x186_2, x186_8, x186_11, x186_13, x186_14, x186_15, x186_18, x186_19, x186_22, x186_23, x186_24, x186_25, x186_26, x186_27, x186_28, x186_31, x186_32, x186_33, x186_35, x186_38, x186_40, x186_41, x186_42, x186_45, x186_47, x186_48, x186_51, x186_52, x186_53, x186_54, x186_55, x186_56, x186_57, x186_60, x186_61, x186_62, x186_63, x186_64, x186_65, x186_66, x186_67, xc186_5 (sp_mwithin (d := 1)), b2_0, hb, not_false_eq_true, ↓reduceIte]) (by decide) (by decide) G (same2 rfl)
theorem hset_ne {p r : Nat} {c : va_E} (hp : ¬ r = p) : (hset h p c).1 r = h.1 r := if_neg hp
theorem pr_advert (G : GI h) {w a b : Int32} : PR h 114 181 [.ref 32, .int w, .int a, .int b] [.ref 128, .int w, .int a, .int b, noV] := by
  obtain ⟨A, B, im, rn, T, n, C, cl, ml, q, kn, n2, C2, cl2, ml2, q2, kn2, G⟩ := G
  have S := G.2.2.2.1
  obtain ⟨F, K, D, R, Q, -⟩ := G.2.2.2.1
  have X0 := G.1
  have m0 := G.2.2.2.2.2.2.2.2.1.1
  have e0 := sp_isWorker (d := 1) (w := w) F
  have f0 := sp_misWorker (d := 0) (w := w) m0 ⟨n, R.1, R.2.1⟩
  by_cases hw : ¬ w < 0 ∧ w < A 0
  · rw [b2_t hw] at e0 f0
    by_cases ha : ¬ a < 0 ∧ ¬ 999 < a
    · by_cases hb : ¬ b < 0 ∧ ¬ 999 < b
      · by_cases hab : b < a
        · exact PR_ro (dc := 2) (dm := 2) (v := -2) (by simp only [x114_0, x114_1, x114_4, x114_8, x114_11, x114_12, x114_13, x114_14, x114_20, x114_23, x114_24, x114_30, x114_33, x114_34, x114_35, x114_38, x114_40, x114_41, x114_42, x114_45, x114_48, x114_50, x114_53, x114_55, x114_58, x114_59, x114_62, x114_63, x114_64, x114_68, xc114_5 F.1 e0, xc114_17 (sp_within (d := 1)), xc114_27 (sp_within (d := 1)), X0, b2_0, ha, hb, hab, not_true_eq_false, not_false_eq_true, and_self, litZ, ↓reduceIte]) (by simp only [x181_0, x181_1, x181_5, x181_8, x181_9, x181_10, x181_11, x181_12, x181_18, x181_21, x181_22, x181_23, x181_29, x181_32, x181_33, x181_34, x181_37, x181_39, x181_40, x181_41, x181_44, x181_45, x181_46, x181_48, x181_50, x181_52, x181_55, x181_57, x181_58, x181_59, x181_62, x181_64, x181_66, x181_67, x181_68, x181_69, x181_70, x181_73, x181_75, x181_77, x181_78, x181_79, x181_80, x181_81, x181_84, x181_86, x181_88, x181_89, x181_90, x181_91, x181_92, x181_95, x181_96, x181_97, x181_98, x181_99, x181_100, x181_101, x181_102, xc181_2 m0.1 f0, xc181_15 (sp_mwithin (d := 1)), xc181_26 (sp_mwithin (d := 1)), b2_0, ha, hb, hab, not_true_eq_false, not_false_eq_true, and_self, litZ, ↓reduceIte]) (by decide) (by decide) G (same2 rfl)
        · obtain ⟨j, hj, hj2⟩ := Q.1
          by_cases hf : j = 12
          · subst hf
            have g1 : ¬ A 2 < 12 := by rw [hj2]; decide
            have g2 : A 2 = 12 := by rw [hj2]; rfl
            exact PR_ro (dc := 2) (dm := 2) (v := -4) (by simp only [x114_0, x114_1, x114_4, x114_8, x114_11, x114_12, x114_13, x114_14, x114_20, x114_23, x114_24, x114_30, x114_33, x114_34, x114_35, x114_38, x114_40, x114_41, x114_42, x114_45, x114_48, x114_50, x114_53, x114_55, x114_58, x114_59, x114_62, x114_63, x114_64, x114_68, xc114_5 F.1 e0, xc114_17 (sp_within (d := 1)), xc114_27 (sp_within (d := 1)), X0, D, b2_0, ha, hb, hab, g1, not_true_eq_false, not_false_eq_true, and_self, litZ, ↓reduceIte]) (by simp only [x181_0, x181_1, x181_5, x181_8, x181_9, x181_10, x181_11, x181_12, x181_18, x181_21, x181_22, x181_23, x181_29, x181_32, x181_33, x181_34, x181_37, x181_39, x181_40, x181_41, x181_44, x181_45, x181_46, x181_48, x181_50, x181_52, x181_55, x181_57, x181_58, x181_59, x181_62, x181_64, x181_66, x181_67, x181_68, x181_69, x181_70, x181_73, x181_75, x181_77, x181_78, x181_79, x181_80, x181_81, x181_84, x181_86, x181_88, x181_89, x181_90, x181_91, x181_92, x181_95, x181_96, x181_97, x181_98, x181_99, x181_100, x181_101, x181_102, xc181_2 m0.1 f0, xc181_15 (sp_mwithin (d := 1)), xc181_26 (sp_mwithin (d := 1)), m0, ixL, b2_0, ha, hb, hab, g2, true_or, not_true_eq_false, not_false_eq_true, and_self, litZ, ↓reduceIte]) (by decide) (by decide) G (same2 rfl)
          · have g1 : A 2 < 12 := by rw [hj2]; exact nI_lt (a := j) (b := 12) (by omega) (by omega)
            have g2 : ¬ A 2 = 12 := by rw [hj2]; exact fun z => hf ((nI_eq (a := j) (b := 12) (by omega) (by omega)).mp z)
            have g3 := ix_of hj2 (show j < 12 by omega) (by decide)
            obtain ⟨ka, hka, ea⟩ := nI_of2 (M := 999) (n := 999) (by decide) ha.1 (Int32.not_lt.mp ha.2)
            obtain ⟨kb, hkb, eb⟩ := nI_of2 (M := 999) (n := 999) (by decide) hb.1 (Int32.not_lt.mp hb.2)
            have i80 : (80 : Int32) + A 2 = nI (80 + j) ∧ inB (nI (80 + j)) 931 = true ∧ (nI (80 + j)).toNatClampNeg = 80 + j := by rw [hj2]; exact ixs 80 j (by omega)
            have i92 : (92 : Int32) + A 2 = nI (92 + j) ∧ inB (nI (92 + j)) 931 = true ∧ (nI (92 + j)).toNatClampNeg = 92 + j := by rw [hj2]; exact ixs 92 j (by omega)
            have i104 : (104 : Int32) + A 2 = nI (104 + j) ∧ inB (nI (104 + j)) 931 = true ∧ (nI (104 + j)).toNatClampNeg = 104 + j := by rw [hj2]; exact ixs 104 j (by omega)
            have D1 := PP_adw D (show j < 12 by omega) w
            have D2 := PP_adl D1 (show j < 12 by omega) a
            have D3 := PP_adg D2 (show j < 12 by omega) b
            have D4 := PP_adv D3 (A 2 + 1)
            have v1 : upd A (80 + j) w 2 = A 2 := if_neg (by omega)
            have v2 : upd (upd A (80 + j) w) (92 + j) a 2 = A 2 := (if_neg (by omega)).trans v1
            have v3 : upd (upd (upd A (80 + j) w) (92 + j) a) (104 + j) b 2 = A 2 := (if_neg (by omega)).trans v2
            have u : ∀ i, ¬ i = 2 → ¬ i = 80 + j → ¬ i = 92 + j → ¬ i = 104 + j → upd (upd (upd (upd A (80 + j) w) (92 + j) a) (104 + j) b) 2 (A 2 + 1) i = A i := fun i a b c d => (if_neg a).trans ((if_neg d).trans ((if_neg c).trans (if_neg b)))
            have Q' : RP (upd (upd (upd (upd A (80 + j) w) (92 + j) a) (104 + j) b) 2 (A 2 + 1)) := by
              obtain ⟨r1, r2, r3, r4, r5, r6⟩ := Q
              refine ⟨⟨j + 1, by omega, by rw [upd_at, if_pos rfl, hj2, nI_1]⟩, by rw [u _ (by omega) (by omega) (by omega) (by omega)]; exact r2, by rw [u _ (by omega) (by omega) (by omega) (by omega)]; exact r3, by rw [u _ (by omega) (by omega) (by omega) (by omega)]; exact r4, fun i hi => ?_, fun i hi => ?_⟩
              · by_cases z : i = j
                · subst z
                  refine ⟨⟨ka, hka, ?_⟩, ⟨kb, hkb, ?_⟩⟩
                  · rw [upd_at, if_neg (by omega), upd_at, if_neg (by omega), upd_at, if_pos rfl]; exact ea
                  · rw [upd_at, if_neg (by omega), upd_at, if_pos rfl]; exact eb
                · rw [u _ (by omega) (by omega) (by omega) (by omega), u _ (by omega) (by omega) (by omega) (by omega)]; exact r5 i hi
              · rw [u _ (by omega) (by omega) (by omega) (by omega)]; exact r6 i hi
            have S' := SD_pap S D4 Q' (fun p hp => by rw [hset_ne (by omega), hset_ne (by omega), hset_ne (by omega), hset_ne (by omega)]) rfl (fun i hi => u i (by omega) (by omega) (by omega) (by omega))
            have fr := fun p (a1 : p < h.2.1) (b1 : p < 33 ∨ 43 < p) (c1 : p < 60 ∨ 65 < p) => show (hset (hset (hset (hset h (60 + 2) (.inl (0, 12, .inl (sub (upd A (80 + j) w) 80 12)))) (60 + 3) (.inl (0, 12, .inl (sub (upd (upd A (80 + j) w) (92 + j) a) 92 12)))) (60 + 4) (.inl (0, 12, .inl (sub (upd (upd (upd A (80 + j) w) (92 + j) a) (104 + j) b) 104 12)))) 60 (oSet ((hset (hset (hset h (60 + 2) (.inl (0, 12, .inl (sub (upd A (80 + j) w) 80 12)))) (60 + 3) (.inl (0, 12, .inl (sub (upd (upd A (80 + j) w) (92 + j) a) 92 12)))) (60 + 4) (.inl (0, 12, .inl (sub (upd (upd (upd A (80 + j) w) (92 + j) a) (104 + j) b) 104 12)))).1 60) 6 (.int (A 2 + 1)))).1 p = h.1 p from by rw [hset_ne (by omega), hset_ne (by omega), hset_ne (by omega), hset_ne (by omega)]
            have m1 := GX_cls G fr
            have F1 := MF_rst m1.1
            refine PR_st (dc := 2) (dm := 2) (v := A 2 + 1) ?_ ?_ (by decide) (by decide) (GX_rst G S' (Nat.le_refl _) fr) (same2 rfl) (SG_same G (u 4 (by omega) (by omega) (by omega) (by omega)))
            · have e1 : Rf 1 80 0 [.ref 60, .int w, .int a, .int b] [] h = some (some (.int (A 2 + 1)), hset (hset (hset (hset h (60 + 2) (.inl (0, 12, .inl (sub (upd A (80 + j) w) 80 12)))) (60 + 3) (.inl (0, 12, .inl (sub (upd (upd A (80 + j) w) (92 + j) a) 92 12)))) (60 + 4) (.inl (0, 12, .inl (sub (upd (upd (upd A (80 + j) w) (92 + j) a) (104 + j) b) 104 12)))) 60 (oSet ((hset (hset (hset h (60 + 2) (.inl (0, 12, .inl (sub (upd A (80 + j) w) 80 12)))) (60 + 3) (.inl (0, 12, .inl (sub (upd (upd A (80 + j) w) (92 + j) a) 92 12)))) (60 + 4) (.inl (0, 12, .inl (sub (upd (upd (upd A (80 + j) w) (92 + j) a) (104 + j) b) 104 12)))).1 60) 6 (.int (A 2 + 1)))) := by
                simp only [x80_0, x80_1, x80_4, x80_5, x80_8, x80_9, x80_10, x80_11, x80_14, x80_15, x80_18, x80_19, x80_20, x80_21, x80_24, x80_25, x80_28, x80_29, x80_30, x80_31, x80_32, x80_35, x80_36, x80_37, x80_40, x80_41, x80_44, D, D1, D2, D3, D4, g3, sub_in (show j < 12 by omega), v1, v2, v3, upd_at, true_or, and_self, ↓reduceIte]
              simp only [x114_0, x114_1, x114_4, x114_8, x114_11, x114_12, x114_13, x114_14, x114_20, x114_23, x114_24, x114_30, x114_33, x114_34, x114_35, x114_38, x114_40, x114_41, x114_42, x114_45, x114_48, x114_50, x114_53, x114_55, x114_58, x114_59, x114_62, x114_63, x114_64, x114_68, xc114_5 F.1 e0, xc114_17 (sp_within (d := 1)), xc114_27 (sp_within (d := 1)), xc114_65 D.1 e1, X0, D, b2_0, ha, hb, hab, g1, not_true_eq_false, not_false_eq_true, and_self, litZ, ↓reduceIte]
            · have f1 := sp_misWorker (d := 0) (w := w) m1.1 ⟨n, R.1, R.2.1⟩
              rw [b2_t hw] at f1
              simp only [x181_0, x181_1, x181_5, x181_8, x181_9, x181_10, x181_11, x181_12, x181_18, x181_21, x181_22, x181_23, x181_29, x181_32, x181_33, x181_34, x181_37, x181_39, x181_40, x181_41, x181_44, x181_45, x181_46, x181_48, x181_50, x181_52, x181_55, x181_57, x181_58, x181_59, x181_62, x181_64, x181_66, x181_67, x181_68, x181_69, x181_70, x181_73, x181_75, x181_77, x181_78, x181_79, x181_80, x181_81, x181_84, x181_86, x181_88, x181_89, x181_90, x181_91, x181_92, x181_95, x181_96, x181_97, x181_98, x181_99, x181_100, x181_101, x181_102, xc181_2 m1.1.1 f1, xc181_15 (sp_mwithin (d := 1)), xc181_26 (sp_mwithin (d := 1)), m1.1, F1, ixL, rst_fold, rst_twice, b2_0, ha, hb, hab, g2, i80, i92, i104, v1, v2, v3, true_or, not_true_eq_false, not_false_eq_true, and_self, litZ, ↓reduceIte]
      · exact PR_ro (dc := 2) (dm := 2) (v := -2) (by simp only [x114_0, x114_1, x114_4, x114_8, x114_11, x114_12, x114_13, x114_14, x114_20, x114_23, x114_24, x114_30, x114_33, x114_34, x114_35, x114_38, x114_40, x114_41, x114_42, x114_45, x114_48, x114_50, x114_53, x114_55, x114_58, x114_59, x114_62, x114_63, x114_64, x114_68, xc114_5 F.1 e0, xc114_17 (sp_within (d := 1)), xc114_27 (sp_within (d := 1)), X0, b2_0, ha, hb, not_true_eq_false, not_false_eq_true, and_self, litZ, ↓reduceIte]) (by simp only [x181_0, x181_1, x181_5, x181_8, x181_9, x181_10, x181_11, x181_12, x181_18, x181_21, x181_22, x181_23, x181_29, x181_32, x181_33, x181_34, x181_37, x181_39, x181_40, x181_41, x181_44, x181_45, x181_46, x181_48, x181_50, x181_52, x181_55, x181_57, x181_58, x181_59, x181_62, x181_64, x181_66, x181_67, x181_68, x181_69, x181_70, x181_73, x181_75, x181_77, x181_78, x181_79, x181_80, x181_81, x181_84, x181_86, x181_88, x181_89, x181_90, x181_91, x181_92, x181_95, x181_96, x181_97, x181_98, x181_99, x181_100, x181_101, x181_102, xc181_2 m0.1 f0, xc181_15 (sp_mwithin (d := 1)), xc181_26 (sp_mwithin (d := 1)), b2_0, ha, hb, not_true_eq_false, not_false_eq_true, and_self, litZ, ↓reduceIte]) (by decide) (by decide) G (same2 rfl)
    · exact PR_ro (dc := 2) (dm := 2) (v := -2) (by simp only [x114_0, x114_1, x114_4, x114_8, x114_11, x114_12, x114_13, x114_14, x114_20, x114_23, x114_24, x114_30, x114_33, x114_34, x114_35, x114_38, x114_40, x114_41, x114_42, x114_45, x114_48, x114_50, x114_53, x114_55, x114_58, x114_59, x114_62, x114_63, x114_64, x114_68, xc114_5 F.1 e0, xc114_17 (sp_within (d := 1)), xc114_27 (sp_within (d := 1)), X0, b2_0, ha, not_false_eq_true, and_self, litZ, ↓reduceIte]) (by simp only [x181_0, x181_1, x181_5, x181_8, x181_9, x181_10, x181_11, x181_12, x181_18, x181_21, x181_22, x181_23, x181_29, x181_32, x181_33, x181_34, x181_37, x181_39, x181_40, x181_41, x181_44, x181_45, x181_46, x181_48, x181_50, x181_52, x181_55, x181_57, x181_58, x181_59, x181_62, x181_64, x181_66, x181_67, x181_68, x181_69, x181_70, x181_73, x181_75, x181_77, x181_78, x181_79, x181_80, x181_81, x181_84, x181_86, x181_88, x181_89, x181_90, x181_91, x181_92, x181_95, x181_96, x181_97, x181_98, x181_99, x181_100, x181_101, x181_102, xc181_2 m0.1 f0, xc181_15 (sp_mwithin (d := 1)), xc181_26 (sp_mwithin (d := 1)), b2_0, ha, not_false_eq_true, and_self, litZ, ↓reduceIte]) (by decide) (by decide) G (same2 rfl)
  · rw [b2_f hw] at e0 f0
    exact PR_ro (dc := 2) (dm := 2) (v := -1) (by simp only [x114_0, x114_1, x114_4, x114_8, x114_11, x114_12, x114_13, x114_14, x114_20, x114_23, x114_24, x114_30, x114_33, x114_34, x114_35, x114_38, x114_40, x114_41, x114_42, x114_45, x114_48, x114_50, x114_53, x114_55, x114_58, x114_59, x114_62, x114_63, x114_64, x114_68, xc114_5 F.1 e0, X0, and_self, ↓reduceIte]) (by simp only [x181_0, x181_1, x181_5, x181_8, x181_9, x181_10, x181_11, x181_12, x181_18, x181_21, x181_22, x181_23, x181_29, x181_32, x181_33, x181_34, x181_37, x181_39, x181_40, x181_41, x181_44, x181_45, x181_46, x181_48, x181_50, x181_52, x181_55, x181_57, x181_58, x181_59, x181_62, x181_64, x181_66, x181_67, x181_68, x181_69, x181_70, x181_73, x181_75, x181_77, x181_78, x181_79, x181_80, x181_81, x181_84, x181_86, x181_88, x181_89, x181_90, x181_91, x181_92, x181_95, x181_96, x181_97, x181_98, x181_99, x181_100, x181_101, x181_102, xc181_2 m0.1 f0, and_self, ↓reduceIte]) (by decide) (by decide) G (same2 rfl)
theorem byt : ∀ k, k ≤ 127 → (nI k).toInt8.toInt32 = nI k ∧ vp_nar .byte (nI k) = nI k := by decide +kernel
theorem pr_feed (G : GI h) {t : Int32} : PR h 95 133 [.ref 32, .int t] [.ref 128, .int t] := by
  obtain ⟨A, B, im, rn, T, n, C, cl, ml, q, kn, n2, C2, cl2, ml2, q2, kn2, G⟩ := G
  have S := G.2.2.2.1
  have D := S.2.2.1
  have Q := S.2.2.2.2.1
  have X0 := G.1
  have m0 := G.2.2.2.2.2.2.2.2.1.1
  by_cases ht : ¬ t < 0 ∧ ¬ 127 < t
  · obtain ⟨k, hk, rfl⟩ := nI_of2 (M := 127) (n := 127) (by decide) ht.1 (Int32.not_lt.mp ht.2)
    obtain ⟨b1, b2⟩ := byt k hk
    obtain ⟨j, hj, hj2⟩ := Q.2.2.1
    by_cases hf : j = 100
    · subst hf
      have g1 : ¬ A 4 < 100 := by rw [hj2]; decide
      have g2 : A 4 = 100 := by rw [hj2]; rfl
      exact PR_ro (dc := 2) (dm := 2) (v := -4) (by simp only [x95_0, x95_1, x95_6, x95_9, x95_11, x95_12, x95_13, x95_16, x95_19, x95_21, x95_24, x95_26, x95_29, x95_30, x95_33, x95_34, x95_38, xc95_3 (sp_within (d := 1)), X0, D, b2_0, ht, g1, not_true_eq_false, not_false_eq_true, and_self, ↓reduceIte]) (by simp only [x133_0, x133_1, x133_2, x133_7, x133_10, x133_12, x133_13, x133_14, x133_17, x133_18, x133_19, x133_21, x133_24, x133_26, x133_27, x133_28, x133_31, x133_33, x133_34, x133_37, x133_38, x133_39, x133_40, x133_41, x133_42, x133_43, x133_46, x133_47, x133_48, x133_49, x133_50, x133_51, x133_52, x133_53, xc133_4 (sp_mwithin (d := 1)), m0, ixL, b2_0, ht, g2, true_or, not_true_eq_false, not_false_eq_true, and_self, ↓reduceIte]) (by decide) (by decide) G (same2 rfl)
    · have g1 : A 4 < 100 := by rw [hj2]; exact nI_lt (a := j) (b := 100) (by omega) (by omega)
      have g2 : ¬ A 4 = 100 := by rw [hj2]; exact fun z => hf ((nI_eq (a := j) (b := 100) (by omega) (by omega)).mp z)
      have g3 := ix_of hj2 (show j < 100 by omega) (by decide)
      have i126 : (126 : Int32) + A 4 = nI (126 + j) ∧ inB (nI (126 + j)) 931 = true ∧ (nI (126 + j)).toNatClampNeg = 126 + j := by rw [hj2]; exact ixs 126 j (by omega)
      have D1 := PP_tap D (show j < 100 by omega) (nI k)
      have D2 := PP_sgn D1 (A 4 + 1)
      have u : ∀ i, ¬ i = 4 → ¬ i = 126 + j → upd (upd A (126 + j) (nI k)) 4 (A 4 + 1) i = A i := fun i a b => (if_neg a).trans (if_neg b)
      have u3 : upd A (126 + j) (nI k) 4 = A 4 := if_neg (by omega)
      have Q' : RP (upd (upd A (126 + j) (nI k)) 4 (A 4 + 1)) := by
        obtain ⟨r1, r2, r3, r4, r5, r6⟩ := Q
        refine ⟨by rw [u _ (by omega) (by omega)]; exact r1, by rw [u _ (by omega) (by omega)]; exact r2, ⟨j + 1, by omega, by rw [upd_at, if_pos rfl, hj2, nI_1]⟩, by rw [u _ (by omega) (by omega)]; exact r4, fun i hi => ?_, fun i hi => ?_⟩
        · rw [u _ (by omega) (by omega), u _ (by omega) (by omega)]; exact r5 i hi
        · by_cases z : i = j
          · subst z
            exact ⟨k, hk, by rw [upd_at, if_neg (by omega), upd_at, if_pos rfl]⟩
          · rw [u _ (by omega) (by omega)]; exact r6 i hi
      have S' := SD_pap S D2 Q' (fun p hp => by rw [hset_ne (by omega), hset_ne (by omega)]) rfl (fun i hi => u i (by omega) (by omega))
      have fr := fun p (a1 : p < h.2.1) (b1 : p < 33 ∨ 43 < p) (c1 : p < 60 ∨ 65 < p) => show (hset (hset h (60 + 1) (.inl (1, 100, .inl (sub (upd A (126 + j) (nI k)) 126 100)))) 60 (oSet ((hset h (60 + 1) (.inl (1, 100, .inl (sub (upd A (126 + j) (nI k)) 126 100)))).1 60) 1 (.int (A 4 + 1)))).1 p = h.1 p from by rw [hset_ne (by omega), hset_ne (by omega)]
      have m1 := GX_cls G fr
      have F1 := MF_rst m1.1
      refine PR_st (dc := 2) (dm := 2) (v := A 4 + 1) ?_ ?_ (by decide) (by decide) (GX_rst G S' (Nat.le_refl _) fr) (same2 rfl) (SG_feed G hj2 (by omega) (by rw [upd_at, if_pos rfl, hj2, nI_1]))
      · have e1 : Rf 1 78 0 [.ref 60, .int (nI k)] [] h = some (some (.int (A 4 + 1)), hset (hset h (60 + 1) (.inl (1, 100, .inl (sub (upd A (126 + j) (nI k)) 126 100)))) 60 (oSet ((hset h (60 + 1) (.inl (1, 100, .inl (sub (upd A (126 + j) (nI k)) 126 100)))).1 60) 1 (.int (A 4 + 1)))) := by
          simp only [x78_0, x78_1, x78_4, x78_5, x78_8, x78_9, x78_10, x78_11, x78_12, x78_15, x78_16, x78_17, x78_20, x78_21, x78_24, D, D1, D2, g3, b2, sub_in (show j < 100 by omega), u3, upd_at, true_or, and_self, ↓reduceIte]
        simp only [x95_0, x95_1, x95_6, x95_9, x95_11, x95_12, x95_13, x95_16, x95_19, x95_21, x95_24, x95_26, x95_29, x95_30, x95_33, x95_34, x95_38, xc95_3 (sp_within (d := 1)), xc95_35 D.1 e1, X0, D, b1, b2_0, ht, g1, not_true_eq_false, not_false_eq_true, and_self, ↓reduceIte]
      · simp only [x133_0, x133_1, x133_2, x133_7, x133_10, x133_12, x133_13, x133_14, x133_17, x133_18, x133_19, x133_21, x133_24, x133_26, x133_27, x133_28, x133_31, x133_33, x133_34, x133_37, x133_38, x133_39, x133_40, x133_41, x133_42, x133_43, x133_46, x133_47, x133_48, x133_49, x133_50, x133_51, x133_52, x133_53, xc133_4 (sp_mwithin (d := 1)), m1.1, F1, ixL, rst_fold, rst_twice, b2_0, ht, g2, g3, i126, u3, true_or, not_true_eq_false, not_false_eq_true, and_self, ↓reduceIte]
  · exact PR_ro (dc := 2) (dm := 2) (v := -2) (by simp only [x95_0, x95_1, x95_6, x95_9, x95_11, x95_12, x95_13, x95_16, x95_19, x95_21, x95_24, x95_26, x95_29, x95_30, x95_33, x95_34, x95_38, xc95_3 (sp_within (d := 1)), b2_0, ht, not_false_eq_true, ↓reduceIte]) (by simp only [x133_0, x133_1, x133_2, x133_7, x133_10, x133_12, x133_13, x133_14, x133_17, x133_18, x133_19, x133_21, x133_24, x133_26, x133_27, x133_28, x133_31, x133_33, x133_34, x133_37, x133_38, x133_39, x133_40, x133_41, x133_42, x133_43, x133_46, x133_47, x133_48, x133_49, x133_50, x133_51, x133_52, x133_53, xc133_4 (sp_mwithin (d := 1)), b2_0, ht, not_false_eq_true, ↓reduceIte]) (by decide) (by decide) G (same2 rfl)
end ST
