-- deps: 49.set
section YR
variable {A B C T A' C' : Nat → Int32} {im rn : Int32} {n cl q n2 cl2 q2 n' cl' q' d o : Nat} {ml ml2 ml' : List Cl} {kn kn2 kn' : Nat → Nat} {C2 : Nat → Int32} {h h' h1 : AHp}
theorem la_rng {y : Int32} : ∀ (ml : List Cl) (a : Nat), HR ml → a ≤ 99 → ∃ k, k ≤ 99 ∧ la y (nI a) ml = nI k := by
  intro ml
  induction ml with
  | nil => intro a _ ha; exact ⟨a, ha, rfl⟩
  | cons x r ih =>
    intro a H ha
    obtain ⟨-, k, hk, e⟩ := H x List.mem_cons_self
    unfold la
    split
    · rw [e]; exact ih k (fun z hz => H z (List.mem_cons_of_mem _ hz)) hk
    · exact ih a (fun z hz => H z (List.mem_cons_of_mem _ hz)) ha
theorem tg_rng {f C : Nat → Int32} {y : Int32} : ∀ (ml : List Cl) (a : Nat), HR ml → ∃ k, k ≤ a + 99 * ml.length ∧ tg f C y (nI a) ml = nI k := by
  intro ml
  induction ml with
  | nil => intro a _; exact ⟨a, by simp, rfl⟩
  | cons x r ih =>
    intro a H
    obtain ⟨-, k, hk, e⟩ := H x List.mem_cons_self
    unfold tg
    split
    · rw [e, nI_add]
      obtain ⟨b, hb, eb⟩ := ih (a + k) (fun z hz => H z (List.mem_cons_of_mem _ hz))
      exact ⟨b, by simp only [List.length_cons]; omega, eb⟩
    · obtain ⟨b, hb, eb⟩ := ih a (fun z hz => H z (List.mem_cons_of_mem _ hz))
      exact ⟨b, by simp only [List.length_cons]; omega, eb⟩
theorem ml_len (Z : MH A C cl ml) : ml.length ≤ 10 := by
  rcases Z with ⟨-, e⟩ | ⟨g, -, -, -, z, -⟩
  · rw [e]; decide
  · exact z
theorem clamp_rng {x : Int32} : ∃ k, k ≤ 999 ∧ mx 0 (mn 999 x) = nI k := by
  unfold mx mn
  by_cases h1 : x < 999
  · rw [if_pos h1]
    by_cases h2 : 0 < x
    · rw [if_pos h2]
      have h3 : ¬ x < 0 := fun z => absurd (Int32.lt_iff_toInt_lt.mp z) (by have := Int32.lt_iff_toInt_lt.mp h2; omega)
      obtain ⟨j, hj, rfl⟩ := nI_of h3
      exact ⟨j, by have := (nI_ltI (b := 999) hj (by omega)).mp h1; omega, rfl⟩
    · rw [if_neg h2]; exact ⟨0, by omega, rfl⟩
  · rw [if_neg h1, if_pos (by decide)]; exact ⟨999, by omega, rfl⟩
theorem np_rng (R : RG A n) (Z : MH A C cl ml) (H : HR ml) {w : Nat} (hw : w < n) : ∃ k, k ≤ 999 ∧ npF A C ml n w = nI k := by
  obtain ⟨p, hp, ep⟩ := (R.2.2.1 w hw).2.1
  obtain ⟨o, ho, eo⟩ := clamp_rng (x := A (30 + w) + tg (fcA A w) C 0 0 ml - tg (fcA A w) C 1 0 ml)
  have eo' : ofF A C ml w = nI o := eo
  obtain ⟨r, hr, er⟩ := la_rng (y := 4) ml 5 H (by omega)
  have er' : la 4 5 ml = nI r := er
  obtain ⟨u, hu, eu⟩ := tg_rng (f := fcA A w) (C := C) (y := 2) ml 0 H
  have eu' : wiF A C ml w = nI u := eu
  have hl := ml_len Z
  unfold npF pbF
  rw [eo', ep, er', eu', nI_add, nI_add]
  split
  · exact ⟨o, ho, rfl⟩
  · split
    · exact ⟨p, hp, rfl⟩
    · have key : ∀ z, z ≤ 5000 → ∃ k, k ≤ 999 ∧ mn (nI z) 999 = nI k := by
        intro z hz
        unfold mn
        by_cases y : (999 : Int32) < nI z
        · rw [if_pos y]; exact ⟨999, by omega, rfl⟩
        · rw [if_neg y]
          refine ⟨z, ?_, rfl⟩
          rcases Nat.lt_or_ge 999 z with s | s
          · exact absurd (nI_lt (a := 999) (b := z) s (by omega)) y
          · exact s
      split
      · have : ∃ z, z ≤ 5000 ∧ mn (nI (p + r + u)) (nI o) = nI z := by
          unfold mn
          split
          · exact ⟨o, by omega, rfl⟩
          · exact ⟨p + r + u, by omega, rfl⟩
        obtain ⟨z, hz, ez⟩ := this
        rw [ez]
        exact key z hz
      · exact key _ (by omega)
theorem ya_cf {A C : Nat → Int32} {ml : List Cl} {n : Nat} : ∀ (k w : Nat) (X : Nat → Int32), w + k ≤ 10 → ∀ i, yaF A C ml n X w k i = if 20 + w ≤ i ∧ i < 20 + w + k then npF A C ml n (i - 20) else if (50 + w ≤ i ∧ i < 50 + w + k) ∧ dnF A C ml n (i - 50) = 2 then -1 else X i := by
  intro k
  induction k with
  | zero =>
    intro w X hw i
    rw [if_neg (by omega), if_neg (by omega)]
    rfl
  | succ k ih =>
    intro w X hw i
    show yaF A C ml n (yaS A C ml n X w) (w + 1) k i = _
    rw [ih (w + 1) _ (by omega) i]
    by_cases h1 : i = 20 + w
    · subst h1
      have c1 : ¬ (20 + (w + 1) ≤ 20 + w ∧ 20 + w < 20 + (w + 1) + k) := by omega
      have c2 : ¬ ((50 + (w + 1) ≤ 20 + w ∧ 20 + w < 50 + (w + 1) + k) ∧ dnF A C ml n (20 + w - 50) = 2) := fun z => by have := z.1; omega
      have c3 : 20 + w ≤ 20 + w ∧ 20 + w < 20 + w + (k + 1) := by omega
      rw [if_neg c1, if_neg c2, if_pos c3, Nat.add_sub_cancel_left]
      unfold yaS
      split
      · rw [upd_at, if_neg (by omega), upd_at, if_pos rfl]
      · rw [upd_at, if_pos rfl]
    · by_cases h2 : i = 50 + w
      · subst h2
        have c1 : ¬ (20 + (w + 1) ≤ 50 + w ∧ 50 + w < 20 + (w + 1) + k) := by omega
        have c2 : ¬ ((50 + (w + 1) ≤ 50 + w ∧ 50 + w < 50 + (w + 1) + k) ∧ dnF A C ml n (50 + w - 50) = 2) := fun z => by have := z.1; omega
        have c3 : ¬ (20 + w ≤ 50 + w ∧ 50 + w < 20 + w + (k + 1)) := by omega
        rw [if_neg c1, if_neg c2, if_neg c3, Nat.add_sub_cancel_left]
        unfold yaS
        by_cases hd : dnF A C ml n w = 2
        · rw [if_pos hd, if_pos ⟨by omega, hd⟩, upd_at, if_pos rfl]
        · rw [if_neg hd, if_neg (fun z => hd z.2), upd_at, if_neg (by omega)]
      · have s1 : yaS A C ml n X w i = X i := by
          unfold yaS
          split
          · rw [upd_at, if_neg h2, upd_at, if_neg h1]
          · rw [upd_at, if_neg h1]
        rw [s1]
        by_cases h3 : 20 + (w + 1) ≤ i ∧ i < 20 + (w + 1) + k
        · have c3 : 20 + w ≤ i ∧ i < 20 + w + (k + 1) := by omega
          rw [if_pos h3, if_pos c3]
        · have c3 : ¬ (20 + w ≤ i ∧ i < 20 + w + (k + 1)) := by omega
          rw [if_neg h3, if_neg c3]
          by_cases h4 : (50 + (w + 1) ≤ i ∧ i < 50 + (w + 1) + k) ∧ dnF A C ml n (i - 50) = 2
          · have c4 : 50 + w ≤ i ∧ i < 50 + w + (k + 1) := by have := h4.1; omega
            rw [if_pos h4, if_pos ⟨c4, h4.2⟩]
          · have c4 : ¬ ((50 + w ≤ i ∧ i < 50 + w + (k + 1)) ∧ dnF A C ml n (i - 50) = 2) := fun z => h4 ⟨by have := z.1; omega, z.2⟩
            rw [if_neg h4, if_neg c4]
theorem yr_out (hn : n ≤ 10) {i : Nat} (h6 : ¬ i = 6) (h2 : i < 20 ∨ 30 ≤ i) (h5 : i < 50 ∨ 60 ≤ i) : yrF A C ml n i = A i := by
  have c1 : ¬ (20 + 0 ≤ i ∧ i < 20 + 0 + n) := by omega
  have c2 : ¬ ((50 + 0 ≤ i ∧ i < 50 + 0 + n) ∧ dnF A C ml n (i - 50) = 2) := fun z => by have := z.1; omega
  unfold yrF
  rw [upd_at, if_neg h6, ya_cf n 0 A (by omega), if_neg c1, if_neg c2]
theorem yr_RG (R : RG A n) (Z : MH A C cl ml) (H : HR ml) (h6 : ∃ k, k ≤ 198 ∧ A 6 = nI k) : RG (yrF A C ml n) n := by
  obtain ⟨r1, r2, r3, r4, r5, r6, r7⟩ := id R
  have u := fun i (a : ¬ i = 6) b c => yr_out (A := A) (C := C) (ml := ml) r1 (i := i) a b c
  refine ⟨r1, (u 0 (by omega) (by omega) (by omega)).trans r2, fun w hw => ?_, fun w hw => ?_, fun w v hw hv => ?_, by rw [u 5 (by omega) (by omega) (by omega)]; exact r6, ?_⟩
  · rw [u (10 + w) (by omega) (by omega) (by omega), u (30 + w) (by omega) (by omega) (by omega), u (40 + w) (by omega) (by omega) (by omega)]
    obtain ⟨a1, a2, a3, a4, a5⟩ := r3 w hw
    refine ⟨a1, ?_, a3, a4, ?_⟩
    · have e : yrF A C ml n (20 + w) = npF A C ml n w := by
        have c1 : 20 + 0 ≤ 20 + w ∧ 20 + w < 20 + 0 + n := by omega
        unfold yrF
        rw [upd_at, if_neg (by omega), ya_cf n 0 A (by omega), if_pos c1, Nat.add_sub_cancel_left]
      rw [e]
      exact np_rng R Z H hw
    · have e : yrF A C ml n (50 + w) = if dnF A C ml n w = 2 then -1 else A (50 + w) := by
        have c1 : ¬ (20 + 0 ≤ 50 + w ∧ 50 + w < 20 + 0 + n) := by omega
        unfold yrF
        rw [upd_at, if_neg (by omega), ya_cf n 0 A (by omega), if_neg c1, Nat.add_sub_cancel_left]
        by_cases hd : dnF A C ml n w = 2
        · rw [if_pos hd, if_pos ⟨by omega, hd⟩]
        · rw [if_neg hd, if_neg (fun z => hd z.2)]
      rw [e]
      split
      · exact Or.inl rfl
      · exact a5
  · rw [u (60 + w) (by omega) (by omega) (by omega), u (70 + w) (by omega) (by omega) (by omega)]
    exact r4 w hw
  · rw [u (10 + w) (by omega) (by omega) (by omega), u (10 + v) (by omega) (by omega) (by omega)]
    exact r5 w v hw hv
  · obtain ⟨k, hk, e⟩ := h6
    exact ⟨k + 1, by omega, by unfold yrF; rw [upd_at, if_pos rfl, e, nI_1]⟩
/-- where only the office has changed -/
theorem SD_off (S : SD h 33 60 A n C cl ml q kn) (F' : OF h1 33 A' q kn) (K' : KN h1 A' kn) (R' : RG A' n) (Y' : YB A') (e : ∀ p, (p < 33 ∨ 43 < p) → h1.1 p = h.1 p) (e2 : h1.2 = h.2) (u : ∀ i, (i = 1 ∨ i = 2 ∨ i = 3 ∨ i = 4 ∨ i = 7 ∨ 80 ≤ i) → A' i = A i) : SD h1 33 60 A' n C cl ml q kn := by
  obtain ⟨F, K, D, R, Q, H, Mh, HRm, DD, l1, l2⟩ := S
  have ap := (AP_of DD).1
  exact ⟨F', K', PP_ne (PP_cong D (u 2 (by omega)) (u 3 (by omega)) (u 4 (by omega)) (u 7 (by omega)) (fun i a b => u i (by omega))) (fun p a b => e p (by omega)), R', RP_cong Q (u 2 (by omega)) (u 3 (by omega)) (u 4 (by omega)) (u 7 (by omega)) (fun i a b => u i (by omega)), HO_ne H (fun p a b => e p (by have := ap.1; omega)), MH_cong Mh (u 1 (by omega)) (fun i a b => u i (by omega)), ⟨HRm.1, Y'⟩, DD, by rw [e2]; exact l1, by rw [e2]; exact l2⟩
theorem pr_year (G : GI h) : PR h 104 169 [.ref 32] [.ref 128] := by
  obtain ⟨A, B, im, rn, T, n, C, cl, ml, q, kn, n2, C2, cl2, ml2, q2, kn2, G⟩ := G
  have S := G.2.2.2.1
  obtain ⟨F, K, D, R, Q, H, Mh, HRm, DD, l1, l2⟩ := G.2.2.2.1
  have X0 := G.1
  have m0 := G.2.2.2.2.2.2.2.2.1.1
  obtain ⟨y, hy, ey⟩ := HRm.2
  by_cases hf : y = 99
  · subst hf
    have g1 : ¬ A 6 < 99 := by rw [ey]; decide
    have g2 : A 6 = 99 := by rw [ey]; rfl
    exact PR_ro (dc := 2) (dm := 2) (v := -3) (by simp only [x104_0, x104_1, x104_4, x104_7, x104_9, x104_12, x104_14, x104_17, x104_18, x104_24, X0, F, g1, and_self, ↓reduceIte]) (by simp only [x169_0, x169_1, x169_4, x169_6, x169_7, x169_9, x169_12, x169_14, x169_17, x169_21, m0, ixL, g2, true_or, and_self, ↓reduceIte]) (by decide) (by decide) G (same2 rfl)
  · have g1 : A 6 < 99 := by rw [ey]; exact nI_lt (a := y) (b := 99) (by omega) (by omega)
    have g2 : ¬ A 6 = 99 := by rw [ey]; exact fun z => hf ((nI_eq (a := y) (b := 99) (by omega) (by omega)).mp z)
    obtain ⟨h1, e1, e2, e3⟩ := sp_goYear (d := 0) F K R (AP_of DD).1 H
    have u := fun i (a : ¬ i = 6) b c => yr_out (A := A) (C := C) (ml := ml) R.1 (i := i) a b c
    have ap := (AP_of DD).1
    have K' : KN h1 (yrF A C ml n) kn := KN_ne (KN_cong K (fun i a b => u i (by omega) (by omega) (by omega))) (fun j hj => e3.2 _ (by have := ap.2 j hj; omega))
    have S' := SD_off S e2 K' (yr_RG R Mh HRm.1 ⟨y, by omega, ey⟩) ⟨y + 1, by omega, by unfold yrF; rw [upd_at, if_pos rfl, ey, nI_1]⟩ e3.2 e3.1 (fun i hi => u i (by omega) (by omega) (by omega))
    have fr : ∀ p, p < h.2.1 → (p < 33 ∨ 43 < p) → (p < 60 ∨ 65 < p) → h1.1 p = h.1 p := fun p _ b _ => e3.2 p b
    have m1 := GX_cls G fr
    obtain ⟨R', N', S'', e4⟩ := sp_go (d := 0) m1.1 R Mh
    have M3 : MM (rst (gst h1 128 R' N' S'') 128 (yrF A C ml n)) 128 (yrF A C ml n) B im rn T := by
      refine ⟨MF_rst (MF_gst m1.1 R' N' S'') _, ?_, ?_, ?_⟩
      · have : (rst (gst h1 128 R' N' S'') 128 (yrF A C ml n)).1 128 = h1.1 128 := by
          simp only [rst, gst, stk, gs2, hset_at, plus_ne0 128 1 (by decide), plus_ne0 128 3 (by decide), plus_ne0 128 4 (by decide), plus_ne0 128 5 (by decide), ↓reduceIte]
        rw [this]; exact m1.2.1
      · have : (rst (gst h1 128 R' N' S'') 128 (yrF A C ml n)).1 128 = h1.1 128 := by
          simp only [rst, gst, stk, gs2, hset_at, plus_ne0 128 1 (by decide), plus_ne0 128 3 (by decide), plus_ne0 128 4 (by decide), plus_ne0 128 5 (by decide), ↓reduceIte]
        rw [this]; exact m1.2.2.1
      · have : (rst (gst h1 128 R' N' S'') 128 (yrF A C ml n)).1 (128 + 7) = h1.1 (128 + 7) := by
          simp only [rst, gst, stk, gs2, hset_at, plus_ne 128 7 1 (by decide), plus_ne 128 7 3 (by decide), plus_ne 128 7 4 (by decide), plus_ne 128 7 5 (by decide), ↓reduceIte]
        rw [this]; exact m1.2.2.2
    have E3 : ME (rst h1 128 (yrF A C ml n)) (rst (gst h1 128 R' N' S'') 128 (yrF A C ml n)) 128 := ⟨rfl, fun p hp => by simp only [rst, gst, stk, gs2, hset_at]; rw [if_neg (by omega), if_neg (by omega), if_neg (by omega), if_neg (by omega), if_neg (by omega)]⟩
    have hz : h.2.1 ≤ h1.2.1 := by rw [e3.1]; exact Nat.le_refl _
    have G2 := GX_M (GX_rst G S' hz fr) M3 E3
    exact PR_of (h1 := h1) (h2 := rst (gst h1 128 R' N' S'') 128 (yrF A C ml n)) (dc := 6) (dm := 6) (v := lfF A C ml n 0 0 n) (by simp only [x104_0, x104_1, x104_4, x104_7, x104_9, x104_12, x104_14, x104_17, x104_18, x104_24, xc104_21 F.1 e1, X0, F, g1, and_self, ↓reduceIte]) (by simp only [x169_0, x169_1, x169_4, x169_6, x169_7, x169_9, x169_12, x169_14, x169_17, x169_21, xc169_18 m1.1.1 e4, m1.1, ixL, g2, true_or, and_self, ↓reduceIte]) (by decide) (by decide) G2 (same2 e3.1) (SG_same G (u 4 (by omega) (by omega) (by omega)))
theorem pr_set (G : GI h) {w x t : Int32} : PR h 102 166 [.ref 32, .int w, .int x, .int t, noV, noV] [.ref 128, .int w, .int x, .int t, noV, noV] := by
  obtain ⟨A, B, im, rn, T, n, C, cl, ml, q, kn, n2, C2, cl2, ml2, q2, kn2, G⟩ := G
  have S := G.2.2.2.1
  obtain ⟨F, K, D, R, Q, H, Mh, HRm, DD, l1, l2⟩ := G.2.2.2.1
  have X0 := G.1
  have m0 := G.2.2.2.2.2.2.2.2.1.1
  have ap := (AP_of DD).1
  have e0 := sp_isWorker (d := 1) (w := w) F
  have f0 := sp_misWorker (d := 0) (w := w) m0 ⟨n, R.1, R.2.1⟩
  by_cases hw : ¬ w < 0 ∧ w < A 0
  · have hw' := hw
    rw [b2_t hw] at e0 f0
    by_cases hx : ¬ x < 0 ∧ ¬ 1 < x
    · by_cases ht : ¬ t < 0 ∧ ¬ 999 < t
      · obtain ⟨v, hv, rfl⟩ := isW_of R hw
        obtain ⟨k, hk, rfl⟩ := nI_of2 (M := 999) (n := 999) (by decide) ht.1 (Int32.not_lt.mp ht.2)
        have hn := R.1
        have hv10 : v < 10 := by omega
        have c2 : inB (nI v) 10 = true := nI_inB (by omega) (by omega)
        have c3 : (nI v).toNatClampNeg = v := nI_clamp (by omega)
        have i20 : (20 : Int32) + nI v = nI (20 + v) ∧ inB (nI (20 + v)) 931 = true ∧ (nI (20 + v)).toNatClampNeg = 20 + v := ixs 20 v (by omega)
        have i30 : (30 : Int32) + nI v = nI (30 + v) ∧ inB (nI (30 + v)) 931 = true ∧ (nI (30 + v)).toNatClampNeg = 30 + v := ixs 30 v (by omega)
        obtain ⟨r1, r2, r3, r4, r5, r6, r7⟩ := id R
        by_cases x0 : x = 0
        · subst x0
          have u : ∀ i, ¬ i = 20 + v → upd A (20 + v) (nI k) i = A i := fun i a => if_neg a
          have R' : RG (upd A (20 + v) (nI k)) n := by
            refine ⟨r1, (u 0 (by omega)).trans r2, fun w hw => ?_, fun w hw => ?_, fun w v hw hv => ?_, by rw [u _ (by omega)]; exact r6, by rw [u _ (by omega)]; exact r7⟩
            · obtain ⟨a1, a2, a3, a4, a5⟩ := r3 w hw
              rw [u (10 + w) (by omega), u (30 + w) (by omega), u (40 + w) (by omega), u (50 + w) (by omega)]
              refine ⟨a1, ?_, a3, a4, a5⟩
              by_cases z : w = v
              · subst z; exact ⟨k, hk, if_pos rfl⟩
              · rw [u _ (by omega)]; exact a2
            · rw [u _ (by omega), u _ (by omega)]; exact r4 w hw
            · rw [u _ (by omega), u _ (by omega)]; exact r5 w v hw hv
          have S' := SD_off S (OF_pay F r2 r1 hv10 (nI k)) (KN_ne (KN_upd K (by omega)) (fun j hj => hset_ne (by have := ap.2 j hj; omega))) R' (YB_cong HRm.2 (u 6 (by omega))) (fun p hp => hset_ne (by omega)) rfl (fun i hi => u i (by omega))
          have fr := fun p (a1 : p < h.2.1) (b1 : p < 33 ∨ 43 < p) (c1 : p < 60 ∨ 65 < p) => show (hset h (33 + 3) (.inl (0, 10, .inl (sub (upd A (20 + v) (nI k)) 20 10)))).1 p = h.1 p from hset_ne (by omega)
          have m1 := GX_cls G fr
          have f1 := sp_misWorker (d := 0) (w := nI v) m1.1 ⟨n, R.1, R.2.1⟩
          rw [b2_t hw'] at f1
          exact PR_st (dc := 2) (dm := 2) (v := A (20 + v)) (by simp only [x102_0, x102_1, x102_4, x102_8, x102_11, x102_12, x102_16, x102_19, x102_20, x102_21, x102_22, x102_28, x102_31, x102_33, x102_34, x102_35, x102_38, x102_39, x102_42, x102_45, x102_48, x102_49, x102_52, x102_55, x102_57, x102_59, x102_60, x102_61, x102_63, x102_65, x102_66, x102_67, x102_68, x102_70, xc102_5 F.1 e0, xc102_13 (sp_within (d := 1)), xc102_25 (sp_within (d := 1)), X0, F, c2, c3, sub_at hv10, sub_in hv10, b2_0, hx, ht, true_or, not_true_eq_false, not_false_eq_true, and_self, litZ, ↓reduceIte]) (by simp only [x166_0, x166_1, x166_5, x166_8, x166_9, x166_10, x166_14, x166_17, x166_18, x166_19, x166_20, x166_21, x166_27, x166_30, x166_32, x166_33, x166_34, x166_37, x166_39, x166_42, x166_44, x166_45, x166_46, x166_48, x166_49, x166_52, x166_54, x166_55, x166_57, x166_58, x166_61, x166_63, x166_64, x166_65, x166_67, xc166_2 m1.1.1 f1, xc166_11 (sp_mwithin (d := 1)), xc166_24 (sp_mwithin (d := 1)), m1.1, rst_fold, i20, b2_0, hx, ht, true_or, not_true_eq_false, not_false_eq_true, and_self, litZ, ↓reduceIte]) (by decide) (by decide) (GX_rst G S' (Nat.le_refl _) fr) (same2 rfl) (SG_same G (u 4 (by omega)))
        · have u : ∀ i, ¬ i = 30 + v → upd A (30 + v) (nI k) i = A i := fun i a => if_neg a
          have R' : RG (upd A (30 + v) (nI k)) n := by
            refine ⟨r1, (u 0 (by omega)).trans r2, fun w hw => ?_, fun w hw => ?_, fun w v hw hv => ?_, by rw [u _ (by omega)]; exact r6, by rw [u _ (by omega)]; exact r7⟩
            · obtain ⟨a1, a2, a3, a4, a5⟩ := r3 w hw
              rw [u (10 + w) (by omega), u (20 + w) (by omega), u (40 + w) (by omega), u (50 + w) (by omega)]
              refine ⟨a1, a2, ?_, a4, a5⟩
              by_cases z : w = v
              · subst z; exact ⟨k, hk, if_pos rfl⟩
              · rw [u _ (by omega)]; exact a3
            · rw [u _ (by omega), u _ (by omega)]; exact r4 w hw
            · rw [u _ (by omega), u _ (by omega)]; exact r5 w v hw hv
          have S' := SD_off S (OF_wor F r2 r1 hv10 (nI k)) (KN_ne (KN_upd K (by omega)) (fun j hj => hset_ne (by have := ap.2 j hj; omega))) R' (YB_cong HRm.2 (u 6 (by omega))) (fun p hp => hset_ne (by omega)) rfl (fun i hi => u i (by omega))
          have fr := fun p (a1 : p < h.2.1) (b1 : p < 33 ∨ 43 < p) (c1 : p < 60 ∨ 65 < p) => show (hset h (33 + 4) (.inl (0, 10, .inl (sub (upd A (30 + v) (nI k)) 30 10)))).1 p = h.1 p from hset_ne (by omega)
          have m1 := GX_cls G fr
          have f1 := sp_misWorker (d := 0) (w := nI v) m1.1 ⟨n, R.1, R.2.1⟩
          rw [b2_t hw'] at f1
          exact PR_st (dc := 2) (dm := 2) (v := A (30 + v)) (by simp only [x102_0, x102_1, x102_4, x102_8, x102_11, x102_12, x102_16, x102_19, x102_20, x102_21, x102_22, x102_28, x102_31, x102_33, x102_34, x102_35, x102_38, x102_39, x102_42, x102_45, x102_48, x102_49, x102_52, x102_55, x102_57, x102_59, x102_60, x102_61, x102_63, x102_65, x102_66, x102_67, x102_68, x102_70, xc102_5 F.1 e0, xc102_13 (sp_within (d := 1)), xc102_25 (sp_within (d := 1)), X0, F, c2, c3, sub_at hv10, sub_in hv10, b2_0, hx, ht, x0, true_or, not_true_eq_false, not_false_eq_true, and_self, litZ, ↓reduceIte]) (by simp only [x166_0, x166_1, x166_5, x166_8, x166_9, x166_10, x166_14, x166_17, x166_18, x166_19, x166_20, x166_21, x166_27, x166_30, x166_32, x166_33, x166_34, x166_37, x166_39, x166_42, x166_44, x166_45, x166_46, x166_48, x166_49, x166_52, x166_54, x166_55, x166_57, x166_58, x166_61, x166_63, x166_64, x166_65, x166_67, xc166_2 m1.1.1 f1, xc166_11 (sp_mwithin (d := 1)), xc166_24 (sp_mwithin (d := 1)), m1.1, rst_fold, i30, b2_0, hx, ht, x0, true_or, not_true_eq_false, not_false_eq_true, and_self, litZ, ↓reduceIte]) (by decide) (by decide) (GX_rst G S' (Nat.le_refl _) fr) (same2 rfl) (SG_same G (u 4 (by omega)))
      · exact PR_ro (dc := 2) (dm := 2) (v := -2) (by simp only [x102_0, x102_1, x102_4, x102_8, x102_11, x102_12, x102_16, x102_19, x102_20, x102_21, x102_22, x102_28, x102_31, x102_33, x102_34, x102_35, x102_38, x102_39, x102_42, x102_45, x102_48, x102_49, x102_52, x102_55, x102_57, x102_59, x102_60, x102_61, x102_63, x102_65, x102_66, x102_67, x102_68, x102_70, xc102_5 F.1 e0, xc102_13 (sp_within (d := 1)), xc102_25 (sp_within (d := 1)), X0, b2_0, hx, ht, not_true_eq_false, not_false_eq_true, and_self, litZ, ↓reduceIte]) (by simp only [x166_0, x166_1, x166_5, x166_8, x166_9, x166_10, x166_14, x166_17, x166_18, x166_19, x166_20, x166_21, x166_27, x166_30, x166_32, x166_33, x166_34, x166_37, x166_39, x166_42, x166_44, x166_45, x166_46, x166_48, x166_49, x166_52, x166_54, x166_55, x166_57, x166_58, x166_61, x166_63, x166_64, x166_65, x166_67, xc166_2 m0.1 f0, xc166_11 (sp_mwithin (d := 1)), xc166_24 (sp_mwithin (d := 1)), b2_0, hx, ht, not_true_eq_false, not_false_eq_true, and_self, litZ, ↓reduceIte]) (by decide) (by decide) G (same2 rfl)
    · exact PR_ro (dc := 2) (dm := 2) (v := -1) (by simp only [x102_0, x102_1, x102_4, x102_8, x102_11, x102_12, x102_16, x102_19, x102_20, x102_21, x102_22, x102_28, x102_31, x102_33, x102_34, x102_35, x102_38, x102_39, x102_42, x102_45, x102_48, x102_49, x102_52, x102_55, x102_57, x102_59, x102_60, x102_61, x102_63, x102_65, x102_66, x102_67, x102_68, x102_70, xc102_5 F.1 e0, xc102_13 (sp_within (d := 1)), xc102_25 (sp_within (d := 1)), X0, b2_0, hx, not_false_eq_true, and_self, litZ, ↓reduceIte]) (by simp only [x166_0, x166_1, x166_5, x166_8, x166_9, x166_10, x166_14, x166_17, x166_18, x166_19, x166_20, x166_21, x166_27, x166_30, x166_32, x166_33, x166_34, x166_37, x166_39, x166_42, x166_44, x166_45, x166_46, x166_48, x166_49, x166_52, x166_54, x166_55, x166_57, x166_58, x166_61, x166_63, x166_64, x166_65, x166_67, xc166_2 m0.1 f0, xc166_11 (sp_mwithin (d := 1)), xc166_24 (sp_mwithin (d := 1)), b2_0, hx, not_false_eq_true, and_self, litZ, ↓reduceIte]) (by decide) (by decide) G (same2 rfl)
  · rw [b2_f hw] at e0 f0
    exact PR_ro (dc := 2) (dm := 2) (v := -1) (by simp only [x102_0, x102_1, x102_4, x102_8, x102_11, x102_12, x102_16, x102_19, x102_20, x102_21, x102_22, x102_28, x102_31, x102_33, x102_34, x102_35, x102_38, x102_39, x102_42, x102_45, x102_48, x102_49, x102_52, x102_55, x102_57, x102_59, x102_60, x102_61, x102_63, x102_65, x102_66, x102_67, x102_68, x102_70, xc102_5 F.1 e0, X0, and_self, ↓reduceIte]) (by simp only [x166_0, x166_1, x166_5, x166_8, x166_9, x166_10, x166_14, x166_17, x166_18, x166_19, x166_20, x166_21, x166_27, x166_30, x166_32, x166_33, x166_34, x166_37, x166_39, x166_42, x166_44, x166_45, x166_46, x166_48, x166_49, x166_52, x166_54, x166_55, x166_57, x166_58, x166_61, x166_63, x166_64, x166_65, x166_67, xc166_2 m0.1 f0, and_self, ↓reduceIte]) (by decide) (by decide) G (same2 rfl)
theorem pr_friend (G : GI h) {w x : Int32} : PR h 100 160 [.ref 32, .int w, .int x, noV] [.ref 128, .int w, .int x, noV] := by
  obtain ⟨A, B, im, rn, T, n, C, cl, ml, q, kn, n2, C2, cl2, ml2, q2, kn2, G⟩ := G
  have S := G.2.2.2.1
  obtain ⟨F, K, D, R, Q, H, Mh, HRm, DD, l1, l2⟩ := G.2.2.2.1
  have X0 := G.1
  have m0 := G.2.2.2.2.2.2.2.2.1.1
  have ap := (AP_of DD).1
  have e0 := sp_isWorker (d := 1) (w := w) F
  have f0 := sp_misWorker (d := 0) (w := w) m0 ⟨n, R.1, R.2.1⟩
  have e1 := sp_isWorker (d := 1) (w := x) F
  have f1 := sp_misWorker (d := 0) (w := x) m0 ⟨n, R.1, R.2.1⟩
  by_cases hw : ¬ w < 0 ∧ w < A 0
  · have hw' := hw
    rw [b2_t hw] at e0 f0
    by_cases hx : x = -1 ∨ (¬ x < 0 ∧ x < A 0)
    · by_cases hwx : x = w
      · have n1 : ¬ x = -1 := fun z => hw.1 (by rw [← hwx, z]; decide)
        rcases hx with z | hx
        · exact absurd z n1
        rw [b2_t hx] at e1 f1
        exact PR_ro (dc := 2) (dm := 2) (v := -2) (by simp only [x100_0, x100_1, x100_4, x100_8, x100_11, x100_12, x100_13, x100_16, x100_17, x100_20, x100_24, x100_27, x100_28, x100_29, x100_30, x100_31, x100_34, x100_36, x100_37, x100_38, x100_41, x100_44, x100_45, x100_46, x100_47, x100_48, x100_51, x100_54, x100_55, x100_56, x100_57, x100_60, x100_62, x100_65, x100_66, x100_67, x100_68, xc100_5 F.1 e0, xc100_21 F.1 e1, X0, n1, if_pos hwx, and_self, litZ, ↓reduceIte]) (by simp only [x160_0, x160_1, x160_5, x160_8, x160_9, x160_10, x160_13, x160_14, x160_18, x160_21, x160_22, x160_23, x160_24, x160_25, x160_28, x160_30, x160_31, x160_32, x160_35, x160_37, x160_38, x160_39, x160_40, x160_41, x160_42, x160_45, x160_47, x160_48, x160_49, x160_50, x160_51, x160_52, x160_55, x160_57, x160_60, x160_61, xc160_2 m0.1 f0, xc160_15 m0.1 f1, n1, if_pos hwx.symm, and_self, litZ, ↓reduceIte]) (by decide) (by decide) G (same2 rfl)
      · have hwx2 : ¬ w = x := fun z => hwx z.symm
        obtain ⟨v, hv, rfl⟩ := isW_of R hw
        have hn := R.1
        have hv10 : v < 10 := by omega
        have c2 : inB (nI v) 10 = true := nI_inB (by omega) (by omega)
        have c3 : (nI v).toNatClampNeg = v := nI_clamp (by omega)
        have i50 : (50 : Int32) + nI v = nI (50 + v) ∧ inB (nI (50 + v)) 931 = true ∧ (nI (50 + v)).toNatClampNeg = 50 + v := ixs 50 v (by omega)
        obtain ⟨r1, r2, r3, r4, r5, r6, r7⟩ := id R
        have u : ∀ i, ¬ i = 50 + v → upd A (50 + v) x i = A i := fun i a => if_neg a
        have hxr : x = -1 ∨ ∃ k, k < n ∧ k ≠ v ∧ x = nI k := by
          rcases hx with z | z
          · exact Or.inl z
          · obtain ⟨k, hk, ek⟩ := isW_of R z
            exact Or.inr ⟨k, hk, fun y => hwx (by rw [ek, y]), ek⟩
        have R' : RG (upd A (50 + v) x) n := by
          refine ⟨r1, (u 0 (by omega)).trans r2, fun w hw => ?_, fun w hw => ?_, fun w v hw hv => ?_, by rw [u _ (by omega)]; exact r6, by rw [u _ (by omega)]; exact r7⟩
          · obtain ⟨a1, a2, a3, a4, a5⟩ := r3 w hw
            rw [u (10 + w) (by omega), u (20 + w) (by omega), u (30 + w) (by omega), u (40 + w) (by omega)]
            refine ⟨a1, a2, a3, a4, ?_⟩
            by_cases z : w = v
            · subst z
              rw [upd_at, if_pos rfl]
              exact hxr
            · rw [u _ (by omega)]; exact a5
          · rw [u _ (by omega), u _ (by omega)]; exact r4 w hw
          · rw [u _ (by omega), u _ (by omega)]; exact r5 w v hw hv
        have S' := SD_off S (OF_fr F r2 r1 hv10 x) (KN_ne (KN_upd K (by omega)) (fun j hj => hset_ne (by have := ap.2 j hj; omega))) R' (YB_cong HRm.2 (u 6 (by omega))) (fun p hp => hset_ne (by omega)) rfl (fun i hi => u i (by omega))
        have fr := fun p (a1 : p < h.2.1) (b1 : p < 33 ∨ 43 < p) (c1 : p < 60 ∨ 65 < p) => show (hset h (33 + 6) (.inl (0, 10, .inl (frR (upd A (50 + v) x))))).1 p = h.1 p from hset_ne (by omega)
        have m1 := GX_cls G fr
        have g0 := sp_misWorker (d := 0) (w := nI v) m1.1 ⟨n, R.1, R.2.1⟩
        rw [b2_t hw'] at g0
        have g1 := sp_misWorker (d := 0) (w := x) m1.1 ⟨n, R.1, R.2.1⟩
        have hfin := frR_in (A := A) hv10 (v := x)
        have hv2 : (if A (50 + v) < 0 then (-5 : Int32) else A (50 + v)) = frF (A (50 + v)) := rfl
        rcases hx with rfl | hx
        · rw [show frF (-1) = -5 from by decide] at hfin
          refine PR_st (dc := 2) (dm := 2) (v := frF (A (50 + v))) (by simp only [x100_0, x100_1, x100_4, x100_8, x100_11, x100_12, x100_13, x100_16, x100_17, x100_20, x100_24, x100_27, x100_28, x100_29, x100_30, x100_31, x100_34, x100_36, x100_37, x100_38, x100_41, x100_44, x100_45, x100_46, x100_47, x100_48, x100_51, x100_54, x100_55, x100_56, x100_57, x100_60, x100_62, x100_65, x100_66, x100_67, x100_68, xc100_5 F.1 e0, X0, F, c2, c3, frR_at hv10, if_neg hwx, hfin, true_or, and_self, litZ, ↓reduceIte]) ?_ (by decide) (by decide) (GX_rst G S' (Nat.le_refl _) fr) (same2 rfl) (SG_same G (u 4 (by omega)))
          unfold frF
          by_cases y : A (50 + v) < 0
          · simp only [x160_0, x160_1, x160_5, x160_8, x160_9, x160_10, x160_13, x160_14, x160_18, x160_21, x160_22, x160_23, x160_24, x160_25, x160_28, x160_30, x160_31, x160_32, x160_35, x160_37, x160_38, x160_39, x160_40, x160_41, x160_42, x160_45, x160_47, x160_48, x160_49, x160_50, x160_51, x160_52, x160_55, x160_57, x160_60, x160_61, xc160_2 m1.1.1 g0, m1.1, rst_fold, i50, if_neg hwx2, y, true_or, and_self, litZ, ↓reduceIte]
          · simp only [x160_0, x160_1, x160_5, x160_8, x160_9, x160_10, x160_13, x160_14, x160_18, x160_21, x160_22, x160_23, x160_24, x160_25, x160_28, x160_30, x160_31, x160_32, x160_35, x160_37, x160_38, x160_39, x160_40, x160_41, x160_42, x160_45, x160_47, x160_48, x160_49, x160_50, x160_51, x160_52, x160_55, x160_57, x160_60, x160_61, xc160_2 m1.1.1 g0, m1.1, rst_fold, i50, if_neg hwx2, y, true_or, and_self, litZ, ↓reduceIte]
        · have n1 : ¬ x = -1 := fun z => hx.1 (by rw [z]; decide)
          rw [b2_t hx] at e1 g1
          rw [show frF x = x from if_neg hx.1] at hfin
          refine PR_st (dc := 2) (dm := 2) (v := frF (A (50 + v))) (by simp only [x100_0, x100_1, x100_4, x100_8, x100_11, x100_12, x100_13, x100_16, x100_17, x100_20, x100_24, x100_27, x100_28, x100_29, x100_30, x100_31, x100_34, x100_36, x100_37, x100_38, x100_41, x100_44, x100_45, x100_46, x100_47, x100_48, x100_51, x100_54, x100_55, x100_56, x100_57, x100_60, x100_62, x100_65, x100_66, x100_67, x100_68, xc100_5 F.1 e0, xc100_21 F.1 e1, X0, F, c2, c3, frR_at hv10, n1, if_neg hwx, hfin, true_or, and_self, litZ, ↓reduceIte]) ?_ (by decide) (by decide) (GX_rst G S' (Nat.le_refl _) fr) (same2 rfl) (SG_same G (u 4 (by omega)))
          unfold frF
          by_cases y : A (50 + v) < 0
          · simp only [x160_0, x160_1, x160_5, x160_8, x160_9, x160_10, x160_13, x160_14, x160_18, x160_21, x160_22, x160_23, x160_24, x160_25, x160_28, x160_30, x160_31, x160_32, x160_35, x160_37, x160_38, x160_39, x160_40, x160_41, x160_42, x160_45, x160_47, x160_48, x160_49, x160_50, x160_51, x160_52, x160_55, x160_57, x160_60, x160_61, xc160_2 m1.1.1 g0, xc160_15 m1.1.1 g1, m1.1, rst_fold, i50, n1, if_neg hwx2, y, true_or, and_self, litZ, ↓reduceIte]
          · simp only [x160_0, x160_1, x160_5, x160_8, x160_9, x160_10, x160_13, x160_14, x160_18, x160_21, x160_22, x160_23, x160_24, x160_25, x160_28, x160_30, x160_31, x160_32, x160_35, x160_37, x160_38, x160_39, x160_40, x160_41, x160_42, x160_45, x160_47, x160_48, x160_49, x160_50, x160_51, x160_52, x160_55, x160_57, x160_60, x160_61, xc160_2 m1.1.1 g0, xc160_15 m1.1.1 g1, m1.1, rst_fold, i50, n1, if_neg hwx2, y, true_or, and_self, litZ, ↓reduceIte]
    · have n1 : ¬ x = -1 := fun z => hx (Or.inl z)
      have n2 : ¬ (¬ x < 0 ∧ x < A 0) := fun z => hx (Or.inr z)
      rw [b2_f n2] at e1 f1
      exact PR_ro (dc := 2) (dm := 2) (v := -1) (by simp only [x100_0, x100_1, x100_4, x100_8, x100_11, x100_12, x100_13, x100_16, x100_17, x100_20, x100_24, x100_27, x100_28, x100_29, x100_30, x100_31, x100_34, x100_36, x100_37, x100_38, x100_41, x100_44, x100_45, x100_46, x100_47, x100_48, x100_51, x100_54, x100_55, x100_56, x100_57, x100_60, x100_62, x100_65, x100_66, x100_67, x100_68, xc100_5 F.1 e0, xc100_21 F.1 e1, X0, n1, and_self, litZ, ↓reduceIte]) (by simp only [x160_0, x160_1, x160_5, x160_8, x160_9, x160_10, x160_13, x160_14, x160_18, x160_21, x160_22, x160_23, x160_24, x160_25, x160_28, x160_30, x160_31, x160_32, x160_35, x160_37, x160_38, x160_39, x160_40, x160_41, x160_42, x160_45, x160_47, x160_48, x160_49, x160_50, x160_51, x160_52, x160_55, x160_57, x160_60, x160_61, xc160_2 m0.1 f0, xc160_15 m0.1 f1, n1, and_self, litZ, ↓reduceIte]) (by decide) (by decide) G (same2 rfl)
  · rw [b2_f hw] at e0 f0
    exact PR_ro (dc := 2) (dm := 2) (v := -1) (by simp only [x100_0, x100_1, x100_4, x100_8, x100_11, x100_12, x100_13, x100_16, x100_17, x100_20, x100_24, x100_27, x100_28, x100_29, x100_30, x100_31, x100_34, x100_36, x100_37, x100_38, x100_41, x100_44, x100_45, x100_46, x100_47, x100_48, x100_51, x100_54, x100_55, x100_56, x100_57, x100_60, x100_62, x100_65, x100_66, x100_67, x100_68, xc100_5 F.1 e0, X0, and_self, ↓reduceIte]) (by simp only [x160_0, x160_1, x160_5, x160_8, x160_9, x160_10, x160_13, x160_14, x160_18, x160_21, x160_22, x160_23, x160_24, x160_25, x160_28, x160_30, x160_31, x160_32, x160_35, x160_37, x160_38, x160_39, x160_40, x160_41, x160_42, x160_45, x160_47, x160_48, x160_49, x160_50, x160_51, x160_52, x160_55, x160_57, x160_60, x160_61, xc160_2 m0.1 f0, and_self, ↓reduceIte]) (by decide) (by decide) G (same2 rfl)
end YR
