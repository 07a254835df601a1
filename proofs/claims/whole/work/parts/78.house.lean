-- deps: 77.tape
/-! A HOUSE. -/
section HZ
variable {n g t : Nat} {A A' B C : Nat → Int32} {u : Nat → Nat} {h : AHp}
/-- an older house's rows, where only those of the slot g have changed -/
theorem MH_slo {cl : Nat} {ml : List Cl} (Z : MH A C cl ml) (hg : A 1 = nI g) (g5 : g ≤ 5) (e : ∀ i, 226 ≤ i → ¬ slo g i → A' i = A i) (e1 : A' 1 = A 1) : MH A' C cl ml := by
  rcases Z with ⟨a, b⟩ | ⟨g0, hg0, z0, z1, z2, z3, z4, z5⟩
  · exact Or.inl ⟨e1.trans a, b⟩
  · have hgg : g = g0 + 1 := by
      rw [hg] at hg0
      exact (nI_eq (by omega) (by omega)).mp hg0
    refine Or.inr ⟨g0, e1.trans hg0, z0, z1, z2, ?_, fun i hi hx => ?_, fun k x hx => ?_⟩
    · rw [e _ (by omega) (by unfold slo; omega)]; exact z3
    · rw [e _ (by omega) (by unfold slo; omega)]; exact z4 i hi hx
    · have hk : k < 10 := by
        have := (List.getElem?_eq_some_iff.mp hx).1
        omega
      rw [e _ (by omega) (by unfold slo; omega), e _ (by omega) (by unfold slo; omega), e _ (by omega) (by unfold slo; omega), e _ (by omega) (by unfold slo; omega)]
      exact z5 k x hx
theorem MH_g {cl : Nat} {ml : List Cl} (Z : MH A C cl ml) : ∃ g, g ≤ 5 ∧ A 1 = nI g := by
  rcases Z with ⟨a, -⟩ | ⟨g0, hg0, z0, -⟩
  · exact ⟨0, by decide, a⟩
  · exact ⟨g0 + 1, by omega, hg0⟩
theorem WI_0 {X : Nat → Int32} {n : Nat} (hn : n < 100) : WI n g X (fun _ => 0) (fun _ => 0) (fun _ => 0) (fun _ => 0) [] 20 5 0 0 := by
  refine ⟨rfl, rfl, rfl, ⟨by decide, by omega, fun c x hx => absurd hx (by simp [flt])⟩, fun _ => rfl, fun j hj => by omega, Nat.zero_le _, fun i hi => by omega, fun k x hx => absurd hx (by simp), fun x hx => absurd hx (by simp)⟩
theorem PS_self {q a : Nat} (q0 : h.1 q = .inr (3, [.int 20, .int 5, .ref (q + 1), .int 0, .int 0, .ref (q + 2), .ref (q + 3), .ref (q + 4), .ref (q + 5), .int 0])) (q2 : h.1 (q + 2) = zr 0 10) (q3 : h.1 (q + 3) = zr 0 10) (q4 : h.1 (q + 4) = zr 0 10) (q5 : h.1 (q + 5) = zr 0 t) : PS h q t 20 5 0 0 0 (fun _ => 0) (fun _ => 0) (fun _ => 0) (fun _ => 0) = h := by
  unfold PS
  refine Prod.ext (funext fun a => ?_) rfl
  simp only
  by_cases a0 : a = q
  · rw [if_pos a0, a0, q0]; rfl
  rw [if_neg a0]
  by_cases a2 : a = q + 2
  · rw [if_pos a2, a2, q2]; rfl
  rw [if_neg a2]
  by_cases a3 : a = q + 3
  · rw [if_pos a3, a3, q3]; rfl
  rw [if_neg a3]
  by_cases a4 : a = q + 4
  · rw [if_pos a4, a4, q4]; rfl
  rw [if_neg a4]
  by_cases a5 : a = q + 5
  · rw [if_pos a5, a5, q5]; rfl
  rw [if_neg a5]
theorem HF_PS {q p nc l : Nat} {lv rs : Int32} {W N E : Nat → Int32} : HF (PS h q t lv rs p nc l W N E C) q lv rs W N E C nc t := by
  unfold HF
  rw [PS_q, PS_2, PS_3, PS_4, PS_5]
  repeat' apply And.intro
  all_goals rfl
end HZ
section HH2
theorem pr_house {h : AHp} (G : GI h) (Lo : LO h) (hsg : sgH h < 100) : PR h 96 145 [.ref 32, noV, noV] [.ref 128, noV] := by
  obtain ⟨A, B, im, rn, T, n, C, cl, ml, q0, kn, n2, C2, cl2, ml2, q2, kn2, G⟩ := G
  have G0 := G
  obtain ⟨x1, x2, x3, S1, S2, ⟨A3, q3, kn3, f3⟩, t1, t2, m1, w⟩ := G
  obtain ⟨F, K, D, R, Q, H, Mh, HRm, DD, l1, l2⟩ := S1
  obtain ⟨g, g5, hg⟩ := MH_g Mh
  have m0 := m1.1
  by_cases h5 : g = 5
  · subst h5
    have c1 : ¬ A 1 < 5 := by rw [hg]; decide
    have c2 : A 1 = 5 := hg
    exact PR_ro (dc := 40) (dm := 40) (v := -4) (by simp only [x96_0, x96_1, x96_4, x96_7, x96_8, x96_11, x96_13, x1, F, c1, and_self, ↓reduceIte]) (by simp only [x145_0, x145_1, x145_4, x145_5, x145_6, x145_7, x145_10, x145_12, m0, ixL, c2, true_or, and_self, ↓reduceIte]) (by decide) (by decide) G0 (same2 rfl)
  have hg5 : g < 5 := by clear F D f3; omega
  obtain ⟨t, ht0, h4⟩ := Q.2.2.1
  have hsg2 := SG_eq G0
  have ht : t < 100 := by
    have : (A 4).toNatClampNeg ≤ sgH h := by
      unfold sgH
      rw [hsg2.1]
      exact Nat.le_max_left _ _
    rw [h4, nI_clamp (by clear F D f3; omega)] at this
    clear F D f3
    omega
  obtain ⟨q, hq⟩ : ∃ q, h.2.1 = q := ⟨_, rfl⟩
  have hq136 : 136 ≤ q := by rw [← hq]; exact w
  -- the class: a place for the house, the tape, the house made
  obtain ⟨hA, eA⟩ : ∃ hA, hnew h (.inr (3, defV 3)) 10 = hA := ⟨_, rfl⟩
  have gA : ∀ p, p < q → hA.1 p = h.1 p := fun p hp => by rw [← eA, hnew_at, if_neg (by rw [hq]; omega)]
  have gAq : hA.1 q = .inr (3, defV 3) := by rw [← eA, hnew_at, if_pos hq.symm]
  have zA : hA.2 = (q + 1, h.2.2 + 10) := by
    rw [← eA]
    show (h.2.1 + 1, h.2.2 + 10) = _
    rw [hq]
  have DA : PP hA 60 A := PP_ne D (fun p a b => gA p (by clear F D f3; omega))
  obtain ⟨hD, e1, D1, d1, d2, d3, zD, gD⟩ := sp_takeTape (d := 36) DA Q h4 ht (by rw [zA]; clear F D f3 DA; show 60 + 5 < q + 1; omega)
  rw [zA] at e1 d1 d2 d3 zD gD
  have gDq : hD.1 q = .inr (3, defV 3) := by rw [gD q (by show q < q + 1; omega) (by clear F D f3 DA D1; omega)]; exact gAq
  have zDa : hD.2.1 = q + 2 := by rw [zD]
  obtain ⟨hE, e2, k0, k2, k3, k4, k5, zE, gE⟩ := in_house (d := 38) (o := q) (t := q + 1) (a := q + 2) (n := t) gDq d1 d2 (by clear F D f3 DA D1; omega) zDa (by clear F D f3 DA D1; omega) (by clear F D f3 DA D1; omega) (by clear F D f3 DA D1; omega)
  have zEa : hE.2 = (q + 6, h.2.2 + 10 + t + 30 + t) := by
    rw [zE]
    show (q + 2 + 4, hD.2.2 + 30 + t) = _
    rw [zD]
  have lowE : ∀ p, p < q → ¬ p = 60 → hE.1 p = h.1 p := fun p hp hp2 => by
    rw [gE p (by omega) (by omega), gD p (by show p < q + 1; omega) hp2, gA p hp]
  have pE : ∀ p, 60 ≤ p → p ≤ 65 → hE.1 p = hD.1 p := fun p a b => gE p (by omega) (by omega)
  have selfE := PS_self (q := q) (a := 0) (t := t) k0 k2 k3 k4 k5
  -- both readers
  obtain ⟨u, hu⟩ : ∃ u : Nat → Nat, ∀ i, u i = (A (126 + i)).toNatClampNeg := ⟨fun i => (A (126 + i)).toNatClampNeg, fun _ => rfl⟩
  have hA126 : ∀ i, i < t → A (126 + i) = nI (u i) ∧ u i ≤ 127 := fun i hi => by
    obtain ⟨k, hk, ek⟩ := Q.2.2.2.2.2 i (by clear F D f3 DA D1; omega)
    have : u i = k := by rw [hu, ek, nI_clamp (by omega)]
    rw [this]
    exact ⟨ek, hk⟩
  have Zx : XO A t g u := ⟨h4, hg, hA126, hg5, ht⟩
  have LE : LO hE := LO_lo Lo (fun p hp => lowE p (by omega) (by omega))
  have Hb : HB hE q t u := by
    have e : hE.1 (q + 1) = hD.1 (q + 1) := gE (q + 1) (by omega) (by omega)
    refine ⟨by rw [e]; exact d1, by rw [e]; exact d2, fun i hi => ?_, LE, by omega, ht⟩
    rw [e, d3 i hi]
    exact hA126 i hi
  obtain ⟨r, p', op', l', lv', rs', nc', W', N', E', C', X', ml', j1, j2, j3, jc, jm⟩ := J_loop (g := g) (u := u) ht t 0 0 (fun _ => 0) 20 5 0 (fun _ => 0) (fun _ => 0) (fun _ => 0) A [] (by omega) (Nat.zero_le _) (Nat.le_refl _) (by decide) Zx (WI_0 ht)
  have ec := jc 7 hE q noV Hb
  rw [selfE] at ec
  have ec2 : Rf 38 13 0 [.ref q, noV, noV] [] hE = some (some (.int (if r = true then -1 else nI p')), PS hE q t lv' rs' p' nc' l' W' N' E' C') := by
    simp only [x13_0, x13_1]
    exact ec
  obtain ⟨hF, eF⟩ : ∃ hF, PS hE q t lv' rs' p' nc' l' W' N' E' C' = hF := ⟨_, rfl⟩
  rw [eF] at ec2
  have gF : ∀ p, p < q → hF.1 p = hE.1 p := fun p hp => by
    rw [← eF]
    exact PS_ne (by omega) (by omega) (by omega) (by omega) (by omega)
  have lowF : ∀ p, p < q → ¬ p = 60 → hF.1 p = h.1 p := fun p hp hp2 => (gF p hp).trans (lowE p hp hp2)
  have zF : hF.2 = (q + 6, h.2.2 + 10 + t + 30 + t) := by rw [← eF]; exact zEa
  have DF : PP hF 60 (upd A 4 0) := PP_ne D1 (fun p a b => (gF p (by clear F D f3 DA D1; omega)).trans (pE p (by clear F D f3 DA D1; omega) (by clear F D f3 DA D1; omega)))
  have clE : cls (hE.1 q) = 3 := by rw [k0]; rfl
  have clD : cls (hD.1 q) < 13 := by rw [gDq, df3]; show 3 < 13; decide
  have XA : XF hA := XF_ne x1 (gA 32 (by omega))
  have clsA : cls (hA.1 60) = 7 := DA.1
  have c5 : A 1 < 5 := by rw [hg]; exact nI_lt (a := g) (b := 5) hg5 (by decide)
  rw [df3] at eA
  -- the class up to what it answers
  have cA : Rf 39 96 0 [.ref 32, noV, noV] [] h = Rf 39 96 34 [.ref 32, .ref q, .int (if r = true then -1 else nI p')] [] hF := by
    simp only [x96_0, x96_1, x96_4, x96_7, x96_8, x96_14, x96_17, x96_18, x96_19, x96_28, x96_29, x96_33, x1, XA, F, c5, hq, eA, xc96_22 clsA e1, xc96_25 clD e2, xc96_30 clE ec2, and_self, ↓reduceIte]
  have FF : OF hF 33 A q0 kn := OF_ne F (fun p a b => lowF p (by clear F D f3 DA D1 DF; omega) (by clear F D f3 DA D1 DF; omega))
  -- the model's row behind the call
  have Xo : ∀ i, i < 226 → X' i = A i := fun i hi => j2 i (slo_lo hi)
  have Xo1 : X' 1 = nI g := (Xo 1 (by decide)).trans hg
  have knF : ∀ hh : AHp, (∀ p, dyn p → p < q → hh.1 p = hF.1 p) → ∀ j, j < 10 → hh.1 (kn j) = h.1 (kn j) := fun hh e j hj => by
    have a := DD.2 j hj
    have b := l2 j hj
    rw [hq] at b
    rw [e _ a b, lowF _ b (by clear F D f3 DA D1 DF FF; unfold dyn at a; omega)]
  have modE : ∀ hh : AHp, MF hh 128 A B → LO hh → Rf 39 145 0 [.ref 128, noV] [] hh = some (some (.int (if r = true then nI g else -10 - nI p')), MS hh 128 p' op' l' (if r = true then upd (upd X' 4 0) 1 (nI (g + 1)) else upd X' 4 0)) := by
    intro hh Fh Lh
    have hs := MS_start Fh
    have e := jm 7 hh 128 A B Fh Lh (by decide)
    have e' : Rf 38 144 0 [.ref 128, noV] [] (MS hh 128 0 0 0 A) = some (some (.int (bv r)), MS hh 128 p' op' l' X') := by
      simp only [x144_0, x144_1]
      exact e
    have O := fun pt op md => ocf (pt := pt) (op := op) (md := md) Fh
    have clM : cls ((MS hh 128 0 0 0 A).1 128) = 12 := kcM Fh
    have n5 : (A 1 = 5) = False := eq_false fun z => by
      rw [hg] at z
      have := (nI_eq (a := g) (b := 5) (by omega) (by decide)).mp z
      omega
    have u41 : upd X' 4 0 1 = nI g := (if_neg (by decide)).trans Xo1
    cases r with
    | true =>
      simp only [x145_0, x145_1, x145_4, x145_5, x145_6, x145_7, x145_13, x145_14, x145_15, x145_18, x145_19, x145_20, x145_23, x145_24, x145_25, x145_28, x145_32, x145_33, x145_34, x145_37, x145_38, x145_39, x145_40, x145_41, x145_44, x145_45, x145_48, x145_49, x145_50, x145_51, x145_52, x145_53, x145_54, x145_55, x145_65, Fh, hset_at, cls_set, oL_set, ixL, n5, hs, xc145_29 clM e', bv, MS_o, MS_1, MS_X, O, aT_i, aN_i, aF_i, u41, nI_1, litZ, true_or, and_self, ↓reduceIte]
    | false =>
      simp only [x145_0, x145_1, x145_4, x145_5, x145_6, x145_7, x145_13, x145_14, x145_15, x145_18, x145_19, x145_20, x145_23, x145_24, x145_25, x145_28, x145_32, x145_33, x145_34, x145_37, x145_38, x145_39, x145_40, x145_41, x145_58, x145_60, x145_61, x145_64, x145_65, Fh, hset_at, cls_set, oL_set, ixL, n5, hs, xc145_29 clM e', bv, MS_o, MS_1, MS_X, O, aT_i, aN_i, aF_i, Bool.false_eq_true, true_or, and_self, ↓reduceIte]
  -- what holds behind the call
  have fin : ∀ (hc : AHp) (A' C1 : Nat → Int32) (cl1 : Nat) (ml1 : List Cl) (q1 : Nat) (v : Int32), hc.2 = (q + 6, h.2.2 + 10 + t + 30 + t) → (∀ p, p < q → ¬ p = 33 → ¬ p = 60 → hc.1 p = h.1 p) → Rf 39 96 0 [.ref 32, noV, noV] [] h = some (some (.int v), hc) → Rf 39 145 0 [.ref 128, noV] [] hc = some (some (.int v), MS hc 128 p' op' l' A') → SD (MS hc 128 p' op' l' A') 33 60 A' n C1 cl1 ml1 q1 kn → A' 4 = 0 → PR h 96 145 [.ref 32, noV, noV] [.ref 128, noV] := by
    intro hc A' C1 cl1 ml1 q1 v hz low r1 r2 SDn hA4
    have f3' := f3
    clear F D f3 DA D1 DF FF
    have fr : ∀ p, p < q → ¬ p = 33 → ¬ p = 60 → ¬ p = 128 → ¬ p = 129 → (MS hc 128 p' op' l' A').1 p = h.1 p := fun p a b c d e => (MS_ne d e).trans (low p a b c)
    have hz2 : (MS hc 128 p' op' l' A').2 = (q + 6, h.2.2 + 10 + t + 30 + t) := hz
    have hle : h.2.1 ≤ (MS hc 128 p' op' l' A').2.1 := by rw [hz2, hq]; show q ≤ q + 6; omega
    have mM : MM hc 128 A B im rn T := MM_ne m1 (fun p a b => low p (by omega) (by omega) (by omega))
    exact PR_of r1 r2 (by decide) (by decide) (A := A') (B := B) (im := im) (rn := rn) (T := T) (n := n) (C := C1) (cl := cl1) (ml := ml1) (q := q1) (kn := kn) (n2 := n2) (C2 := C2) (cl2 := cl2) (ml2 := ml2) (q2 := q2) (kn2 := kn2)
      ⟨XF_ne x1 (fr 32 (by omega) (by decide) (by decide) (by decide) (by decide)), by rw [fr 32 (by omega) (by decide) (by decide) (by decide) (by decide)]; exact x2, x3, SDn, SD_ne S2 hle (fun p hp => fr p (by rw [hq] at hp; unfold dyn at hp; omega) (by unfold dyn at hp; omega) (by unfold dyn at hp; omega) (by unfold dyn at hp; omega) (by unfold dyn at hp; omega)), ⟨A3, q3, kn3, OF_ne f3' (fun p a b => fr p (by clear f3'; omega) (by clear f3'; omega) (by clear f3'; omega) (by clear f3'; omega) (by clear f3'; omega))⟩, TR_ne t1 (fr 126 (by omega) (by decide) (by decide) (by decide) (by decide)) (fr 127 (by omega) (by decide) (by decide) (by decide) (by decide)), t2, MM_MS mM, by rw [hz2]; show 136 ≤ q + 6; omega⟩
      ⟨by rw [hz2, hq]; exact Nat.le_refl _, by rw [hz2]; show h.2.2 + 10 + t + 30 + t ≤ h.2.2 + 300; omega⟩
      ⟨by rw [hA4]; exact Nat.le_trans (by decide) (Nat.le_add_left 1 _), (SG_self G0).2⟩
  have aI : ∀ i, i < 226 → ¬ i = 4 → ¬ i = 1 → (if r = true then upd (upd X' 4 0) 1 (nI (g + 1)) else upd X' 4 0) i = A i := fun i h1 h2 h3 => by
    cases r with
    | true => exact (if_neg h3).trans ((if_neg h2).trans (Xo i h1))
    | false => exact (if_neg h2).trans (Xo i h1)
  have a4 : (if r = true then upd (upd X' 4 0) 1 (nI (g + 1)) else upd X' 4 0) 4 = 0 := by
    cases r <;> rfl
  have aS : ∀ i, 226 ≤ i → (if r = true then upd (upd X' 4 0) 1 (nI (g + 1)) else upd X' 4 0) i = X' i := fun i h1 => by
    cases r with
    | true => exact (if_neg (by omega)).trans (if_neg (by omega))
    | false => exact if_neg (by omega)
  have modF := modE
  generalize eA' : (if r = true then upd (upd X' 4 0) 1 (nI (g + 1)) else upd X' 4 0) = A' at aI a4 aS modF
  have RG' : RG A' n := RG_cong R (aI 0 (by decide) (by decide) (by decide)) (aI 5 (by decide) (by decide) (by decide)) (aI 6 (by decide) (by decide) (by decide)) (fun i a b => aI i (by omega) (by omega) (by omega))
  have RP' : RP A' := by
    obtain ⟨r1, r2, r3, r4, r5, r6⟩ := Q
    refine ⟨by rw [aI 2 (by decide) (by decide) (by decide)]; exact r1, by rw [aI 3 (by decide) (by decide) (by decide)]; exact r2, ⟨0, by decide, a4⟩, by rw [aI 7 (by decide) (by decide) (by decide)]; exact r4, fun i hi => ?_, fun i hi => ?_⟩
    · rw [aI _ (by omega) (by omega) (by omega), aI _ (by omega) (by omega) (by omega)]; exact r5 i hi
    · rw [aI _ (by omega) (by omega) (by omega)]; exact r6 i hi
  have uu : ∀ i, i < 226 → ¬ i = 1 → A' i = upd A 4 0 i := fun i h1 h2 => by
    by_cases h3 : i = 4
    · rw [h3, a4]; rfl
    · rw [aI i h1 h3 h2, upd_at, if_neg h3]
  have DF' : PP hF 60 A' := PP_cong DF (uu 2 (by decide) (by decide)) (uu 3 (by decide) (by decide)) (uu 4 (by decide) (by decide)) (uu 7 (by decide) (by decide)) (fun i a b => uu i b (by clear F D f3 DA D1 DF FF; omega))
  have YB' : YB A' := YB_cong HRm.2 (aI 6 (by decide) (by decide) (by decide))
  have KN' : ∀ hh : AHp, (∀ p, dyn p → p < q → hh.1 p = hF.1 p) → KN hh A' kn := fun hh e => KN_ne (KN_cong K (fun i a b => aI i (by omega) (by omega) (by omega))) (fun j hj => knF hh e j hj)
  have LF : LO hF := LO_lo LE (fun p hp => gF p (by clear F D f3 DA D1 DF DF' FF; omega))
  cases r with
  | false =>
    have a1 : A' 1 = A 1 := by
      rw [← eA']
      show upd X' 4 0 1 = A 1
      exact (if_neg (by decide)).trans (Xo 1 (by decide))
    have hp1 : ¬ nI p' = -1 := fun z => by
      have : ¬ nI p' < 0 := nI_pos (by clear F D f3 DA D1 DF DF' FF; omega)
      rw [z] at this
      exact this (by decide)
    have cB : Rf 39 96 0 [.ref 32, noV, noV] [] h = some (some (.int (-10 - nI p')), hF) := by
      rw [cA]
      simp only [x96_34, x96_35, x96_36, x96_50, x96_52, x96_53, x96_54, hp1, Bool.false_eq_true, ↓reduceIte]
    have mB := modF hF (MM_ne m1 (fun p a b => lowF p (by clear F D f3 DA D1 DF DF' FF; omega) (by clear F D f3 DA D1 DF DF' FF; omega))).1 LF
    refine fin hF A' C cl ml q0 (-10 - nI p') zF (fun p a _ c => lowF p a c) cB mB ?_ a4
    have fr : ∀ p, ¬ p = 128 → ¬ p = 129 → (MS hF 128 p' op' l' A').1 p = hF.1 p := fun p a b => MS_ne a b
    refine ⟨OF_ne (OF_cong FF R.2.1 R.1 (aI 0 (by decide) (by decide) (by decide)) a1 (aI 5 (by decide) (by decide) (by decide)) (aI 6 (by decide) (by decide) (by decide)) (fun i a b => aI i (by clear F D f3 DA D1 DF DF' FF; omega) (by clear F D f3 DA D1 DF DF' FF; omega) (by clear F D f3 DA D1 DF DF' FF; omega))) (fun p a b => fr p (by clear F D f3 DA D1 DF DF' FF; omega) (by clear F D f3 DA D1 DF DF' FF; omega)), KN' _ (fun p hp _ => fr p (by unfold dyn at hp; clear F D f3 DA D1 DF DF' FF; omega) (by unfold dyn at hp; clear F D f3 DA D1 DF DF' FF; omega)), PP_ne DF' (fun p a b => fr p (by clear F D f3 DA D1 DF DF' FF; omega) (by clear F D f3 DA D1 DF DF' FF; omega)), RG', RP', HO_ne H (fun p a b => ?_), MH_slo Mh hg g5 (fun i a b => (aS i a).trans (j2 i b)) a1, ⟨HRm.1, YB'⟩, DD, by show q0 + 5 < hF.2.1; rw [zF]; rw [hq] at l1; show q0 + 5 < q + 6; clear F D f3 DA D1 DF DF' FF; omega, fun j hj => by
      have := l2 j hj
      rw [hq] at this
      show kn j < hF.2.1
      rw [zF]
      show kn j < q + 6
      clear F D f3 DA D1 DF DF' FF
      omega⟩
    have d1' := DD.1 (p - q0) (by clear F D f3 DA D1 DF DF' FF; omega)
    rw [Nat.add_sub_cancel' a] at d1'
    rw [hq] at l1
    clear F D f3 DA D1 DF DF' FF
    rw [fr p (by unfold dyn at d1'; omega) (by unfold dyn at d1'; omega), lowF p (by omega) (by unfold dyn at d1'; omega)]
  | true =>
    obtain ⟨WIx, x226, xlen⟩ := j3 rfl
    obtain ⟨i1, i2, i3, i4, i5, i6, i7, i8, i9, i10⟩ := WIx
    have a1 : A' 1 = nI (g + 1) := by
      rw [← eA']
      show upd (upd X' 4 0) 1 (nI (g + 1)) 1 = nI (g + 1)
      exact if_pos rfl
    have e3 := sp_moveInto (d := 38) (q := q) FF R.2.1 R.1 hg
    have clF : cls (hF.1 33) = 6 := FF.1
    have XFF : XF hF := XF_ne x1 (lowF 32 (by clear F D f3 DA D1 DF DF' FF; omega) (by decide))
    have F1 := OF_hou (OF_hq FF q) R.2.1 R.1 (nI (g + 1))
    obtain ⟨hG, eG⟩ : ∃ hG, hset (hset hF 33 (oSet (hF.1 33) 11 (.ref q))) 33 (oSet ((hset hF 33 (oSet (hF.1 33) 11 (.ref q))).1 33) 10 (.int (nI (g + 1)))) = hG := ⟨_, rfl⟩
    rw [eG] at e3 F1
    have gG : ∀ p, ¬ p = 33 → hG.1 p = hF.1 p := fun p hp => by rw [← eG, hset_ne hp, hset_ne hp]
    have zG : hG.2 = (q + 6, h.2.2 + 10 + t + 30 + t) := by rw [← eG]; exact zF
    have LG : LO hG := LO_lo LF (fun p hp => gG p (by omega))
    have cB : Rf 39 96 0 [.ref 32, noV, noV] [] h = some (some (.int (nI g)), hG) := by
      rw [cA]
      simp only [x96_34, x96_35, x96_36, x96_39, x96_40, x96_43, x96_47, x96_54, XFF, xc96_44 clF e3, eq_self, and_self, ↓reduceIte]
    have mB := modF hG (MM_ne m1 (fun p a b => (gG p (by clear F D f3 DA D1 DF DF' FF F1; omega)).trans (lowF p (by clear F D f3 DA D1 DF DF' FF F1; omega) (by clear F D f3 DA D1 DF DF' FF F1; omega)))).1 LG
    simp only [↓reduceIte] at mB
    refine fin hG A' C' t ml' q (nI g) zG (fun p a b c => (gG p b).trans (lowF p a c)) cB mB ?_ a4
    have fr : ∀ p, ¬ p = 128 → ¬ p = 129 → (MS hG 128 p' op' l' A').1 p = hG.1 p := fun p a b => MS_ne a b
    have frF : ∀ p, ¬ p = 33 → ¬ p = 128 → ¬ p = 129 → (MS hG 128 p' op' l' A').1 p = hF.1 p := fun p c a b => (fr p a b).trans (gG p c)
    have HOF : HO hF q C' t ml' := by
      refine ⟨W', N', E', ?_, i4⟩
      have := HF_PS (h := hE) (t := t) (q := q) (p := p') (nc := nc') (l := l') (lv := lv') (rs := rs') (W := W') (N := N') (E := E') (C := C')
      rw [eF, i1, i2, i3] at this
      exact this
    have v0 : ∀ i, ¬ i = 1 → upd A 1 (nI (g + 1)) i = A i := fun i hi => if_neg hi
    refine ⟨OF_ne (OF_cong F1 ((v0 0 (by decide)).trans R.2.1) R.1 ((aI 0 (by decide) (by decide) (by decide)).trans (v0 0 (by decide)).symm) (a1.trans (if_pos rfl : upd A 1 (nI (g + 1)) 1 = nI (g + 1)).symm) ((aI 5 (by decide) (by decide) (by decide)).trans (v0 5 (by decide)).symm) ((aI 6 (by decide) (by decide) (by decide)).trans (v0 6 (by decide)).symm) (fun i a b => (aI i (by clear F D f3 DA D1 DF DF' FF F1; omega) (by clear F D f3 DA D1 DF DF' FF F1; omega) (by clear F D f3 DA D1 DF DF' FF F1; omega)).trans (v0 i (by clear F D f3 DA D1 DF DF' FF F1; omega)).symm)) (fun p a b => fr p (by clear F D f3 DA D1 DF DF' FF F1; omega) (by clear F D f3 DA D1 DF DF' FF F1; omega)), KN' _ (fun p hp _ => frF p (by unfold dyn at hp; clear F D f3 DA D1 DF DF' FF F1; omega) (by unfold dyn at hp; clear F D f3 DA D1 DF DF' FF F1; omega) (by unfold dyn at hp; clear F D f3 DA D1 DF DF' FF F1; omega)), PP_ne DF' (fun p a b => frF p (by clear F D f3 DA D1 DF DF' FF F1; omega) (by clear F D f3 DA D1 DF DF' FF F1; omega) (by clear F D f3 DA D1 DF DF' FF F1; omega)), RG', RP', HO_ne HOF (fun p a b => frF p (by clear F D f3 DA D1 DF DF' FF F1; omega) (by clear F D f3 DA D1 DF DF' FF F1; omega) (by clear F D f3 DA D1 DF DF' FF F1; omega)), Or.inr ⟨g, a1, hg5, by clear F D f3 DA D1 DF DF' FF F1; omega, xlen, by rw [aS _ (by clear F D f3 DA D1 DF DF' FF F1; omega)]; exact x226, fun i hi hx => ?_, fun k x hx => ?_⟩, ⟨i10, YB'⟩, ⟨fun i hi => ?_, DD.2⟩, by show q + 5 < hG.2.1; rw [zG]; show q + 5 < q + 6; clear F D f3 DA D1 DF DF' FF F1; omega, fun j hj => by
      have := l2 j hj
      rw [hq] at this
      show kn j < hG.2.1
      rw [zG]
      show kn j < q + 6
      clear F D f3 DA D1 DF DF' FF F1
      omega⟩
    · obtain ⟨k, x, hkx, hix⟩ := hx
      have := (i9 k x hkx).2.2.2.2.1
      rw [aS _ (by clear F D f3 DA D1 DF DF' FF F1; omega)]
      exact i8 i (by clear F D f3 DA D1 DF DF' FF F1; omega)
    · obtain ⟨y1, y2, y3, y4, y5, y6⟩ := i9 k x hx
      rw [aS _ (by clear F D f3 DA D1 DF DF' FF F1; omega), aS _ (by clear F D f3 DA D1 DF DF' FF F1; omega), aS _ (by clear F D f3 DA D1 DF DF' FF F1; omega), aS _ (by clear F D f3 DA D1 DF DF' FF F1; omega)]
      exact ⟨y1, y2, y3, y4, y6⟩
    · unfold dyn
      clear F D f3 DA D1 DF DF' FF F1
      omega
end HH2
