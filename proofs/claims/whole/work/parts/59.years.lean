-- deps: 58.image
/-! YEARS thought of. -/
def yS (C : Nat → Int32) (ml : List Cl) (n : Nat) (p : (Nat → Int32) × Int32) : (Nat → Int32) × Int32 := (yrF p.1 C ml n, p.2 + lfF p.1 C ml n 0 0 n)
def yK (C : Nat → Int32) (ml : List Cl) (n : Nat) : (Nat → Int32) × Int32 → Nat → (Nat → Int32) × Int32
  | p, 0 => p
  | p, k + 1 => yK C ml n (yS C ml n p) k
def yP (A C : Nat → Int32) (ml : List Cl) (n N t : Nat) : (Nat → Int32) × Int32 := yK C ml n (upd A 5 (nI t), 0) N
def yV (A C : Nat → Int32) (ml : List Cl) (n N t : Nat) (x : Int32) : Int32 := if x = 0 then pays (yP A C ml n N t).1 else if x = 1 then (yP A C ml n N t).2 else gapF (yP A C ml n N t).1 n
/-- what a year asks for, for k of them -/
def YO (X C : Nat → Int32) (n cl : Nat) (ml : List Cl) (k : Nat) : Prop := RG X n ∧ MH X C cl ml ∧ HR ml ∧ ∃ j, j + k ≤ 198 ∧ X 6 = nI j
section YT
variable {d o q q3 n cl N t pp : Nat} {kn kn3 : Nat → Nat} {A A3 B C T X O : Nat → Int32} {h h' : AHp} {ml : List Cl} {im rn : Int32}
theorem YO_step {k : Nat} (Y : YO X C n cl ml (k + 1)) : YO (yrF X C ml n) C n cl ml k ∧ ∀ i, ¬ i = 6 → (i < 20 ∨ 30 ≤ i) → (i < 50 ∨ 60 ≤ i) → yrF X C ml n i = X i := by
  obtain ⟨R, Z, H, j, hj, ej⟩ := Y
  have u := fun i (a : ¬ i = 6) b c => yr_out (A := X) (C := C) (ml := ml) R.1 (i := i) a b c
  refine ⟨⟨yr_RG R Z H ⟨j, by omega, ej⟩, MH_cong Z (u 1 (by omega) (by omega) (by omega)) (fun i a b => u i (by omega) (by omega) (by omega)), H, j + 1, by omega, ?_⟩, u⟩
  unfold yrF
  rw [upd_at, if_pos rfl, ej, nI_1]
theorem yK_ok : ∀ (k : Nat) (p : (Nat → Int32) × Int32), YO p.1 C n cl ml k → YO (yK C ml n p k).1 C n cl ml 0 ∧ ∀ i, ¬ i = 6 → (i < 20 ∨ 30 ≤ i) → (i < 50 ∨ 60 ≤ i) → (yK C ml n p k).1 i = p.1 i := by
  intro k
  induction k with
  | zero => intro p Y; exact ⟨Y, fun i _ _ _ => rfl⟩
  | succ k ih =>
    intro p Y
    obtain ⟨Y1, u1⟩ := YO_step Y
    obtain ⟨Y2, u2⟩ := ih (yS C ml n p) Y1
    exact ⟨Y2, fun i a b c => (u2 i a b c).trans (u1 i a b c)⟩
theorem RG_tel (R : RG A n) (ht : t ≤ 3) : RG (upd A 5 (nI t)) n := by
  have u : ∀ i, ¬ i = 5 → upd A 5 (nI t) i = A i := fun i hi => if_neg hi
  obtain ⟨r1, r2, r3, r4, r5, r6, r7⟩ := R
  refine ⟨r1, (u 0 (by omega)).trans r2, fun w hw => ?_, fun w hw => ?_, fun w v hw hv => ?_, ⟨t, ht, if_pos rfl⟩, ?_⟩
  · rw [u _ (by omega), u _ (by omega), u _ (by omega), u _ (by omega), u _ (by omega)]; exact r3 w hw
  · rw [u _ (by omega), u _ (by omega)]; exact r4 w hw
  · rw [u _ (by omega), u _ (by omega)]; exact r5 w v hw hv
  · rw [u _ (by omega)]; exact r7
theorem YO_0 (R : RG A n) (Z : MH A C cl ml) (H : HR ml) (Y : YB A) (ht : t ≤ 3) (hN : N ≤ 20) : YO (upd A 5 (nI t)) C n cl ml N := by
  have u : ∀ i, ¬ i = 5 → upd A 5 (nI t) i = A i := fun i hi => if_neg hi
  obtain ⟨k, hk, ek⟩ := Y
  exact ⟨RG_tel R ht, MH_cong Z (u 1 (by omega)) (fun i a b => u i (by omega)), H, k, by omega, (u 6 (by omega)).trans ek⟩
theorem lp_try (hN : N ≤ 20) (P : AP 99 q kn) {tv : Value} : ∀ (k i : Nat) (p : (Nat → Int32) × Int32) (h : AHp), i + k = N → XF h → OF h 99 p.1 q kn → KN h p.1 kn → YO p.1 C n cl ml k → HO h q C cl ml → ∃ h', Rf (d + 6) 107 24 [.ref 32, .int (nI N), tv, .int p.2, .int (nI i)] [] h = some (some (.int (yK C ml n p k).2), h') ∧ OF h' 99 (yK C ml n p k).1 q kn ∧ OE h h' 99 := by
  intro k
  induction k with
  | zero =>
    intro i p h hi X0 F K Y H
    have c1 : ¬ nI i < nI N := nI_nlt (by clear F; omega) (by clear F; omega)
    exact ⟨h, by simp only [x107_24, x107_26, x107_27, x107_30, x107_31, x107_32, x107_38, x107_39, x107_40, x107_43, x107_46, x107_47, c1, ↓reduceIte, yK], F, OE_rf⟩
  | succ k ih =>
    intro i p h hi X0 F K Y H
    have c1 : nI i < nI N := nI_lt (by clear F; omega) (by clear F; omega)
    obtain ⟨h1, e1, e2, e3⟩ := sp_goYear (d := d) F K Y.1 P H
    obtain ⟨Y1, u⟩ := YO_step Y
    have K' : KN h1 (yrF p.1 C ml n) kn := KN_ne (KN_cong K (fun i a b => u i (by clear F e2; omega) (by clear F e2; omega) (by clear F e2; omega))) (fun j hj => e3.2 _ (by have := P.2 j hj; clear F e2; omega))
    obtain ⟨h2, f1, f2, f3⟩ := ih (i + 1) (yS C ml n p) h1 (by clear F e2; omega) (XF_ne X0 (e3.2 32 (by decide))) e2 K' Y1 (HO_ne H (fun r a b => e3.2 r (by have := P.1; clear F e2; omega)))
    refine ⟨h2, ?_, f2, OE_tr e3 f3⟩
    rw [x107_24]
    simp only [x107_26, x107_27, x107_30, x107_31, x107_32, x107_38, x107_39, x107_40, x107_43, xc107_35 F.1 e1, X0, c1, nI_1, and_self, ↓reduceIte]
    exact f1
theorem sp_try (X0 : XF h) (S : SD h 33 60 A n C cl ml q kn) (f3 : OF h 99 A3 q3 kn3) (hN : N ≤ 20) (ht : t ≤ 3) : ∃ h', Rf (d + 7) 107 0 [.ref 32, .int (nI N), .int (nI t), noV, noV] [] h = some (some (.int (yP A C ml n N t).2), h') ∧ OF h' 99 (yP A C ml n N t).1 q kn ∧ OE h h' 99 := by
  obtain ⟨F, K, D, R, Q, H, Mh, HRm, DD, l1, l2⟩ := S
  have ap := (AP_of DD).2.2
  obtain ⟨h1, e1, f1, o1⟩ := sp_copy (d := d + 5) f3 F (fun j hj => (K j hj).2.2.2.2.2) ap.2 (by decide)
  have X1 : XF h1 := XF_ne X0 (o1.2 32 (by decide))
  have G1 := OF_tel f1 R.2.1 R.1 (nI t)
  have o2 : OE h1 (hset h1 99 (oSet (h1.1 99) 8 (.int (nI t)))) 99 := OE_set0
  have X2 : XF (hset h1 99 (oSet (h1.1 99) 8 (.int (nI t)))) := XF_ne X1 (o2.2 32 (by decide))
  have oo := OE_tr o1 o2
  have K2 : KN (hset h1 99 (oSet (h1.1 99) 8 (.int (nI t)))) (upd A 5 (nI t)) kn := KN_ne (KN_upd K (by decide)) (fun j hj => oo.2 _ (by have := ap.2 j hj; clear F f1 f3 G1; omega))
  obtain ⟨h2, e2, f2, o3⟩ := lp_try (d := d + 1) hN ap (tv := .int (nI t)) N 0 (upd A 5 (nI t), 0) _ (by omega) X2 G1 K2 (YO_0 R Mh HRm.1 HRm.2 ht hN) (HO_ne H (fun r a b => oo.2 r (by have := ap.1; clear F f1 f3 G1; omega)))
  refine ⟨h2, ?_, f2, OE_tr oo o3⟩
  rw [nI_0] at e2
  have cf : cls (h.1 99) = 6 := f3.1
  simp only [x107_0, x107_1, x107_4, x107_5, x107_11, x107_12, x107_15, x107_16, x107_19, x107_20, x107_21, x107_22, xc107_8 cf e1, X0, X1, X2, f1, and_self, ↓reduceIte]
  exact e2
/-- the model's frame of a year -/
def MG (h h' : AHp) (o : Nat) : Prop := h'.2 = h.2 ∧ ∀ p, (p < o + 1 ∨ o + 5 < p) → h'.1 p = h.1 p
theorem lp_mgo (hN : N ≤ 20) {tv wv : Value} : ∀ (k i : Nat) (p : (Nat → Int32) × Int32) (h : AHp), i + k = N → MF h o p.1 B → YO p.1 C n cl ml k → ∃ h', Rf (d + 6) 172 53 [.ref o, .int (nI N), tv, wv, .int p.2, .int (nI i)] [] h = Rf (d + 6) 172 74 [.ref o, .int (nI N), tv, wv, .int (yK C ml n p k).2, .int (nI N)] [] h' ∧ MF h' o (yK C ml n p k).1 B ∧ MG h h' o := by
  intro k
  induction k with
  | zero =>
    intro i p h hi F Y
    have c1 : ¬ nI i < nI N := nI_nlt (by clear F; omega) (by clear F; omega)
    have e : i = N := by clear F; omega
    subst e
    exact ⟨h, by simp only [x172_53, x172_55, x172_56, c1, ↓reduceIte, yK], F, rfl, fun _ _ => rfl⟩
  | succ k ih =>
    intro i p h hi F Y
    have c1 : nI i < nI N := nI_lt (by clear F; omega) (by clear F; omega)
    obtain ⟨R', N', S', e1⟩ := sp_go (d := d) F Y.1 Y.2.1
    obtain ⟨Y1, u⟩ := YO_step Y
    have F1 : MF (rst (gst h o R' N' S') o (yrF p.1 C ml n)) o (yrF p.1 C ml n) B := MF_rst (MF_gst F R' N' S') _
    obtain ⟨h2, f1, f2, f3⟩ := ih (i + 1) (yS C ml n p) _ (by clear F F1; omega) F1 Y1
    refine ⟨h2, ?_, f2, f3.1, fun r hr => (f3.2 r hr).trans ?_⟩
    · rw [x172_53]
      simp only [x172_55, x172_56, x172_59, x172_61, x172_65, x172_66, x172_68, x172_71, xc172_62 F.1 e1, c1, nI_1, ↓reduceIte]
      exact f1
    · clear F F1 e1 f1 f2
      simp only [rst, gst, stk, gs2, hset_at]
      rw [if_neg (by omega), if_neg (by omega), if_neg (by omega), if_neg (by omega)]
def osb (h : AHp) (o : Nat) (O : Nat → Int32) : AHp := hset h (o + 6) (.inl (0, 22, .inl O))
theorem MF_osb (F : MF h o A B) (O : Nat → Int32) : MF (osb h o O) o A B := by
  simp only [MF, osb, hset_at, plus_ne o 1 6 (by decide), plus_ne o 2 6 (by decide), plus_ne o 3 6 (by decide), plus_ne o 4 6 (by decide), plus_ne o 5 6 (by decide), plus_ne o 7 6 (by decide), plus_ne0 o 6 (by decide), ↓reduceIte, aT_i, aN_i, aF_i, F, and_self]
theorem osb_osb {O P : Nat → Int32} : hset (osb h o O) (o + 6) (.inl (0, 22, .inl P)) = osb h o P := hset_hset
def kpF (A : Nat → Int32) (i : Nat) (O : Nat → Int32) : Nat → Int32 := upd (upd (fun j => if i ≤ j ∧ j < 10 then A (20 + j) else if 10 + i ≤ j ∧ j < 20 then A (50 + (j - 10)) else O j) 20 (A 5)) 21 (A 6)
theorem ix22 : inB 20 22 = true ∧ inB 21 22 = true ∧ (20 : Int32).toNatClampNeg = 20 ∧ (21 : Int32).toNatClampNeg = 21 := by decide +kernel
theorem lp_keep (F : MF h o A B) : ∀ (k i : Nat) (O : Nat → Int32), i + k = 10 → Rf d 170 2 [.ref o, .int (nI i)] [] (osb h o O) = some (none, osb h o (kpF A i O)) := by
  have o6 : ∀ O, aT ((osb h o O).1 (o + 6)) = 0 ∧ aN ((osb h o O).1 (o + 6)) = 22 ∧ aF ((osb h o O).1 (o + 6)) = O := fun O => by
    unfold osb
    rw [hset_at, if_pos rfl]
    exact ⟨rfl, rfl, rfl⟩
  intro k
  induction k with
  | zero =>
    intro i O hi
    have e0 : i = 10 := by clear F; omega
    subst e0
    have c1 : ¬ nI 10 < 10 := by decide
    have F1 := MF_osb F
    have ex : kpF A 10 O = upd (upd O 20 (A 5)) 21 (A 6) := by
      unfold kpF
      congr 2
      funext j
      rw [if_neg (by clear F F1; omega), if_neg (by clear F F1; omega)]
    rw [ex]
    simp only [x170_0, x170_1, x170_2, x170_3, x170_5, x170_8, x170_9, x170_12, x170_13, x170_14, x170_17, x170_19, x170_20, x170_21, x170_22, x170_23, x170_24, x170_27, x170_29, x170_30, x170_31, x170_32, x170_35, x170_37, x170_38, x170_39, x170_40, x170_41, x170_44, x170_47, x170_48, x170_51, x170_53, x170_54, x170_57, x170_58, x170_59, x170_60, x170_61, x170_64, x170_66, x170_67, x170_70, x170_72, x170_73, x170_74, F1, o6, c1, ixL, ix22, osb_osb, true_or, and_self, ↓reduceIte]
  | succ k ih =>
    intro i O hi
    have i10 : i < 10 := by clear F; omega
    have c1 : nI i < 10 := nI_lt (a := i) (b := 10) i10 (by decide)
    have c2 : inB (nI i) 22 = true := nI_inB (by clear F; omega) (by decide)
    have c3 : (nI i).toNatClampNeg = i := nI_clamp (by clear F; omega)
    have i20 : (20 : Int32) + nI i = nI (20 + i) ∧ inB (nI (20 + i)) 931 = true ∧ (nI (20 + i)).toNatClampNeg = 20 + i := ixs 20 i (by clear F; omega)
    have i50 : (50 : Int32) + nI i = nI (50 + i) ∧ inB (nI (50 + i)) 931 = true ∧ (nI (50 + i)).toNatClampNeg = 50 + i := ixs 50 i (by clear F; omega)
    have d1 : (10 : Int32) + nI i = nI (10 + i) := nI_add 10 i
    have d2 : inB (nI (10 + i)) 22 = true := nI_inB (by clear F; omega) (by decide)
    have d3 : (nI (10 + i)).toNatClampNeg = 10 + i := nI_clamp (by clear F; omega)
    have F1 := MF_osb F
    have e1 := ih (i + 1) (upd (upd O i (A (20 + i))) (10 + i) (A (50 + i))) (by clear F F1; omega)
    have ex : kpF A (i + 1) (upd (upd O i (A (20 + i))) (10 + i) (A (50 + i))) = kpF A i O := by
      unfold kpF
      congr 2
      funext j
      clear F F1 e1 ih
      by_cases z : j = i
      · subst z
        rw [if_neg (by omega), if_neg (by omega), if_pos (by omega), upd_at, if_neg (by omega), upd_at, if_pos rfl]
      · by_cases y : j = 10 + i
        · subst y
          rw [if_neg (by omega), if_neg (by omega), if_neg (by omega), if_pos (by omega), upd_at, if_pos rfl]
          congr 1
          omega
        · rw [upd_at, if_neg y, upd_at, if_neg z]
          by_cases x1 : i + 1 ≤ j ∧ j < 10
          · rw [if_pos x1, if_pos (by omega)]
          · have x3 : ¬ (i ≤ j ∧ j < 10) := by omega
            rw [if_neg x1, if_neg x3]
            by_cases x2 : 10 + (i + 1) ≤ j ∧ j < 20
            · rw [if_pos x2, if_pos (by omega)]
            · rw [if_neg x2, if_neg (by omega)]
    rw [ex] at e1
    rw [x170_2]
    simp only [x170_3, x170_5, x170_8, x170_9, x170_12, x170_13, x170_14, x170_17, x170_19, x170_20, x170_21, x170_22, x170_23, x170_24, x170_27, x170_29, x170_30, x170_31, x170_32, x170_35, x170_37, x170_38, x170_39, x170_40, x170_41, x170_44, F1, o6, c1, c2, c3, d1, d2, d3, i20, i50, osb_osb, nI_1, true_or, and_self, ↓reduceIte]
    exact e1
def agF (O : Nat → Int32) (i : Nat) (X : Nat → Int32) : Nat → Int32 := upd (upd (fun j => if 20 + i ≤ j ∧ j < 30 then O (j - 20) else if 50 + i ≤ j ∧ j < 60 then O (j - 40) else X j) 5 (O 20)) 6 (O 21)
theorem lp_again (F : MF h o A B) (hO : aF (h.1 (o + 6)) = O) : ∀ (k i : Nat) (X : Nat → Int32), i + k = 10 → Rf d 171 2 [.ref o, .int (nI i)] [] (rst h o X) = some (none, rst h o (agF O i X)) := by
  have o6 : ∀ X, aT ((rst h o X).1 (o + 6)) = 0 ∧ aN ((rst h o X).1 (o + 6)) = 22 ∧ aF ((rst h o X).1 (o + 6)) = O := fun X => by
    have e : (rst h o X).1 (o + 6) = h.1 (o + 6) := hset_ne (by clear F; omega)
    rw [e]
    exact ⟨by simp only [F], by simp only [F], hO⟩
  have F1 := MF_rst F
  intro k
  induction k with
  | zero =>
    intro i X hi
    have e0 : i = 10 := by clear F F1 o6; omega
    subst e0
    have c1 : ¬ nI 10 < 10 := by decide
    have ex : agF O 10 X = upd (upd X 5 (O 20)) 6 (O 21) := by
      unfold agF
      congr 2
      funext j
      rw [if_neg (by clear F F1 o6; omega), if_neg (by clear F F1 o6; omega)]
    rw [ex]
    simp only [x171_0, x171_1, x171_2, x171_3, x171_5, x171_8, x171_9, x171_12, x171_14, x171_15, x171_16, x171_17, x171_20, x171_21, x171_22, x171_23, x171_24, x171_27, x171_29, x171_30, x171_31, x171_32, x171_35, x171_37, x171_38, x171_39, x171_40, x171_41, x171_44, x171_47, x171_48, x171_51, x171_52, x171_53, x171_56, x171_58, x171_59, x171_60, x171_61, x171_64, x171_66, x171_67, x171_70, x171_72, x171_73, x171_74, F1, o6, c1, ixL, ix22, rst_rst, true_or, and_self, ↓reduceIte]
  | succ k ih =>
    intro i X hi
    have i10 : i < 10 := by clear F F1 o6; omega
    have c1 : nI i < 10 := nI_lt (a := i) (b := 10) i10 (by decide)
    have c2 : inB (nI i) 22 = true := nI_inB (by clear F F1 o6; omega) (by decide)
    have c3 : (nI i).toNatClampNeg = i := nI_clamp (by clear F F1 o6; omega)
    have i20 : (20 : Int32) + nI i = nI (20 + i) ∧ inB (nI (20 + i)) 931 = true ∧ (nI (20 + i)).toNatClampNeg = 20 + i := ixs 20 i (by clear F F1 o6; omega)
    have i50 : (50 : Int32) + nI i = nI (50 + i) ∧ inB (nI (50 + i)) 931 = true ∧ (nI (50 + i)).toNatClampNeg = 50 + i := ixs 50 i (by clear F F1 o6; omega)
    have d1 : (10 : Int32) + nI i = nI (10 + i) := nI_add 10 i
    have d2 : inB (nI (10 + i)) 22 = true := nI_inB (by clear F F1 o6; omega) (by decide)
    have d3 : (nI (10 + i)).toNatClampNeg = 10 + i := nI_clamp (by clear F F1 o6; omega)
    have e1 := ih (i + 1) (upd (upd X (20 + i) (O i)) (50 + i) (O (10 + i))) (by clear F F1 o6; omega)
    have ex : agF O (i + 1) (upd (upd X (20 + i) (O i)) (50 + i) (O (10 + i))) = agF O i X := by
      unfold agF
      congr 2
      funext j
      clear F F1 o6 e1 ih
      by_cases z : j = 20 + i
      · subst z
        rw [if_neg (by omega), if_neg (by omega), if_pos (by omega), upd_at, if_neg (by omega), upd_at, if_pos rfl]
        congr 1
        omega
      · by_cases y : j = 50 + i
        · subst y
          rw [if_neg (by omega), if_neg (by omega), if_neg (by omega), if_pos (by omega), upd_at, if_pos rfl]
          congr 1
          omega
        · rw [upd_at, if_neg y, upd_at, if_neg z]
          by_cases x1 : 20 + (i + 1) ≤ j ∧ j < 30
          · rw [if_pos x1, if_pos (by omega)]
          · have x3 : ¬ (20 + i ≤ j ∧ j < 30) := by omega
            rw [if_neg x1, if_neg x3]
            by_cases x2 : 50 + (i + 1) ≤ j ∧ j < 60
            · rw [if_pos x2, if_pos (by omega)]
            · rw [if_neg x2, if_neg (by omega)]
    rw [ex] at e1
    rw [x171_2]
    simp only [x171_3, x171_5, x171_8, x171_9, x171_12, x171_14, x171_15, x171_16, x171_17, x171_20, x171_21, x171_22, x171_23, x171_24, x171_27, x171_29, x171_30, x171_31, x171_32, x171_35, x171_37, x171_38, x171_39, x171_40, x171_41, x171_44, F1, o6, c1, c2, c3, d1, d2, d3, i20, i50, rst_rst, nI_1, true_or, and_self, ↓reduceIte]
    exact e1
theorem sp_myears (M : MM h o A B im rn T) (R : RG A n) (Z : MH A C cl ml) (H : HR ml) (Y : YB A) (hN : N ≤ 20) (ht : t ≤ 3) {x : Int32} (hx : ¬ x < 0 ∧ ¬ 2 < x) : ∃ h', Rf (d + 7) 172 0 [.ref o, .int (nI N), .int (nI t), .int x, noV, noV] [] h = some (some (.int (yV A C ml n N t x)), h') ∧ MM h' o A B im rn T ∧ ME h h' o := by
  have F := M.1
  have t1 : ¬ nI t < 0 ∧ ¬ 3 < nI t := ⟨nI_pos (by clear F; omega), nI_nlt (a := 3) (b := t) (by clear F; omega) (by clear F; omega)⟩
  have n1 : ¬ nI N < 0 ∧ ¬ 20 < nI N := ⟨nI_pos (by clear F; omega), nI_nlt (a := 20) (b := N) (by clear F; omega) (by clear F; omega)⟩
  generalize hO0 : aF (h.1 (o + 6)) = O0
  have h6 : h.1 (o + 6) = .inl (0, 22, .inl O0) := by
    have := cell_eq (c := h.1 (o + 6)) (t := 0) (by simp only [F]) (by decide)
    rw [show aN (h.1 (o + 6)) = 22 by simp only [F], hO0] at this
    exact this
  have hr6 : osb h o O0 = h := hset_self h6
  have k1 := lp_keep (d := d + 6) F 10 0 O0 (by decide)
  rw [hr6, nI_0] at k1
  generalize hOk : kpF A 0 O0 = Ok at k1
  have v1 : ∀ j, j < 10 → Ok j = A (20 + j) ∧ Ok (10 + j) = A (50 + j) := fun j hj => by
    clear F k1
    rw [← hOk]
    unfold kpF
    constructor
    · rw [upd_at, if_neg (by omega), upd_at, if_neg (by omega), if_pos ⟨by omega, hj⟩]
    · rw [upd_at, if_neg (by omega), upd_at, if_neg (by omega), if_neg (by omega), if_pos ⟨by omega, by omega⟩, Nat.add_sub_cancel_left]
  have v2 : Ok 20 = A 5 ∧ Ok 21 = A 6 := by
    rw [← hOk]
    unfold kpF
    exact ⟨by rw [upd_at, if_neg (by decide), upd_at, if_pos rfl], by rw [upd_at, if_pos rfl]⟩
  have e0 : Rf (d + 6) 170 0 [.ref o, noV] [] h = some (none, osb h o Ok) := by
    simp only [x170_0, x170_1]
    exact k1
  have F1 := MF_osb F Ok
  have F2 := MF_rst F1 (upd A 5 (nI t))
  obtain ⟨h2, f1, f2, f3⟩ := lp_mgo (d := d + 1) (tv := .int (nI t)) (wv := .int x) hN N 0 (upd A 5 (nI t), 0) _ (by clear F F1 F2; omega) F2 (YO_0 R Z H Y ht hN)
  obtain ⟨Y3, u3⟩ := yK_ok N (upd A 5 (nI t), 0) (YO_0 R Z H Y ht hN)
  have hP : yK C ml n (upd A 5 (nI t), 0) N = yP A C ml n N t := rfl
  rw [hP] at f1 f2 Y3 u3
  have eo : (rst (osb h o Ok) o (upd A 5 (nI t))).1 o = h.1 o := (hset_ne (by clear F F1 F2 f2; omega)).trans (hset_ne (by clear F F1 F2 f2; omega))
  have e7 : (rst (osb h o Ok) o (upd A 5 (nI t))).1 (o + 7) = h.1 (o + 7) := (hset_ne (by clear F F1 F2 f2; omega)).trans (hset_ne (by clear F F1 F2 f2; omega))
  have e6 : aF (h2.1 (o + 6)) = Ok := by
    rw [f3.2 _ (by clear F F1 F2 f2; omega), rst, hset_ne (by clear F F1 F2 f2; omega), osb, hset_at, if_pos rfl]
    rfl
  have c1 : rst h2 o (yP A C ml n N t).1 = h2 := by
    have := cell_eq (c := h2.1 (o + 1)) (t := 0) (by simp only [f2]) (by decide)
    rw [show aN (h2.1 (o + 1)) = 931 by simp only [f2], show aF (h2.1 (o + 1)) = (yP A C ml n N t).1 by simp only [f2]] at this
    exact hset_self this
  have a1 := lp_again (d := d + 6) f2 e6 10 0 (yP A C ml n N t).1 (by decide)
  rw [c1, nI_0] at a1
  have ex : agF Ok 0 (yP A C ml n N t).1 = A := by
    funext j
    clear F F1 F2 f2 a1 c1 e0 f1 e6
    unfold agF
    rw [v2.1, v2.2]
    by_cases y6 : j = 6
    · subst y6; rw [upd_at, if_pos rfl]
    · rw [upd_at, if_neg y6]
      by_cases y5 : j = 5
      · subst y5; rw [upd_at, if_pos rfl]
      · rw [upd_at, if_neg y5]
        by_cases x1 : 20 + 0 ≤ j ∧ j < 30
        · rw [if_pos x1, (v1 (j - 20) (by omega)).1]
          congr 1
          omega
        · rw [if_neg x1]
          by_cases x2 : 50 + 0 ≤ j ∧ j < 60
          · rw [if_pos x2, show j - 40 = 10 + (j - 50) by omega, (v1 (j - 50) (by omega)).2]
            congr 1
            omega
          · rw [if_neg x2, u3 j y6 (by omega) (by omega)]
            exact if_neg y5
  rw [ex] at a1
  have a2 : Rf (d + 6) 171 0 [.ref o, noV] [] h2 = some (none, rst h2 o A) := by
    simp only [x171_0, x171_1]
    exact a1
  rw [nI_0] at f1
  have g1 := sp_mpays (d := d + 6) f2 Y3.1
  have g2 := sp_mgap (d := d + 6) f2 Y3.1
  refine ⟨rst h2 o A, ?_, ⟨MF_rst f2 A, ?_, ?_, ?_⟩, f3.1, ?_⟩
  · have f1' : Rf (d + 7) 172 53 [.ref o, .int (nI N), .int (nI t), .int x, .int 0, .int 0] [] (rst (osb h o Ok) o (upd A 5 (nI t))) = Rf (d + 7) 172 74 [.ref o, .int (nI N), .int (nI t), .int x, .int (yP A C ml n N t).2, .int (nI N)] [] h2 := f1
    have e0' : Rf (d + 7) 172 0 [.ref o, .int (nI N), .int (nI t), .int x, noV, noV] [] h = Rf (d + 7) 172 74 [.ref o, .int (nI N), .int (nI t), .int x, .int (yP A C ml n N t).2, .int (nI N)] [] h2 := by
      simp only [x172_0, x172_1, x172_2, x172_6, x172_9, x172_10, x172_11, x172_15, x172_18, x172_21, x172_22, x172_23, x172_24, x172_29, x172_32, x172_35, x172_36, x172_40, x172_41, x172_44, x172_45, x172_46, x172_47, x172_48, x172_50, x172_51, xc172_3 (sp_mwithin (d := d + 6)), xc172_12 (sp_mwithin (d := d + 6)), xc172_26 (sp_mwithin (d := d + 6)), xc172_37 F.1 e0, F1, ixL, b2_0, t1, n1, hx, rst_fold, true_or, not_true_eq_false, not_false_eq_true, and_self, ↓reduceIte]
      exact f1'
    rw [e0']
    unfold yV
    by_cases x0 : x = 0
    · simp only [x172_74, x172_75, x172_78, x172_82, x172_85, x172_86, x172_87, x172_90, x172_92, x172_95, x172_99, x172_101, x172_105, x172_107, xc172_79 f2.1 g1, xc172_102 f2.1 a2, x0, ↓reduceIte]
    · by_cases x1 : x = 1
      · simp only [x172_74, x172_75, x172_78, x172_82, x172_85, x172_86, x172_87, x172_90, x172_92, x172_95, x172_99, x172_101, x172_105, x172_107, xc172_102 f2.1 a2, x0, x1, l06, ↓reduceIte]
      · simp only [x172_74, x172_75, x172_78, x172_82, x172_85, x172_86, x172_87, x172_90, x172_92, x172_95, x172_99, x172_101, x172_105, x172_107, xc172_96 f2.1 g2, xc172_102 f2.1 a2, x0, x1, ↓reduceIte]
  · have : (rst h2 o A).1 o = h.1 o := (hset_ne (by clear F F1 F2 f2; omega)).trans ((f3.2 o (by clear F F1 F2 f2; omega)).trans eo)
    rw [this]; exact M.2.1
  · have : (rst h2 o A).1 o = h.1 o := (hset_ne (by clear F F1 F2 f2; omega)).trans ((f3.2 o (by clear F F1 F2 f2; omega)).trans eo)
    rw [this]; exact M.2.2.1
  · have : (rst h2 o A).1 (o + 7) = h.1 (o + 7) := (hset_ne (by clear F F1 F2 f2; omega)).trans ((f3.2 _ (by clear F F1 F2 f2; omega)).trans e7)
    rw [this]; exact M.2.2.2
  · intro p hp
    clear F F1 F2 f2
    exact (hset_ne (by omega)).trans ((f3.2 p (by omega)).trans ((hset_ne (by omega)).trans (hset_ne (by omega))))
theorem pr_years (G : GI h) {x y z : Int32} : PR h 105 172 [.ref 32, .int x, .int y, .int z, noV] [.ref 128, .int x, .int y, .int z, noV, noV] := by
  obtain ⟨A, B, im, rn, T, n, C, cl, ml, q, kn, n2, C2, cl2, ml2, q2, kn2, G⟩ := G
  have S := G.2.2.2.1
  obtain ⟨F, K, D, R, Q, H, Mh, HRm, DD, l1, l2⟩ := G.2.2.2.1
  have X0 := G.1
  by_cases hy : ¬ y < 0 ∧ ¬ 3 < y
  rotate_left
  · exact PR_ro (dc := 9) (dm := 9) (v := -10001) (by simp only [x105_0, x105_1, x105_5, x105_8, x105_9, x105_13, x105_16, x105_19, x105_20, x105_21, x105_26, x105_29, x105_32, x105_33, x105_34, x105_35, x105_39, x105_41, x105_42, x105_45, x105_46, x105_52, x105_53, x105_54, x105_55, x105_58, x105_60, x105_63, x105_64, x105_70, xc105_2 (sp_within (d := 8)), xc105_10 (sp_within (d := 8)), xc105_23 (sp_within (d := 8)), b2_0, hy, not_false_eq_true, and_self, ↓reduceIte]) (by simp only [x172_0, x172_1, x172_2, x172_6, x172_9, x172_10, x172_11, x172_15, x172_18, x172_21, x172_22, x172_23, x172_24, x172_29, x172_32, x172_35, xc172_3 (sp_mwithin (d := 8)), xc172_12 (sp_mwithin (d := 8)), xc172_26 (sp_mwithin (d := 8)), b2_0, hy, not_false_eq_true, and_self, ↓reduceIte]) (by decide) (by decide) G (same2 rfl)
  by_cases hz : ¬ z < 0 ∧ ¬ 2 < z
  rotate_left
  · exact PR_ro (dc := 9) (dm := 9) (v := -10001) (by simp only [x105_0, x105_1, x105_5, x105_8, x105_9, x105_13, x105_16, x105_19, x105_20, x105_21, x105_26, x105_29, x105_32, x105_33, x105_34, x105_35, x105_39, x105_41, x105_42, x105_45, x105_46, x105_52, x105_53, x105_54, x105_55, x105_58, x105_60, x105_63, x105_64, x105_70, xc105_2 (sp_within (d := 8)), xc105_10 (sp_within (d := 8)), xc105_23 (sp_within (d := 8)), b2_0, hy, hz, not_true_eq_false, not_false_eq_true, and_self, ↓reduceIte]) (by simp only [x172_0, x172_1, x172_2, x172_6, x172_9, x172_10, x172_11, x172_15, x172_18, x172_21, x172_22, x172_23, x172_24, x172_29, x172_32, x172_35, xc172_3 (sp_mwithin (d := 8)), xc172_12 (sp_mwithin (d := 8)), xc172_26 (sp_mwithin (d := 8)), b2_0, hy, hz, not_true_eq_false, not_false_eq_true, and_self, ↓reduceIte]) (by decide) (by decide) G (same2 rfl)
  by_cases hx : ¬ x < 0 ∧ ¬ 20 < x
  rotate_left
  · exact PR_ro (dc := 9) (dm := 9) (v := -10002) (by simp only [x105_0, x105_1, x105_5, x105_8, x105_9, x105_13, x105_16, x105_19, x105_20, x105_21, x105_26, x105_29, x105_32, x105_33, x105_34, x105_35, x105_39, x105_41, x105_42, x105_45, x105_46, x105_52, x105_53, x105_54, x105_55, x105_58, x105_60, x105_63, x105_64, x105_70, xc105_2 (sp_within (d := 8)), xc105_10 (sp_within (d := 8)), xc105_23 (sp_within (d := 8)), b2_0, hx, hy, hz, not_true_eq_false, not_false_eq_true, and_self, ↓reduceIte]) (by simp only [x172_0, x172_1, x172_2, x172_6, x172_9, x172_10, x172_11, x172_15, x172_18, x172_21, x172_22, x172_23, x172_24, x172_29, x172_32, x172_35, xc172_3 (sp_mwithin (d := 8)), xc172_12 (sp_mwithin (d := 8)), xc172_26 (sp_mwithin (d := 8)), b2_0, hx, hy, hz, not_true_eq_false, not_false_eq_true, and_self, ↓reduceIte]) (by decide) (by decide) G (same2 rfl)
  obtain ⟨N, hN, rfl⟩ := nI_of2 (M := 20) (n := 20) (by decide) hx.1 (Int32.not_lt.mp hx.2)
  obtain ⟨t, ht, rfl⟩ := nI_of2 (M := 3) (n := 3) (by decide) hy.1 (Int32.not_lt.mp hy.2)
  obtain ⟨A3, q3, kn3, f3⟩ := G.2.2.2.2.2.1
  obtain ⟨h1, e1, g1, o1⟩ := sp_try (d := 1) X0 S f3 hN ht
  have G1 := GX_T G g1 o1
  obtain ⟨h2, e2, M2, E2⟩ := sp_myears (d := 2) G1.2.2.2.2.2.2.2.2.1 R Mh HRm.1 HRm.2 hN ht hz
  have Y3 := (yK_ok N (upd A 5 (nI t), 0) (YO_0 R Mh HRm.1 HRm.2 ht hN)).1
  have p1 := sp_allPay (d := 8) g1 Y3.1
  have p2 := sp_gap (d := 7) g1 Y3.1
  have X1 := G1.1
  refine PR_of (h1 := h1) (dc := 9) (dm := 9) (v := yV A C ml n N t z) ?_ e2 (by decide) (by decide) (GX_M G1 M2 E2) (same2 (E2.1.trans o1.1))
  unfold yV
  by_cases x0 : z = 0
  · simp only [x105_0, x105_1, x105_5, x105_8, x105_9, x105_13, x105_16, x105_19, x105_20, x105_21, x105_26, x105_29, x105_32, x105_33, x105_34, x105_35, x105_39, x105_41, x105_42, x105_45, x105_46, x105_52, x105_53, x105_54, x105_55, x105_58, x105_60, x105_63, x105_64, x105_70, xc105_2 (sp_within (d := 8)), xc105_10 (sp_within (d := 8)), xc105_23 (sp_within (d := 8)), xc105_36 X0.1 e1, xc105_49 g1.1 p1, X0, X1, x0, b2_0, hx, hy, l06, show ¬ (2 : Int32) < 0 from by decide, not_true_eq_false, not_false_eq_true, and_self, ↓reduceIte]
  · by_cases x1 : z = 1
    · simp only [x105_0, x105_1, x105_5, x105_8, x105_9, x105_13, x105_16, x105_19, x105_20, x105_21, x105_26, x105_29, x105_32, x105_33, x105_34, x105_35, x105_39, x105_41, x105_42, x105_45, x105_46, x105_52, x105_53, x105_54, x105_55, x105_58, x105_60, x105_63, x105_64, x105_70, xc105_2 (sp_within (d := 8)), xc105_10 (sp_within (d := 8)), xc105_23 (sp_within (d := 8)), xc105_36 X0.1 e1, X0, X1, x0, x1, b2_0, hx, hy, l06, show ¬ (1 : Int32) < 0 from by decide, show ¬ (2 : Int32) < 1 from by decide, not_true_eq_false, not_false_eq_true, and_self, ↓reduceIte]
    · simp only [x105_0, x105_1, x105_5, x105_8, x105_9, x105_13, x105_16, x105_19, x105_20, x105_21, x105_26, x105_29, x105_32, x105_33, x105_34, x105_35, x105_39, x105_41, x105_42, x105_45, x105_46, x105_52, x105_53, x105_54, x105_55, x105_58, x105_60, x105_63, x105_64, x105_70, xc105_2 (sp_within (d := 8)), xc105_10 (sp_within (d := 8)), xc105_23 (sp_within (d := 8)), xc105_36 X0.1 e1, xc105_67 g1.1 p2, X0, X1, x0, x1, b2_0, hx, hy, hz, not_true_eq_false, not_false_eq_true, and_self, ↓reduceIte]
end YT
