-- deps: 39.mgo
/-! A YEAR of the class. -/
theorem cell_eq {c : va_E} {t : Nat} (h : aT c = t) (h1 : t < 90) : c = .inl (t, aN c, .inl (aF c)) := by
  unfold aT at h
  split at h
  · next a =>
    obtain ⟨x, y, z⟩ := a
    simp only at h
    split at h
    · subst h
      rfl
    · omega
  · omega
theorem hset_self {h : AHp} {p : Nat} {c : va_E} (e : h.1 p = c) : hset h p c = h := by
  unfold hset
  refine Prod.ext (funext fun q => ?_) rfl
  simp only
  split
  · next z => rw [z]; exact e.symm
  · rfl
section MG2
variable {d o n cl : Nat} {A B C : Nat → Int32} {h : AHp} {ml : List Cl}
theorem gst_self (F : MF h o A B) : ∃ R N S, h = gst h o R N S := by
  refine ⟨aF (h.1 (o + 4)), aF (h.1 (o + 5)), aF (h.1 (o + 3)), ?_⟩
  have e4 := cell_eq (c := h.1 (o + 4)) (t := 0) (by simp only [F]) (by decide)
  have e5 := cell_eq (c := h.1 (o + 5)) (t := 0) (by simp only [F]) (by decide)
  have e3 := cell_eq (c := h.1 (o + 3)) (t := 0) (by simp only [F]) (by decide)
  have n4 : aN (h.1 (o + 4)) = 10 := by simp only [F]
  have n5 : aN (h.1 (o + 5)) = 10 := by simp only [F]
  have n3 : aN (h.1 (o + 3)) = 101 := by simp only [F]
  rw [n4] at e4
  rw [n5] at e5
  rw [n3] at e3
  unfold gst stk gs2
  rw [hset_self e4, hset_self e5, hset_self e3]
theorem rst_self (F : MF h o A B) : h = rst h o A := by
  have e := cell_eq (c := h.1 (o + 1)) (t := 0) (by simp only [F]) (by decide)
  have n1 : aN (h.1 (o + 1)) = 931 := by simp only [F]
  have n2 : aF (h.1 (o + 1)) = A := by simp only [F]
  rw [n1, n2] at e
  exact (hset_self e).symm
theorem sp_go (F : MF h o A B) (R : RG A n) (Z : MH A C cl ml) : ∃ R' N' S', Rf (d + 5) 168 0 [.ref o, noV, noV, noV, noV, noV] [] h = some (some (.int (lfF A C ml n 0 0 n)), rst (gst h o R' N' S') o (yrF A C ml n)) := by
  have hn := R.1
  obtain ⟨Rw, Nx, S, hh⟩ := gst_self F
  obtain ⟨v3, v4, v5, R', N', S', hj, e1⟩ := go_told (d := d) F R Z n 0 0 noV noV noV Rw Nx S (by omega) (fun j hj => by omega)
  refine ⟨R', N', S', ?_⟩
  rw [← hh, nI_0] at e1
  have e2 := lp_done (d := d + 5) (C := C) (ml := ml) (MF_gst F R' N' S') R.2.1 hn (gstF R' N' S') hj (l := lfF A C ml n 0 0 n) (v3 := v3) (v4 := v4) (v5 := v5) n 0 A (by omega) R.2.1 rfl
  rw [nI_0, ← rst_self (MF_gst F R' N' S')] at e2
  simp only [x168_0, x168_1, x168_2, x168_3]
  rw [e1, e2]
  rfl
end MG2
def ys2 (h : AHp) (o : Nat) (N L : Nat → Int32) : AHp := hset (hset h (o + 9) (.inl (0, 10, .inl N))) (o + 10) (.inl (2, 10, .inl L))
def yst (h : AHp) (o : Nat) (S N L : Nat → Int32) : AHp := fst (ys2 h o N L) o S
section YC
variable {d o q n cl : Nat} {kn : Nat → Nat} {A B C S N L X : Nat → Int32} {h : AHp} {ml : List Cl}
theorem OF_ys2 (F : OF h o A q kn) (N L : Nat → Int32) : OF (ys2 h o N L) o A q kn := by
  simp only [OF, ys2, hset_at, plus_ne o 1 9 (by decide), plus_ne o 2 9 (by decide), plus_ne o 3 9 (by decide), plus_ne o 4 9 (by decide), plus_ne o 5 9 (by decide), plus_ne o 6 9 (by decide), plus_ne o 7 9 (by decide), plus_ne o 8 9 (by decide), plus_ne o 10 9 (by decide), plus_ne o 1 10 (by decide), plus_ne o 2 10 (by decide), plus_ne o 3 10 (by decide), plus_ne o 4 10 (by decide), plus_ne o 5 10 (by decide), plus_ne o 6 10 (by decide), plus_ne o 7 10 (by decide), plus_ne o 8 10 (by decide), plus_ne o 9 10 (by decide), plus_ne0 o 9 (by decide), plus_ne0 o 10 (by decide), ↓reduceIte, aT_i, aN_i, F, and_self]
theorem OF_yst (F : OF h o A q kn) (S N L : Nat → Int32) : OF (yst h o S N L) o A q kn := OF_fst (OF_ys2 F N L) S
theorem ystF (S N L : Nat → Int32) : aT ((yst h o S N L).1 (o + 9)) = 0 ∧ aN ((yst h o S N L).1 (o + 9)) = 10 ∧ aF ((yst h o S N L).1 (o + 9)) = N ∧ aT ((yst h o S N L).1 (o + 10)) = 2 ∧ aN ((yst h o S N L).1 (o + 10)) = 10 ∧ aF ((yst h o S N L).1 (o + 10)) = L := by
  simp only [yst, fst, ys2, hset_at, plus_ne o 9 8 (by decide), plus_ne o 10 8 (by decide), plus_ne o 9 10 (by decide), ↓reduceIte, aT_i, aN_i, aF_i, and_self]
theorem yst_9 {T : Nat → Int32} : hset (yst h o S N L) (o + 9) (.inl (0, 10, .inl T)) = yst h o S T L := by
  unfold yst fst ys2
  rw [hset_comm (by simp), hset_comm (p := o + 10) (q := o + 9) (by simp), hset_hset]
theorem yst_10 {T : Nat → Int32} : hset (yst h o S N L) (o + 10) (.inl (2, 10, .inl T)) = yst h o S N T := by
  unfold yst fst ys2
  rw [hset_comm (by simp), hset_hset]
theorem ys2_ne {p : Nat} (hp : p < o ∨ o + 10 < p) (N L : Nat → Int32) : (ys2 h o N L).1 p = h.1 p := by
  unfold ys2
  rw [hset_at, if_neg (by omega), hset_at, if_neg (by omega)]
theorem yst_ne {p : Nat} (hp : p < o ∨ o + 10 < p) (S N L : Nat → Int32) : (yst h o S N L).1 p = h.1 p := by
  unfold yst
  rw [fst_ne (by omega), ys2_ne hp]
theorem HO_ne {h' : AHp} (H : HO h q C cl ml) (hq : ∀ p, q ≤ p → p ≤ q + 5 → h'.1 p = h.1 p) : HO h' q C cl ml := by
  obtain ⟨W, N, E, F, Z⟩ := H
  refine ⟨W, N, E, ?_, Z⟩
  simp only [HF, hq q (by omega) (by omega), hq (q + 2) (by omega) (by omega), hq (q + 3) (by omega) (by omega), hq (q + 4) (by omega) (by omega), hq (q + 5) (by omega) (by omega), F, and_self]
theorem KN_ne {h' : AHp} (K : KN h A kn) (hq : ∀ j, j < 10 → h'.1 (kn j) = h.1 (kn j)) : KN h' A kn := fun j hj => by rw [hq j hj]; exact K j hj
theorem nar_b : vp_nar .boolean 1 = 1 ∧ vp_nar .boolean 0 = 0 := by decide
theorem gy_step (F : OF h o A q kn) (K : KN h A kn) (R : RG A n) (P : AP o q kn) (H : HO h q C cl ml) {w : Nat} (hw : w < n) {v2 v3 v4 : Value} : ∃ S' v2' v3' v4', Rf (d + 5) 61 2 [.ref o, .int (nI w), v2, v3, v4] [] (yst h o S N L) = Rf (d + 5) 61 2 [.ref o, .int (nI (w + 1)), v2', v3', v4'] [] (yst h o S' (upd N w (npF A C ml n w)) (upd L w (if dnF A C ml n w = 2 then 1 else 0))) := by
  have hn := R.1
  have h0 := R.2.1
  have hw10 : w < 10 := by omega
  have c1 : nI w < nI n := nI_lt hw (by omega)
  have c2 : inB (nI w) 10 = true := nI_inB hw10 (by decide)
  have c3 : (nI w).toNatClampNeg = w := nI_clamp (by omega)
  have F1 := OF_yst F
  have F2 := OF_ys2 F
  have K2 : ∀ N L, KN (ys2 h o N L) A kn := fun N L => KN_ne K (fun j hj => ys2_ne (P.2 j hj) N L)
  have K1 : ∀ S N L, KN (yst h o S N L) A kn := fun S N L => KN_ne K (fun j hj => yst_ne (P.2 j hj) S N L)
  have H2 : ∀ N L, HO (ys2 h o N L) q C cl ml := fun N L => HO_ne H (fun p h1 h2 => ys2_ne (by have := P.1; omega) N L)
  have H1 : ∀ S N L, HO (yst h o S N L) q C cl ml := fun S N L => HO_ne H (fun p h1 h2 => yst_ne (by have := P.1; omega) S N L)
  obtain ⟨S1, e1⟩ := sp_offerTo (d := d + 1) (S := S) (F2 N L) (K2 N L) R P (H2 N L) hw
  obtain ⟨S2, e2⟩ := sp_wishOf (d := d + 1) (S := S1) (F2 N L) (K2 N L) R P (H2 N L) hw
  have e3 := sp_beliefOf (d := d) (F1 S2 N L) (K1 S2 N L) R hw
  have e4 := sp_doneFor (d := d + 3) (F1 S2 N L) R (H1 S2 N L) hw (b := beF A n w) (of := ofF A C ml w) (wi := wiF A C ml w)
  have e4' : Rf (d + 4) 60 0 [.ref o, .int (nI w), .int (beF A n w), .int (ofF A C ml w), .int (wiF A C ml w), noV] [] (yst h o S2 N L) = some (some (.int (dnF A C ml n w)), yst h o S2 N L) := e4
  have e5 := fun L => sp_payBehind (d := d + 3) (F1 S2 N L) R (H1 S2 N L) hw (dn := dnF A C ml n w) (of := ofF A C ml w) (wi := wiF A C ml w)
  refine ⟨S2, .int (ofF A C ml w), .int (wiF A C ml w), .int (dnF A C ml n w), ?_⟩
  rw [x61_2]
  by_cases hd : dnF A C ml n w = 2
  · simp only [x61_3, x61_4, x61_7, x61_10, x61_11, x61_15, x61_16, x61_17, x61_21, x61_22, x61_23, x61_24, x61_25, x61_29, x61_30, x61_34, x61_36, x61_37, x61_40, x61_41, x61_43, x61_44, x61_47, x61_48, x61_51, x61_52, x61_53, x61_54, x61_57, x61_58, x61_59, x61_60, x61_62, x61_63, x61_67, x61_68, x61_71, xc61_12 (F1 _ _ _).1 e1, xc61_18 (F1 _ _ _).1 e2, xc61_26 (F1 _ _ _).1 e3, xc61_31 (F1 _ _ _).1 e4', F1, h0, c1, c2, c3, show ∀ S N L, fst (ys2 h o N L) o S = yst h o S N L from fun _ _ _ => rfl, ystF, yst_9, yst_10, nI_1, and_self, ↓reduceIte, show ¬ ((2 : Nat) = 1) from by decide, false_and, nar_b, hd]
    rw [hd] at e5
    simp only [xc61_64 (F1 _ _ _).1 (e5 _), x61_67, x61_68, x61_71, F1, ystF, yst_9, c2, c3, nI_1, and_self, ↓reduceIte, npF, hd]
  · simp only [x61_3, x61_4, x61_7, x61_10, x61_11, x61_15, x61_16, x61_17, x61_21, x61_22, x61_23, x61_24, x61_25, x61_29, x61_30, x61_34, x61_36, x61_37, x61_40, x61_41, x61_43, x61_44, x61_47, x61_48, x61_51, x61_52, x61_53, x61_54, x61_57, x61_58, x61_59, x61_60, x61_62, x61_63, x61_67, x61_68, x61_71, xc61_12 (F1 _ _ _).1 e1, xc61_18 (F1 _ _ _).1 e2, xc61_26 (F1 _ _ _).1 e3, xc61_31 (F1 _ _ _).1 e4', xc61_64 (F1 _ _ _).1 (e5 _), F1, h0, c1, c2, c3, show ∀ S N L, fst (ys2 h o N L) o S = yst h o S N L from fun _ _ _ => rfl, ystF, yst_9, yst_10, nI_1, and_self, ↓reduceIte, show ¬ ((2 : Nat) = 1) from by decide, false_and, nar_b, hd, npF]
theorem gy_told (F : OF h o A q kn) (K : KN h A kn) (R : RG A n) (P : AP o q kn) (H : HO h q C cl ml) : ∀ (k w : Nat) (v2 v3 v4 : Value) (S N L : Nat → Int32), w + k = n → (∀ j, j < w → N j = npF A C ml n j ∧ L j = if dnF A C ml n j = 2 then 1 else 0) → ∃ v3' v4' S' N' L', (∀ j, j < n → N' j = npF A C ml n j ∧ L' j = if dnF A C ml n j = 2 then 1 else 0) ∧ Rf (d + 5) 61 2 [.ref o, .int (nI w), v2, v3, v4] [] (yst h o S N L) = Rf (d + 5) 61 78 [.ref o, .int 0, .int 0, v3', v4'] [] (yst h o S' N' L') := by
  have hn := R.1
  have h0 := R.2.1
  have F1 := OF_yst F
  intro k
  induction k with
  | zero =>
    intro w v2 v3 v4 S N L hw hj
    have c1 : ¬ nI w < nI n := nI_nlt (by omega) (by omega)
    refine ⟨v3, v4, S, N, L, fun j h => hj j (by omega), ?_⟩
    simp only [x61_2, x61_3, x61_4, x61_7, x61_74, x61_75, x61_76, x61_77, F1, h0, c1, and_self, ↓reduceIte]
  | succ k ih =>
    intro w v2 v3 v4 S N L hw hj
    obtain ⟨S1, w2, w3, w4, e1⟩ := gy_step (d := d) (S := S) (N := N) (L := L) (v2 := v2) (v3 := v3) (v4 := v4) F K R P H (w := w) (by omega)
    obtain ⟨u3, u4, S', N', L', e2, e3⟩ := ih (w + 1) w2 w3 w4 S1 (upd N w (npF A C ml n w)) (upd L w (if dnF A C ml n w = 2 then 1 else 0)) (by omega) (fun j hj2 => by
      by_cases z : j = w
      · subst z; exact ⟨if_pos rfl, if_pos rfl⟩
      · rw [upd_at, if_neg z, upd_at, if_neg z]; exact hj j (by omega))
    exact ⟨u3, u4, S', N', L', e2, e1.trans e3⟩
/-- the office's rows and the whole row, a PAY or a friend put anew -/
theorem sitK_out {k : Nat} {v : Int32} (h1 : k < 10 ∨ 20 ≤ k) (x : Int32) : ∀ (j w : Nat), w + j ≤ 10 → sitK (upd A k v) x w j = sitK A x w j := by
  intro j
  induction j with
  | zero => intro w _; rfl
  | succ j ih =>
    intro w hw
    have e1 : upd A k v (10 + w) = A (10 + w) := by rw [upd_at, if_neg (by omega)]
    unfold sitK
    rw [e1, ih (w + 1) (by omega)]
theorem wat_out {k : Nat} {v : Int32} (h : A 0 = nI n) (hn : n ≤ 10) (h0 : ¬ k = 0) (h1 : k < 10 ∨ 20 ≤ k) : wat (upd A k v) = wat A := by
  funext d
  unfold wat sit
  have e1 : upd A k v 0 = A 0 := by rw [upd_at, if_neg (fun z => h0 z.symm)]
  rw [e1, h, nI_clamp (by omega)]
  rw [sitK_out h1 (nI d) n 0 (by omega)]
theorem frR_out {k : Nat} {v : Int32} (h1 : k < 50 ∨ 60 ≤ k) : frR (upd A k v) = frR A := by
  funext j
  unfold frR
  by_cases hj : j < 10
  · rw [if_pos hj, if_pos hj, upd_at, if_neg (by omega)]
  · rw [if_neg hj, if_neg hj]
theorem frR_in {w : Nat} {v : Int32} (hw : w < 10) : upd (frR A) w (frF v) = frR (upd A (50 + w) v) := by
  funext j
  unfold frR
  by_cases hj : j = w
  · subst hj
    rw [upd_at, if_pos rfl, if_pos hw, upd_at, if_pos rfl]
  · rw [upd_at, if_neg hj]
    by_cases h2 : j < 10
    · rw [if_pos h2, if_pos h2, upd_at, if_neg (by omega)]
    · rw [if_neg h2, if_neg h2]
theorem KN_upd (K : KN h A kn) {k : Nat} {v : Int32} (hk : k < 60 ∨ 80 ≤ k) : KN h (upd A k v) kn := fun j hj => by
  rw [upd_at, if_neg (by omega), upd_at, if_neg (by omega)]
  exact K j hj
theorem OF_pay (F : OF h o A q kn) (h0 : A 0 = nI n) (hn : n ≤ 10) {w : Nat} (hw : w < 10) (v : Int32) : OF (hset h (o + 3) (.inl (0, 10, .inl (sub (upd A (20 + w) v) 20 10)))) o (upd A (20 + w) v) q kn := by
  have e0 : upd A (20 + w) v 0 = A 0 := if_neg (by omega)
  have e1 : upd A (20 + w) v 1 = A 1 := if_neg (by omega)
  have e5 : upd A (20 + w) v 5 = A 5 := if_neg (by omega)
  have e6 : upd A (20 + w) v 6 = A 6 := if_neg (by omega)
  simp only [OF, hset_at, plus_ne o 1 3 (by decide), plus_ne o 2 3 (by decide), plus_ne o 4 3 (by decide), plus_ne o 5 3 (by decide), plus_ne o 6 3 (by decide), plus_ne o 7 3 (by decide), plus_ne o 8 3 (by decide), plus_ne o 9 3 (by decide), plus_ne o 10 3 (by decide), plus_ne0 o 3 (by decide), ↓reduceIte, aT_i, aN_i, aF_i, F, e0, e1, e5, e6, sub_out (A := A) (b := 10) (n := 10) (k := 20 + w) (x := v) (by omega), sub_out (A := A) (b := 30) (n := 10) (k := 20 + w) (x := v) (by omega), sub_out (A := A) (b := 40) (n := 10) (k := 20 + w) (x := v) (by omega), wat_out (v := v) h0 hn (show ¬ 20 + w = 0 by omega) (by omega), frR_out (A := A) (v := v) (k := 20 + w) (by omega), and_self]
theorem OF_fr (F : OF h o A q kn) (h0 : A 0 = nI n) (hn : n ≤ 10) {w : Nat} (hw : w < 10) (v : Int32) : OF (hset h (o + 6) (.inl (0, 10, .inl (frR (upd A (50 + w) v))))) o (upd A (50 + w) v) q kn := by
  have e0 : upd A (50 + w) v 0 = A 0 := if_neg (by omega)
  have e1 : upd A (50 + w) v 1 = A 1 := if_neg (by omega)
  have e5 : upd A (50 + w) v 5 = A 5 := if_neg (by omega)
  have e6 : upd A (50 + w) v 6 = A 6 := if_neg (by omega)
  simp only [OF, hset_at, plus_ne o 1 6 (by decide), plus_ne o 2 6 (by decide), plus_ne o 3 6 (by decide), plus_ne o 4 6 (by decide), plus_ne o 5 6 (by decide), plus_ne o 7 6 (by decide), plus_ne o 8 6 (by decide), plus_ne o 9 6 (by decide), plus_ne o 10 6 (by decide), plus_ne0 o 6 (by decide), ↓reduceIte, aT_i, aN_i, aF_i, F, e0, e1, e5, e6, sub_out (A := A) (b := 10) (n := 10) (k := 50 + w) (x := v) (by omega), sub_out (A := A) (b := 20) (n := 10) (k := 50 + w) (x := v) (by omega), sub_out (A := A) (b := 30) (n := 10) (k := 50 + w) (x := v) (by omega), sub_out (A := A) (b := 40) (n := 10) (k := 50 + w) (x := v) (by omega), wat_out (v := v) h0 hn (show ¬ 50 + w = 0 by omega) (by omega), and_self]
theorem OF_year (F : OF h o A q kn) (h0 : A 0 = nI n) (hn : n ≤ 10) (v : Int32) : OF (hset h o (oSet (h.1 o) 9 (.int v))) o (upd A 6 v) q kn := by
  have e0 : upd A 6 v 0 = A 0 := if_neg (by omega)
  have e1 : upd A 6 v 1 = A 1 := if_neg (by omega)
  have e5 : upd A 6 v 5 = A 5 := if_neg (by omega)
  have e6 : upd A 6 v 6 = v := if_pos rfl
  have hl : 9 < oL (h.1 o) := by simp only [F]; decide
  simp only [OF, hset_at, plus_ne0 o 1 (by decide), plus_ne0 o 2 (by decide), plus_ne0 o 3 (by decide), plus_ne0 o 4 (by decide), plus_ne0 o 5 (by decide), plus_ne0 o 6 (by decide), plus_ne0 o 7 (by decide), plus_ne0 o 8 (by decide), plus_ne0 o 9 (by decide), plus_ne0 o 10 (by decide), ↓reduceIte, cls_set, oL_set, oN_eq hl, oKi_eq hl, oKi_ne (show ¬ 0 = 9 by decide), oN_ne (show ¬ 0 = 9 by decide), oKr_ne (show ¬ 1 = 9 by decide), oR_ne (show ¬ 1 = 9 by decide), oKr_ne (show ¬ 2 = 9 by decide), oR_ne (show ¬ 2 = 9 by decide), oKr_ne (show ¬ 3 = 9 by decide), oR_ne (show ¬ 3 = 9 by decide), oKr_ne (show ¬ 4 = 9 by decide), oR_ne (show ¬ 4 = 9 by decide), oKr_ne (show ¬ 5 = 9 by decide), oR_ne (show ¬ 5 = 9 by decide), oKr_ne (show ¬ 6 = 9 by decide), oR_ne (show ¬ 6 = 9 by decide), oKr_ne (show ¬ 7 = 9 by decide), oR_ne (show ¬ 7 = 9 by decide), oKi_ne (show ¬ 8 = 9 by decide), oN_ne (show ¬ 8 = 9 by decide), oKi_ne (show ¬ 10 = 9 by decide), oN_ne (show ¬ 10 = 9 by decide), oKr_ne (show ¬ 11 = 9 by decide), oR_ne (show ¬ 11 = 9 by decide), oKr_ne (show ¬ 12 = 9 by decide), oR_ne (show ¬ 12 = 9 by decide), oKr_ne (show ¬ 13 = 9 by decide), oR_ne (show ¬ 13 = 9 by decide), oKr_ne (show ¬ 14 = 9 by decide), oR_ne (show ¬ 14 = 9 by decide), F, e0, e1, e5, e6, sub_out (A := A) (b := 10) (n := 10) (k := 6) (x := v) (by omega), sub_out (A := A) (b := 20) (n := 10) (k := 6) (x := v) (by omega), sub_out (A := A) (b := 30) (n := 10) (k := 6) (x := v) (by omega), sub_out (A := A) (b := 40) (n := 10) (k := 6) (x := v) (by omega), wat_out (v := v) h0 hn (show ¬ 6 = 0 by omega) (by omega), frR_out (A := A) (v := v) (k := 6) (by omega), and_self]
/-- the office's frame: what else lies in the heap is as it was -/
def OE (h h' : AHp) (o : Nat) : Prop := h'.2 = h.2 ∧ ∀ p, (p < o ∨ o + 10 < p) → h'.1 p = h.1 p
theorem OE_rf : OE h h o := ⟨rfl, fun _ _ => rfl⟩
theorem OE_tr {h1 h2 : AHp} (a : OE h h1 o) (b : OE h1 h2 o) : OE h h2 o := ⟨b.1.trans a.1, fun p hp => (b.2 p hp).trans (a.2 p hp)⟩
theorem OE_set {k : Nat} {c : va_E} (hk : k ≤ 10) : OE h (hset h (o + k) c) o := ⟨rfl, fun p hp => by rw [hset_at, if_neg (by omega)]⟩
theorem OE_set0 {c : va_E} : OE h (hset h o c) o := ⟨rfl, fun p hp => by rw [hset_at, if_neg (by omega)]⟩
theorem gy_done (h0 : A 0 = nI n) (hn : n ≤ 10) (hj : ∀ j, j < n → N j = npF A C ml n j ∧ L j = if dnF A C ml n j = 2 then 1 else 0) {v3 v4 : Value} : ∀ (k w : Nat) (l : Int32) (X : Nat → Int32) (h : AHp), OF h o X q kn → aF (h.1 (o + 9)) = N → aF (h.1 (o + 10)) = L → w + k = n → X 0 = nI n → X 6 = A 6 → ∃ h', Rf d 61 78 [.ref o, .int l, .int (nI w), v3, v4] [] h = some (some (.int (lfF A C ml n l w k)), h') ∧ OF h' o (upd (yaF A C ml n X w k) 6 (A 6 + 1)) q kn ∧ OE h h' o := by
  intro k
  induction k with
  | zero =>
    intro w l X h F r1 r2 hw hX h6
    have c1 : ¬ nI w < nI n := nI_nlt (by omega) (by omega)
    refine ⟨_, by simp only [x61_78, x61_79, x61_80, x61_83, x61_86, x61_87, x61_90, x61_91, x61_92, x61_95, x61_96, x61_97, x61_98, x61_99, x61_102, x61_103, x61_104, x61_107, x61_108, x61_111, x61_112, x61_114, x61_115, x61_118, x61_121, x61_124, x61_125, x61_126, x61_129, x61_130, x61_131, x61_134, x61_135, F, hX, h6, c1, and_self, ↓reduceIte, lfF, lpF]; rfl, ?_, OE_set0⟩
    exact OF_year F hX hn _
  | succ k ih =>
    intro w l X h F r1 r2 hw hX h6
    have hw10 : w < 10 := by omega
    have c1 : nI w < nI n := nI_lt (by omega) (by omega)
    have c2 : inB (nI w) 10 = true := nI_inB (by omega) (by decide)
    have c3 : (nI w).toNatClampNeg = w := nI_clamp (by omega)
    obtain ⟨q1, q2⟩ := hj w (by omega)
    have G1 := OF_pay F hX hn hw10 (npF A C ml n w)
    have X1 : upd X (20 + w) (npF A C ml n w) 0 = nI n := by rw [upd_at, if_neg (by omega)]; exact hX
    have X6 : upd X (20 + w) (npF A C ml n w) 6 = A 6 := by rw [upd_at, if_neg (by omega)]; exact h6
    rw [x61_78]
    by_cases hd : dnF A C ml n w = 2
    · have hy : yaS A C ml n X w = upd (upd X (20 + w) (npF A C ml n w)) (50 + w) (-1) := if_pos hd
      have G2 := OF_fr G1 X1 hn hw10 (-1)
      rw [if_pos hd] at q2
      obtain ⟨h', e1, e2, e3⟩ := ih (w + 1) (l + 1) _ _ G2 (by simp only [hset_at, plus_ne o 9 6 (by decide), plus_ne o 9 3 (by decide), ↓reduceIte, r1]) (by simp only [hset_at, plus_ne o 10 6 (by decide), plus_ne o 10 3 (by decide), ↓reduceIte, r2]) (by omega) (by rw [upd_at, if_neg (by omega)]; exact X1) (by rw [upd_at, if_neg (by omega)]; exact X6)
      refine ⟨h', ?_, ?_, OE_tr (OE_tr (OE_set (k := 3) (by decide)) (OE_set (k := 6) (by decide))) e3⟩
      · simp only [x61_79, x61_80, x61_83, x61_86, x61_87, x61_90, x61_91, x61_92, x61_95, x61_96, x61_97, x61_98, x61_99, x61_102, x61_103, x61_104, x61_107, x61_108, x61_111, x61_112, x61_114, x61_115, x61_118, x61_121, F, hX, c1, c2, c3, r1, r2, q1, q2, hset_at, plus_ne o 10 3 (by decide), plus_ne o 6 3 (by decide), plus_ne0 o 3 (by decide), aT_i, aN_i, aF_i, sub_in hw10, nI_1, true_or, or_true, and_self, ↓reduceIte, litZ, lfF, lpF, hd]
        have e : frR (upd (upd X (20 + w) (npF A C ml n w)) (50 + w) (-1)) = upd (frR X) w (-5) := by
          rw [← frR_in hw10, frR_out (by omega)]
          rfl
        rw [e] at e1
        exact e1
      · show OF h' o (upd (yaF A C ml n (yaS A C ml n X w) (w + 1) k) 6 (A 6 + 1)) q kn
        rw [hy]
        exact e2
    · have hy : yaS A C ml n X w = upd X (20 + w) (npF A C ml n w) := if_neg hd
      rw [if_neg hd] at q2
      obtain ⟨h', e1, e2, e3⟩ := ih (w + 1) l _ _ G1 (by simp only [hset_at, plus_ne o 9 3 (by decide), ↓reduceIte, r1]) (by simp only [hset_at, plus_ne o 10 3 (by decide), ↓reduceIte, r2]) (by omega) X1 X6
      refine ⟨h', ?_, ?_, OE_tr (OE_set (k := 3) (by decide)) e3⟩
      · simp only [x61_79, x61_80, x61_83, x61_86, x61_87, x61_90, x61_91, x61_92, x61_95, x61_96, x61_97, x61_98, x61_99, x61_102, x61_103, x61_104, x61_107, x61_108, x61_111, x61_112, x61_114, x61_115, x61_118, x61_121, F, hX, c1, c2, c3, r1, r2, q1, q2, hset_at, plus_ne o 10 3 (by decide), plus_ne o 6 3 (by decide), plus_ne0 o 3 (by decide), aT_i, aN_i, aF_i, sub_in hw10, nI_1, true_or, or_true, and_self, ↓reduceIte, litZ, lfF, lpF, hd]
        exact e1
      · show OF h' o (upd (yaF A C ml n (yaS A C ml n X w) (w + 1) k) 6 (A 6 + 1)) q kn
        rw [hy]
        exact e2
theorem yst_self (F : OF h o A q kn) : ∃ S N L, h = yst h o S N L := by
  refine ⟨aF (h.1 (o + 8)), aF (h.1 (o + 9)), aF (h.1 (o + 10)), ?_⟩
  have e8 := cell_eq (c := h.1 (o + 8)) (t := 0) (by simp only [F]) (by decide)
  have e9 := cell_eq (c := h.1 (o + 9)) (t := 0) (by simp only [F]) (by decide)
  have e10 := cell_eq (c := h.1 (o + 10)) (t := 2) (by simp only [F]) (by decide)
  have n8 : aN (h.1 (o + 8)) = 6 := by simp only [F]
  have n9 : aN (h.1 (o + 9)) = 10 := by simp only [F]
  have n10 : aN (h.1 (o + 10)) = 10 := by simp only [F]
  rw [n8] at e8
  rw [n9] at e9
  rw [n10] at e10
  unfold yst fst ys2
  rw [hset_self e9, hset_self e10, hset_self e8]
theorem OE_yst : OE h (yst h o S N L) o := ⟨rfl, fun p hp => yst_ne hp S N L⟩
theorem sp_goYear (F : OF h o A q kn) (K : KN h A kn) (R : RG A n) (P : AP o q kn) (H : HO h q C cl ml) : ∃ h', Rf (d + 5) 61 0 [.ref o, noV, noV, noV, noV] [] h = some (some (.int (lfF A C ml n 0 0 n)), h') ∧ OF h' o (yrF A C ml n) q kn ∧ OE h h' o := by
  have hn := R.1
  obtain ⟨S, N, L, hh⟩ := yst_self F
  obtain ⟨v3, v4, S', N', L', hj, e1⟩ := gy_told (d := d) F K R P H n 0 noV noV noV S N L (by omega) (fun j hj => by omega)
  rw [← hh, nI_0] at e1
  obtain ⟨h', e2, e3, e4⟩ := gy_done (d := d + 5) (C := C) (ml := ml) R.2.1 hn hj (v3 := v3) (v4 := v4) n 0 0 A (yst h o S' N' L') (OF_yst F S' N' L') (ystF S' N' L').2.2.1 (ystF S' N' L').2.2.2.2.2 (by omega) R.2.1 rfl
  rw [nI_0] at e2
  refine ⟨h', ?_, e3, OE_tr OE_yst e4⟩
  simp only [x61_0, x61_1]
  rw [e1, e2]
end YC
