-- deps: 52.know
theorem sitK_ap {A A' : Nat → Int32} {x : Int32} : ∀ (k w : Nat), w + k ≤ 9 → (∀ i, i < w + k → A' (10 + i) = A (10 + i)) → sitK A' x w (k + 1) = if sitK A x w k = -1 then (if A' (10 + (w + k)) = x then nI (w + k) else -1) else sitK A x w k := by
  intro k
  induction k with
  | zero =>
    intro w hw e
    simp only [sitK, ↓reduceIte, Nat.add_zero]
  | succ k ih =>
    intro w hw e
    have s1 : sitK A' x w (k + 1 + 1) = if A' (10 + w) = x then nI w else sitK A' x (w + 1) (k + 1) := rfl
    have s2 : sitK A x w (k + 1) = if A (10 + w) = x then nI w else sitK A x (w + 1) k := rfl
    rw [s1, s2, e w (by omega), ih (w + 1) (by omega) (fun i hi => e i (by omega)), show w + 1 + k = w + (k + 1) by omega]
    by_cases z : A (10 + w) = x
    · rw [if_pos z, if_pos z, if_neg (ne_m1 (by omega))]
    · rw [if_neg z, if_neg z]
theorem sitK_no {A : Nat → Int32} {x : Int32} : ∀ (k w : Nat), w + k ≤ 10 → sitK A x w k = -1 → ∀ i, w ≤ i → i < w + k → ¬ A (10 + i) = x := by
  intro k
  induction k with
  | zero => intro w _ _ i a b; omega
  | succ k ih =>
    intro w hw e i a b
    have s2 : sitK A x w (k + 1) = if A (10 + w) = x then nI w else sitK A x (w + 1) k := rfl
    rw [s2] at e
    by_cases z : A (10 + w) = x
    · rw [if_pos z] at e
      exact absurd e (ne_m1 (by omega))
    · rw [if_neg z] at e
      by_cases q : i = w
      · rw [q]; exact z
      · exact ih (w + 1) (by omega) e i (by omega) (by omega)
def Aw (A : Nat → Int32) (n dk : Nat) (p t l : Int32) : Nat → Int32 := upd (upd (upd (upd (upd (upd (upd (upd A (10 + n) (nI dk)) (20 + n) p) (30 + n) t) (40 + n) l) (50 + n) (-1)) (60 + n) 0) (70 + n) 0) 0 (A 0 + 1)
def hrs (h : AHp) (o n dk : Nat) (p t l : Int32) (A : Nat → Int32) : AHp := hset (hset (hset (hset (hset (hset (hset h o (oSet (h.1 o) 0 (.int (A 0 + 1)))) (o + 1) (.inl (0, 10, .inl (upd (sub A 10 10) n (nI dk))))) (o + 2) (.inl (0, 10, .inl (upd (wat A) dk (A 0))))) (o + 3) (.inl (0, 10, .inl (upd (sub A 20 10) n p)))) (o + 4) (.inl (0, 10, .inl (upd (sub A 30 10) n t)))) (o + 5) (.inl (0, 10, .inl (upd (sub A 40 10) n l)))) (o + 6) (.inl (0, 10, .inl (upd (frR A) n (-5))))
section WR
variable {d o q n cl w dk : Nat} {kn : Nat → Nat} {A B C A' : Nat → Int32} {h h1 : AHp} {ml : List Cl} {p t l x v : Int32}
theorem Aw_v : Aw A n dk p t l 0 = A 0 + 1 ∧ Aw A n dk p t l (10 + n) = nI dk ∧ Aw A n dk p t l (20 + n) = p ∧ Aw A n dk p t l (30 + n) = t ∧ Aw A n dk p t l (40 + n) = l ∧ Aw A n dk p t l (50 + n) = -1 ∧ Aw A n dk p t l (60 + n) = 0 ∧ Aw A n dk p t l (70 + n) = 0 := by
  have z : ∀ a b : Nat, ¬ a = b → (a + n = b + n) = False := fun a b hh => by simp; omega
  have z0 : ∀ a : Nat, ¬ a = 0 → (a + n = 0) = False := fun a hh => by simp; omega
  simp only [Aw, upd_at, z 10 20 (by decide), z 10 30 (by decide), z 10 40 (by decide), z 10 50 (by decide), z 10 60 (by decide), z 10 70 (by decide), z 20 30 (by decide), z 20 40 (by decide), z 20 50 (by decide), z 20 60 (by decide), z 20 70 (by decide), z 30 40 (by decide), z 30 50 (by decide), z 30 60 (by decide), z 30 70 (by decide), z 40 50 (by decide), z 40 60 (by decide), z 40 70 (by decide), z 50 60 (by decide), z 50 70 (by decide), z 60 70 (by decide), z0 10 (by decide), z0 20 (by decide), z0 30 (by decide), z0 40 (by decide), z0 50 (by decide), z0 60 (by decide), z0 70 (by decide), ↓reduceIte, and_self]
theorem Aw_e {i : Nat} (h0 : ¬ i = 0) (h1 : ¬ i = 10 + n) (h2 : ¬ i = 20 + n) (h3 : ¬ i = 30 + n) (h4 : ¬ i = 40 + n) (h5 : ¬ i = 50 + n) (h6 : ¬ i = 60 + n) (h7 : ¬ i = 70 + n) : Aw A n dk p t l i = A i := by
  simp only [Aw, upd_at, h0, h1, h2, h3, h4, h5, h6, h7, ↓reduceIte]
theorem upd_sub {b m i : Nat} (hi : i < m) (e : ∀ j, j < m → ¬ j = i → A' (b + j) = A (b + j)) (ei : A' (b + i) = x) : upd (sub A b m) i x = sub A' b m := by
  funext j
  unfold upd sub
  by_cases z : j = i
  · subst z
    rw [if_pos rfl, if_pos hi, ei]
  · rw [if_neg z]
    by_cases hj : j < m
    · rw [if_pos hj, if_pos hj, e j hj z]
    · rw [if_neg hj, if_neg hj]
theorem wat_hire (R : RG A n) (hn : n ≤ 9) (hd : dk ≤ 9) (hs : sit A (nI dk) = -1) (e0 : A' 0 = nI (n + 1)) (ed : A' (10 + n) = nI dk) (e : ∀ i, i < n → A' (10 + i) = A (10 + i)) : upd (wat A) dk (nI n) = wat A' := by
  have key : ∀ y, sit A' y = if sit A y = -1 then (if nI dk = y then nI n else -1) else sit A y := by
    intro y
    unfold sit
    rw [e0, R.2.1, nI_clamp (by omega), nI_clamp (by omega), sitK_ap n 0 (by omega) (fun i hi => e i (by omega)), Nat.zero_add, ed]
  funext j
  unfold upd wat
  by_cases hj : j < 10
  · rw [if_pos hj, if_pos hj, key]
    by_cases z : j = dk
    · subst z
      rw [if_pos rfl, if_pos hs, if_pos rfl]
    · rw [if_neg z, if_neg (fun u => z ((nI_eq (by omega) (by omega)).mp u).symm)]
      split
      · next u => exact u
      · rfl
  · rw [if_neg (by omega), if_neg hj, if_neg hj]
theorem fr_hire (hn : n ≤ 9) (e5 : A' (50 + n) = -1) (e : ∀ j, j < 10 → ¬ j = n → A' (50 + j) = A (50 + j)) : upd (frR A) n (-5) = frR A' := by
  funext j
  unfold upd frR
  by_cases z : j = n
  · subst z
    rw [if_pos rfl, if_pos (by omega), e5]
    rfl
  · rw [if_neg z]
    by_cases hj : j < 10
    · rw [if_pos hj, if_pos hj, e j hj z]
    · rw [if_neg hj, if_neg hj]
theorem hrs_at {r : Nat} (hr : r < o ∨ o + 6 < r) : (hrs h o n dk p t l A).1 r = h.1 r := by
  simp only [hrs, hset_at, show (r = o) = False by simp; omega, show (r = o + 1) = False by simp; omega, show (r = o + 2) = False by simp; omega, show (r = o + 3) = False by simp; omega, show (r = o + 4) = False by simp; omega, show (r = o + 5) = False by simp; omega, show (r = o + 6) = False by simp; omega, ↓reduceIte]
theorem OF_hrs (F : OF h o A q kn) (R : RG A n) (hn : n ≤ 9) (hd : dk ≤ 9) (hs : sit A (nI dk) = -1) : OF (hrs h o n dk p t l A) o (Aw A n dk p t l) q kn := by
  obtain ⟨a0, a1, a2, a3, a4, a5, a6, a7⟩ := Aw_v (A := A) (n := n) (dk := dk) (p := p) (t := t) (l := l)
  have r0 := R.2.1
  have hl : 0 < oL (h.1 o) := by simp only [F]; decide
  have b0 : Aw A n dk p t l 0 = nI (n + 1) := by rw [a0, r0, nI_1]
  have b1 := upd_sub (A := A) (A' := Aw A n dk p t l) (b := 10) (m := 10) (i := n) (x := nI dk) (by omega) (fun j hj hjn => Aw_e (by omega) (by omega) (by omega) (by omega) (by omega) (by omega) (by omega) (by omega)) a1
  have b2 := upd_sub (A := A) (A' := Aw A n dk p t l) (b := 20) (m := 10) (i := n) (x := p) (by omega) (fun j hj hjn => Aw_e (by omega) (by omega) (by omega) (by omega) (by omega) (by omega) (by omega) (by omega)) a2
  have b3 := upd_sub (A := A) (A' := Aw A n dk p t l) (b := 30) (m := 10) (i := n) (x := t) (by omega) (fun j hj hjn => Aw_e (by omega) (by omega) (by omega) (by omega) (by omega) (by omega) (by omega) (by omega)) a3
  have b4 := upd_sub (A := A) (A' := Aw A n dk p t l) (b := 40) (m := 10) (i := n) (x := l) (by omega) (fun j hj hjn => Aw_e (by omega) (by omega) (by omega) (by omega) (by omega) (by omega) (by omega) (by omega)) a4
  have b5 := fr_hire (A := A) (A' := Aw A n dk p t l) hn a5 (fun j hj hjn => Aw_e (by omega) (by omega) (by omega) (by omega) (by omega) (by omega) (by omega) (by omega))
  have b6 := wat_hire (A' := Aw A n dk p t l) R hn hd hs b0 a1 (fun i hi => Aw_e (by omega) (by omega) (by omega) (by omega) (by omega) (by omega) (by omega) (by omega))
  have e1 : Aw A n dk p t l 1 = A 1 := Aw_e (by omega) (by omega) (by omega) (by omega) (by omega) (by omega) (by omega) (by omega)
  have e5 : Aw A n dk p t l 5 = A 5 := Aw_e (by omega) (by omega) (by omega) (by omega) (by omega) (by omega) (by omega) (by omega)
  have e6 : Aw A n dk p t l 6 = A 6 := Aw_e (by omega) (by omega) (by omega) (by omega) (by omega) (by omega) (by omega) (by omega)
  have b6' : upd (wat A) dk (A 0) = wat (Aw A n dk p t l) := by rw [r0]; exact b6
  simp only [OF, hrs, hset_at, plus_ne o 1 2 (by decide), plus_ne o 1 3 (by decide), plus_ne o 1 4 (by decide), plus_ne o 1 5 (by decide), plus_ne o 1 6 (by decide), plus_ne o 2 1 (by decide), plus_ne o 2 3 (by decide), plus_ne o 2 4 (by decide), plus_ne o 2 5 (by decide), plus_ne o 2 6 (by decide), plus_ne o 3 1 (by decide), plus_ne o 3 2 (by decide), plus_ne o 3 4 (by decide), plus_ne o 3 5 (by decide), plus_ne o 3 6 (by decide), plus_ne o 4 1 (by decide), plus_ne o 4 2 (by decide), plus_ne o 4 3 (by decide), plus_ne o 4 5 (by decide), plus_ne o 4 6 (by decide), plus_ne o 5 1 (by decide), plus_ne o 5 2 (by decide), plus_ne o 5 3 (by decide), plus_ne o 5 4 (by decide), plus_ne o 5 6 (by decide), plus_ne o 6 1 (by decide), plus_ne o 6 2 (by decide), plus_ne o 6 3 (by decide), plus_ne o 6 4 (by decide), plus_ne o 6 5 (by decide), plus_ne o 7 1 (by decide), plus_ne o 7 2 (by decide), plus_ne o 7 3 (by decide), plus_ne o 7 4 (by decide), plus_ne o 7 5 (by decide), plus_ne o 7 6 (by decide), plus_ne o 8 1 (by decide), plus_ne o 8 2 (by decide), plus_ne o 8 3 (by decide), plus_ne o 8 4 (by decide), plus_ne o 8 5 (by decide), plus_ne o 8 6 (by decide), plus_ne o 9 1 (by decide), plus_ne o 9 2 (by decide), plus_ne o 9 3 (by decide), plus_ne o 9 4 (by decide), plus_ne o 9 5 (by decide), plus_ne o 9 6 (by decide), plus_ne o 10 1 (by decide), plus_ne o 10 2 (by decide), plus_ne o 10 3 (by decide), plus_ne o 10 4 (by decide), plus_ne o 10 5 (by decide), plus_ne o 10 6 (by decide), plus_ne0 o 1 (by decide), plus_ne0 o 2 (by decide), plus_ne0 o 3 (by decide), plus_ne0 o 4 (by decide), plus_ne0 o 5 (by decide), plus_ne0 o 6 (by decide), plus_ne0 o 7 (by decide), plus_ne0 o 8 (by decide), plus_ne0 o 9 (by decide), plus_ne0 o 10 (by decide), ↓reduceIte, cls_set, oL_set, oN_eq hl, oKi_eq hl, oKr_ne (show ¬ 1 = 0 by decide), oR_ne (show ¬ 1 = 0 by decide), oKr_ne (show ¬ 2 = 0 by decide), oR_ne (show ¬ 2 = 0 by decide), oKr_ne (show ¬ 3 = 0 by decide), oR_ne (show ¬ 3 = 0 by decide), oKr_ne (show ¬ 4 = 0 by decide), oR_ne (show ¬ 4 = 0 by decide), oKr_ne (show ¬ 5 = 0 by decide), oR_ne (show ¬ 5 = 0 by decide), oKr_ne (show ¬ 6 = 0 by decide), oR_ne (show ¬ 6 = 0 by decide), oKr_ne (show ¬ 7 = 0 by decide), oR_ne (show ¬ 7 = 0 by decide), oKi_ne (show ¬ 8 = 0 by decide), oN_ne (show ¬ 8 = 0 by decide), oKi_ne (show ¬ 9 = 0 by decide), oN_ne (show ¬ 9 = 0 by decide), oKi_ne (show ¬ 10 = 0 by decide), oN_ne (show ¬ 10 = 0 by decide), oKr_ne (show ¬ 11 = 0 by decide), oR_ne (show ¬ 11 = 0 by decide), oKr_ne (show ¬ 12 = 0 by decide), oR_ne (show ¬ 12 = 0 by decide), oKr_ne (show ¬ 13 = 0 by decide), oR_ne (show ¬ 13 = 0 by decide), oKr_ne (show ¬ 14 = 0 by decide), oR_ne (show ¬ 14 = 0 by decide), aT_i, aN_i, aF_i, F, a0, b1, b2, b3, b4, b5, b6', e1, e5, e6, and_self]
theorem hi_1 {hh : AHp} {X : Nat → Int32} (c : cls (hh.1 o) = 6) (r : oKr (hh.1 o) 1 = true) (r2 : oR (hh.1 o) 1 = o + 1) (f1 : aT (hh.1 (o + 1)) = 0) (f2 : aN (hh.1 (o + 1)) = 10) (f3 : aF (hh.1 (o + 1)) = X) (hn : n ≤ 9) (hd : dk ≤ 9) : Rf d 43 16 [.ref o, .int (nI dk), .int p, .int t, .int l, .int (nI n)] [] hh = Rf d 43 (23 + 1) [.ref o, .int (nI dk), .int p, .int t, .int l, .int (nI n)] [] (hset hh (o + 1) (.inl (0, 10, .inl (upd X n (nI dk))))) := by
  have c2 : inB (nI n) 10 = true := nI_inB (by omega) (by omega)
  have c3 : (nI n).toNatClampNeg = n := nI_clamp (by omega)
  have d2 : inB (nI dk) 10 = true := nI_inB (by omega) (by omega)
  have d3 : (nI dk).toNatClampNeg = dk := nI_clamp (by omega)
  simp only [x43_16, x43_17, x43_20, x43_22, x43_23, c, r, r2, f1, f2, f3, c2, c3, d2, d3, true_or, and_self, ↓reduceIte]
theorem hi_2 {hh : AHp} {X : Nat → Int32} (c : cls (hh.1 o) = 6) (r : oKr (hh.1 o) 2 = true) (r2 : oR (hh.1 o) 2 = o + 2) (f1 : aT (hh.1 (o + 2)) = 0) (f2 : aN (hh.1 (o + 2)) = 10) (f3 : aF (hh.1 (o + 2)) = X) (hn : n ≤ 9) (hd : dk ≤ 9) : Rf d 43 24 [.ref o, .int (nI dk), .int p, .int t, .int l, .int (nI n)] [] hh = Rf d 43 (31 + 1) [.ref o, .int (nI dk), .int p, .int t, .int l, .int (nI n)] [] (hset hh (o + 2) (.inl (0, 10, .inl (upd X dk (nI n))))) := by
  have c2 : inB (nI n) 10 = true := nI_inB (by omega) (by omega)
  have c3 : (nI n).toNatClampNeg = n := nI_clamp (by omega)
  have d2 : inB (nI dk) 10 = true := nI_inB (by omega) (by omega)
  have d3 : (nI dk).toNatClampNeg = dk := nI_clamp (by omega)
  simp only [x43_24, x43_25, x43_28, x43_29, x43_31, c, r, r2, f1, f2, f3, c2, c3, d2, d3, true_or, and_self, ↓reduceIte]
theorem hi_3 {hh : AHp} {X : Nat → Int32} (c : cls (hh.1 o) = 6) (r : oKr (hh.1 o) 3 = true) (r2 : oR (hh.1 o) 3 = o + 3) (f1 : aT (hh.1 (o + 3)) = 0) (f2 : aN (hh.1 (o + 3)) = 10) (f3 : aF (hh.1 (o + 3)) = X) (hn : n ≤ 9) (hd : dk ≤ 9) : Rf d 43 32 [.ref o, .int (nI dk), .int p, .int t, .int l, .int (nI n)] [] hh = Rf d 43 (39 + 1) [.ref o, .int (nI dk), .int p, .int t, .int l, .int (nI n)] [] (hset hh (o + 3) (.inl (0, 10, .inl (upd X n (p))))) := by
  have c2 : inB (nI n) 10 = true := nI_inB (by omega) (by omega)
  have c3 : (nI n).toNatClampNeg = n := nI_clamp (by omega)
  have d2 : inB (nI dk) 10 = true := nI_inB (by omega) (by omega)
  have d3 : (nI dk).toNatClampNeg = dk := nI_clamp (by omega)
  simp only [x43_32, x43_33, x43_36, x43_38, x43_39, c, r, r2, f1, f2, f3, c2, c3, d2, d3, true_or, and_self, ↓reduceIte]
theorem hi_4 {hh : AHp} {X : Nat → Int32} (c : cls (hh.1 o) = 6) (r : oKr (hh.1 o) 4 = true) (r2 : oR (hh.1 o) 4 = o + 4) (f1 : aT (hh.1 (o + 4)) = 0) (f2 : aN (hh.1 (o + 4)) = 10) (f3 : aF (hh.1 (o + 4)) = X) (hn : n ≤ 9) (hd : dk ≤ 9) : Rf d 43 40 [.ref o, .int (nI dk), .int p, .int t, .int l, .int (nI n)] [] hh = Rf d 43 (47 + 1) [.ref o, .int (nI dk), .int p, .int t, .int l, .int (nI n)] [] (hset hh (o + 4) (.inl (0, 10, .inl (upd X n (t))))) := by
  have c2 : inB (nI n) 10 = true := nI_inB (by omega) (by omega)
  have c3 : (nI n).toNatClampNeg = n := nI_clamp (by omega)
  have d2 : inB (nI dk) 10 = true := nI_inB (by omega) (by omega)
  have d3 : (nI dk).toNatClampNeg = dk := nI_clamp (by omega)
  simp only [x43_40, x43_41, x43_44, x43_46, x43_47, c, r, r2, f1, f2, f3, c2, c3, d2, d3, true_or, and_self, ↓reduceIte]
theorem hi_5 {hh : AHp} {X : Nat → Int32} (c : cls (hh.1 o) = 6) (r : oKr (hh.1 o) 5 = true) (r2 : oR (hh.1 o) 5 = o + 5) (f1 : aT (hh.1 (o + 5)) = 0) (f2 : aN (hh.1 (o + 5)) = 10) (f3 : aF (hh.1 (o + 5)) = X) (hn : n ≤ 9) (hd : dk ≤ 9) : Rf d 43 48 [.ref o, .int (nI dk), .int p, .int t, .int l, .int (nI n)] [] hh = Rf d 43 (56 + 1) [.ref o, .int (nI dk), .int p, .int t, .int l, .int (nI n)] [] (hset hh (o + 5) (.inl (0, 10, .inl (upd X n (l))))) := by
  have c2 : inB (nI n) 10 = true := nI_inB (by omega) (by omega)
  have c3 : (nI n).toNatClampNeg = n := nI_clamp (by omega)
  have d2 : inB (nI dk) 10 = true := nI_inB (by omega) (by omega)
  have d3 : (nI dk).toNatClampNeg = dk := nI_clamp (by omega)
  simp only [x43_48, x43_49, x43_52, x43_54, x43_56, c, r, r2, f1, f2, f3, c2, c3, d2, d3, true_or, and_self, ↓reduceIte]
theorem hi_6 {hh : AHp} {X : Nat → Int32} (c : cls (hh.1 o) = 6) (r : oKr (hh.1 o) 6 = true) (r2 : oR (hh.1 o) 6 = o + 6) (f1 : aT (hh.1 (o + 6)) = 0) (f2 : aN (hh.1 (o + 6)) = 10) (f3 : aF (hh.1 (o + 6)) = X) (hn : n ≤ 9) (hd : dk ≤ 9) : Rf d 43 57 [.ref o, .int (nI dk), .int p, .int t, .int l, .int (nI n)] [] hh = Rf d 43 (65 + 1) [.ref o, .int (nI dk), .int p, .int t, .int l, .int (nI n)] [] (hset hh (o + 6) (.inl (0, 10, .inl (upd X n (-5))))) := by
  have c2 : inB (nI n) 10 = true := nI_inB (by omega) (by omega)
  have c3 : (nI n).toNatClampNeg = n := nI_clamp (by omega)
  have d2 : inB (nI dk) 10 = true := nI_inB (by omega) (by omega)
  have d3 : (nI dk).toNatClampNeg = dk := nI_clamp (by omega)
  simp only [x43_57, x43_58, x43_61, x43_63, x43_65, c, r, r2, f1, f2, f3, c2, c3, d2, d3, true_or, and_self, ↓reduceIte]
theorem sp_hire (F : OF h o A q kn) (K : KN h A kn) (P : AP o q kn) (R : RG A n) (hn : n ≤ 9) (hd : dk ≤ 9) (hs : sit A (nI dk) = -1) (ho : o + 10 < h.2.1) : Rf (d + 5) 43 0 [.ref o, .int (nI dk), .int p, .int t, .int l, noV] [] h = some (some (.int (A 0)), kst (hrs h o n dk p t l A) o n 0 0 kn) := by
  have r0 := R.2.1
  have n10 : n < 10 := by clear F; omega
  have ho7 : o + 7 < h.2.1 := by clear F; omega
  have kz : kn n < o ∨ o + 6 < kn n := by
    clear F
    have := P.2 n n10
    omega
  obtain ⟨j, hj, hj2⟩ := kind_of R n10
  have kc0 : cls ((hrs h o n dk p t l A).1 (kn n)) = kc (nI j) := by
    rw [hrs_at kz, (K n n10).1, hj2]
  have F7 := OF_hrs (p := p) (t := t) (l := l) F R hn hd hs
  have b1 := sp_become (d := d) (h := hrs h o n dk p t l A) (v := 0) (x := 0) F7.1 (by simp only [F7]) (by simp only [F7]) (by simp only [F7]) (by simp only [F7]) (by simp only [F7]) n10 ho7 hj kc0 (Nat.zero_le 6)
  rw [nI_0] at b1
  unfold hrs at b1 F7 ⊢
  rw [r0] at b1 F7 ⊢
  generalize e0 : hset h o (oSet (h.1 o) 0 (.int (nI n + 1))) = h0 at b1 F7 ⊢
  generalize e1 : hset h0 (o + 1) (.inl (0, 10, .inl (upd (sub A 10 10) n (nI dk)))) = h1 at b1 F7 ⊢
  generalize e2 : hset h1 (o + 2) (.inl (0, 10, .inl (upd (wat A) dk (nI n)))) = h2 at b1 F7 ⊢
  generalize e3 : hset h2 (o + 3) (.inl (0, 10, .inl (upd (sub A 20 10) n p))) = h3 at b1 F7 ⊢
  generalize e4 : hset h3 (o + 4) (.inl (0, 10, .inl (upd (sub A 30 10) n t))) = h4 at b1 F7 ⊢
  generalize e5 : hset h4 (o + 5) (.inl (0, 10, .inl (upd (sub A 40 10) n l))) = h5 at b1 F7 ⊢
  generalize e6 : hset h5 (o + 6) (.inl (0, 10, .inl (upd (frR A) n (-5)))) = h6 at b1 F7 ⊢
  have g0 : h0.1 o = oSet (h.1 o) 0 (.int (nI n + 1)) := by rw [← e0]; exact if_pos rfl
  have q0 : ∀ i, 0 < i → h0.1 (o + i) = h.1 (o + i) := fun i hi => by rw [← e0]; exact if_neg (by clear F F7 b1; omega)
  have g1 : h1.1 o = oSet (h.1 o) 0 (.int (nI n + 1)) := by rw [← e1, hset_ne (by clear F F7 b1; omega)]; exact g0
  have q1 : ∀ i, 1 < i → h1.1 (o + i) = h.1 (o + i) := fun i hi => by rw [← e1, hset_ne (by clear F F7 b1; omega)]; exact q0 i (by clear F F7 b1; omega)
  have g2 : h2.1 o = oSet (h.1 o) 0 (.int (nI n + 1)) := by rw [← e2, hset_ne (by clear F F7 b1; omega)]; exact g1
  have q2 : ∀ i, 2 < i → h2.1 (o + i) = h.1 (o + i) := fun i hi => by rw [← e2, hset_ne (by clear F F7 b1; omega)]; exact q1 i (by clear F F7 b1; omega)
  have g3 : h3.1 o = oSet (h.1 o) 0 (.int (nI n + 1)) := by rw [← e3, hset_ne (by clear F F7 b1; omega)]; exact g2
  have q3 : ∀ i, 3 < i → h3.1 (o + i) = h.1 (o + i) := fun i hi => by rw [← e3, hset_ne (by clear F F7 b1; omega)]; exact q2 i (by clear F F7 b1; omega)
  have g4 : h4.1 o = oSet (h.1 o) 0 (.int (nI n + 1)) := by rw [← e4, hset_ne (by clear F F7 b1; omega)]; exact g3
  have q4 : ∀ i, 4 < i → h4.1 (o + i) = h.1 (o + i) := fun i hi => by rw [← e4, hset_ne (by clear F F7 b1; omega)]; exact q3 i (by clear F F7 b1; omega)
  have g5 : h5.1 o = oSet (h.1 o) 0 (.int (nI n + 1)) := by rw [← e5, hset_ne (by clear F F7 b1; omega)]; exact g4
  have q5 : ∀ i, 5 < i → h5.1 (o + i) = h.1 (o + i) := fun i hi => by rw [← e5, hset_ne (by clear F F7 b1; omega)]; exact q4 i (by clear F F7 b1; omega)
  have g6 : h6.1 o = oSet (h.1 o) 0 (.int (nI n + 1)) := by rw [← e6, hset_ne (by clear F F7 b1; omega)]; exact g5
  have q6 : ∀ i, 6 < i → h6.1 (o + i) = h.1 (o + i) := fun i hi => by rw [← e6, hset_ne (by clear F F7 b1; omega)]; exact q5 i (by clear F F7 b1; omega)
  have cc : cls (oSet (h.1 o) 0 (.int (nI n + 1))) = 6 := by simp only [cls_set, F]
  have kk : ∀ k, ¬ k = 0 → oKr (oSet (h.1 o) 0 (.int (nI n + 1))) k = oKr (h.1 o) k ∧ oR (oSet (h.1 o) 0 (.int (nI n + 1))) k = oR (h.1 o) k := fun k hk => ⟨oKr_ne hk, oR_ne hk⟩
  simp only [x43_0, x43_1, x43_4, x43_6, x43_7, x43_8, x43_11, x43_12, x43_13, F, r0, e0, and_self, ↓reduceIte]
  rw [hi_1 (o := o) (hh := h0) (X := sub A 10 10) (by rw [g0]; exact cc) (by rw [g0, (kk 1 (by decide)).1]; simp only [F]) (by rw [g0, (kk 1 (by decide)).2]; simp only [F]) (by rw [q0 1 (by decide)]; simp only [F]) (by rw [q0 1 (by decide)]; simp only [F]) (by rw [q0 1 (by decide)]; simp only [F]) hn hd, e1]
  rw [hi_2 (o := o) (hh := h1) (X := wat A) (by rw [g1]; exact cc) (by rw [g1, (kk 2 (by decide)).1]; simp only [F]) (by rw [g1, (kk 2 (by decide)).2]; simp only [F]) (by rw [q1 2 (by decide)]; simp only [F]) (by rw [q1 2 (by decide)]; simp only [F]) (by rw [q1 2 (by decide)]; simp only [F]) hn hd, e2]
  rw [hi_3 (o := o) (hh := h2) (X := sub A 20 10) (by rw [g2]; exact cc) (by rw [g2, (kk 3 (by decide)).1]; simp only [F]) (by rw [g2, (kk 3 (by decide)).2]; simp only [F]) (by rw [q2 3 (by decide)]; simp only [F]) (by rw [q2 3 (by decide)]; simp only [F]) (by rw [q2 3 (by decide)]; simp only [F]) hn hd, e3]
  rw [hi_4 (o := o) (hh := h3) (X := sub A 30 10) (by rw [g3]; exact cc) (by rw [g3, (kk 4 (by decide)).1]; simp only [F]) (by rw [g3, (kk 4 (by decide)).2]; simp only [F]) (by rw [q3 4 (by decide)]; simp only [F]) (by rw [q3 4 (by decide)]; simp only [F]) (by rw [q3 4 (by decide)]; simp only [F]) hn hd, e4]
  rw [hi_5 (o := o) (hh := h4) (X := sub A 40 10) (by rw [g4]; exact cc) (by rw [g4, (kk 5 (by decide)).1]; simp only [F]) (by rw [g4, (kk 5 (by decide)).2]; simp only [F]) (by rw [q4 5 (by decide)]; simp only [F]) (by rw [q4 5 (by decide)]; simp only [F]) (by rw [q4 5 (by decide)]; simp only [F]) hn hd, e5]
  rw [hi_6 (o := o) (hh := h5) (X := frR A) (by rw [g5]; exact cc) (by rw [g5, (kk 6 (by decide)).1]; simp only [F]) (by rw [g5, (kk 6 (by decide)).2]; simp only [F]) (by rw [q5 6 (by decide)]; simp only [F]) (by rw [q5 6 (by decide)]; simp only [F]) (by rw [q5 6 (by decide)]; simp only [F]) hn hd, e6]
  simp only [Nat.reduceAdd, x43_66, x43_67, x43_69, x43_70, x43_74, x43_75, x43_77, xc43_71 F7.1 b1]
theorem pr_worker (G : GI h) {x p t l : Int32} : PR h 98 158 [.ref 32, .int x, .int p, .int t, .int l] [.ref 128, .int x, .int p, .int t, .int l, noV] := by
  obtain ⟨A, B, im, rn, T, n, C, cl, ml, q, kn, n2, C2, cl2, ml2, q2, kn2, G⟩ := G
  have S := G.2.2.2.1
  obtain ⟨F, K, D, R, Q, H, Mh, HRm, DD, l1, l2⟩ := G.2.2.2.1
  have X0 := G.1
  have hnn := R.1
  have r0 := R.2.1
  have hnx := G.2.2.2.2.2.2.2.2.2
  have m0 := G.2.2.2.2.2.2.2.2.1.1
  by_cases hx : ¬ x < 0 ∧ ¬ 9 < x
  rotate_left
  · exact PR_ro (dc := 6) (dm := 2) (v := -1) (by simp only [x98_0, x98_1, x98_6, x98_9, x98_11, x98_15, x98_18, x98_19, xc98_3 (sp_within (d := 5)), xc98_12 (sp_within (d := 5)), xc98_24 (sp_within (d := 5)), xc98_34 (sp_within (d := 5)), b2_0, hx, not_false_eq_true, and_self, ↓reduceIte]) (by simp only [x158_0, x158_1, x158_2, x158_7, x158_10, x158_12, x158_13, x158_17, x158_20, x158_21, xc158_4 (sp_mwithin (d := 1)), xc158_14 (sp_mwithin (d := 1)), xc158_27 (sp_mwithin (d := 1)), xc158_38 (sp_mwithin (d := 1)), b2_0, hx, not_false_eq_true, and_self, ↓reduceIte]) (by decide) (by decide) G (same2 rfl)
  by_cases hl : ¬ l < 0 ∧ ¬ 1 < l
  rotate_left
  · exact PR_ro (dc := 6) (dm := 2) (v := -1) (by simp only [x98_0, x98_1, x98_6, x98_9, x98_11, x98_15, x98_18, x98_19, xc98_3 (sp_within (d := 5)), xc98_12 (sp_within (d := 5)), xc98_24 (sp_within (d := 5)), xc98_34 (sp_within (d := 5)), b2_0, hx, hl, not_true_eq_false, not_false_eq_true, and_self, ↓reduceIte]) (by simp only [x158_0, x158_1, x158_2, x158_7, x158_10, x158_12, x158_13, x158_17, x158_20, x158_21, xc158_4 (sp_mwithin (d := 1)), xc158_14 (sp_mwithin (d := 1)), xc158_27 (sp_mwithin (d := 1)), xc158_38 (sp_mwithin (d := 1)), b2_0, hx, hl, not_true_eq_false, not_false_eq_true, and_self, ↓reduceIte]) (by decide) (by decide) G (same2 rfl)
  by_cases hp : ¬ p < 0 ∧ ¬ 999 < p
  rotate_left
  · exact PR_ro (dc := 6) (dm := 2) (v := -2) (by simp only [x98_0, x98_1, x98_6, x98_9, x98_11, x98_15, x98_18, x98_19, x98_20, x98_21, x98_27, x98_30, x98_31, x98_37, x98_40, x98_42, xc98_3 (sp_within (d := 5)), xc98_12 (sp_within (d := 5)), xc98_24 (sp_within (d := 5)), xc98_34 (sp_within (d := 5)), b2_0, hx, hl, hp, not_true_eq_false, not_false_eq_true, and_self, ↓reduceIte]) (by simp only [x158_0, x158_1, x158_2, x158_7, x158_10, x158_12, x158_13, x158_17, x158_20, x158_21, x158_22, x158_23, x158_24, x158_30, x158_33, x158_34, x158_35, x158_41, x158_44, x158_46, xc158_4 (sp_mwithin (d := 1)), xc158_14 (sp_mwithin (d := 1)), xc158_27 (sp_mwithin (d := 1)), xc158_38 (sp_mwithin (d := 1)), b2_0, hx, hl, hp, not_true_eq_false, not_false_eq_true, and_self, ↓reduceIte]) (by decide) (by decide) G (same2 rfl)
  by_cases ht : ¬ t < 0 ∧ ¬ 999 < t
  rotate_left
  · exact PR_ro (dc := 6) (dm := 2) (v := -2) (by simp only [x98_0, x98_1, x98_6, x98_9, x98_11, x98_15, x98_18, x98_19, x98_20, x98_21, x98_27, x98_30, x98_31, x98_37, x98_40, x98_42, xc98_3 (sp_within (d := 5)), xc98_12 (sp_within (d := 5)), xc98_24 (sp_within (d := 5)), xc98_34 (sp_within (d := 5)), b2_0, hx, hl, hp, ht, not_true_eq_false, not_false_eq_true, and_self, ↓reduceIte]) (by simp only [x158_0, x158_1, x158_2, x158_7, x158_10, x158_12, x158_13, x158_17, x158_20, x158_21, x158_22, x158_23, x158_24, x158_30, x158_33, x158_34, x158_35, x158_41, x158_44, x158_46, xc158_4 (sp_mwithin (d := 1)), xc158_14 (sp_mwithin (d := 1)), xc158_27 (sp_mwithin (d := 1)), xc158_38 (sp_mwithin (d := 1)), b2_0, hx, hl, hp, ht, not_true_eq_false, not_false_eq_true, and_self, ↓reduceIte]) (by decide) (by decide) G (same2 rfl)
  obtain ⟨dk, hd, rfl⟩ := nI_of2 (M := 9) (n := 9) (by decide) hx.1 (Int32.not_lt.mp hx.2)
  have d2 : inB (nI dk) 10 = true := nI_inB (by clear F; omega) (by clear F; omega)
  have d3 : (nI dk).toNatClampNeg = dk := nI_clamp (by clear F; omega)
  have d10 : dk < 10 := by clear F; omega
  have z0 := sp_sits (d := 1) m0 R (x := nI dk)
  have sn := sit_neg R (x := nI dk)
  by_cases hs : sit A (nI dk) = -1
  rotate_left
  · exact PR_ro (dc := 6) (dm := 2) (v := -3) (by simp only [x98_0, x98_1, x98_6, x98_9, x98_11, x98_15, x98_18, x98_19, x98_20, x98_21, x98_27, x98_30, x98_31, x98_37, x98_40, x98_42, x98_43, x98_44, x98_47, x98_50, x98_51, x98_52, x98_53, x98_56, x98_58, xc98_3 (sp_within (d := 5)), xc98_12 (sp_within (d := 5)), xc98_24 (sp_within (d := 5)), xc98_34 (sp_within (d := 5)), X0, F, d2, d3, wat_at d10, b2_0, hx, hl, hp, ht, hs, true_or, not_true_eq_false, not_false_eq_true, and_self, ↓reduceIte]) (by simp only [x158_0, x158_1, x158_2, x158_7, x158_10, x158_12, x158_13, x158_17, x158_20, x158_21, x158_22, x158_23, x158_24, x158_30, x158_33, x158_34, x158_35, x158_41, x158_44, x158_46, x158_47, x158_48, x158_52, x158_55, x158_57, xc158_4 (sp_mwithin (d := 1)), xc158_14 (sp_mwithin (d := 1)), xc158_27 (sp_mwithin (d := 1)), xc158_38 (sp_mwithin (d := 1)), xc158_49 m0.1 z0, sn, b2_0, hx, hl, hp, ht, hs, not_true_eq_false, not_false_eq_true, and_self, ↓reduceIte]) (by decide) (by decide) G (same2 rfl)
  by_cases hf : n = 10
  · subst hf
    have g1 : ¬ A 0 < 10 := by rw [r0]; decide
    have g2 : A 0 = 10 := by rw [r0]; rfl
    exact PR_ro (dc := 6) (dm := 2) (v := -4) (by simp only [x98_0, x98_1, x98_6, x98_9, x98_11, x98_15, x98_18, x98_19, x98_20, x98_21, x98_27, x98_30, x98_31, x98_37, x98_40, x98_42, x98_43, x98_44, x98_47, x98_50, x98_51, x98_52, x98_53, x98_56, x98_58, x98_59, x98_60, x98_63, x98_66, x98_68, x98_71, x98_73, x98_76, x98_77, x98_80, x98_81, x98_82, x98_83, x98_88, xc98_3 (sp_within (d := 5)), xc98_12 (sp_within (d := 5)), xc98_24 (sp_within (d := 5)), xc98_34 (sp_within (d := 5)), X0, F, d2, d3, wat_at d10, b2_0, hx, hl, hp, ht, hs, g1, true_or, not_true_eq_false, not_false_eq_true, and_self, ↓reduceIte]) (by simp only [x158_0, x158_1, x158_2, x158_7, x158_10, x158_12, x158_13, x158_17, x158_20, x158_21, x158_22, x158_23, x158_24, x158_30, x158_33, x158_34, x158_35, x158_41, x158_44, x158_46, x158_47, x158_48, x158_52, x158_55, x158_57, x158_58, x158_59, x158_62, x158_63, x158_64, x158_66, x158_68, x158_70, x158_73, x158_75, xc158_4 (sp_mwithin (d := 1)), xc158_14 (sp_mwithin (d := 1)), xc158_27 (sp_mwithin (d := 1)), xc158_38 (sp_mwithin (d := 1)), xc158_49 m0.1 z0, m0, ixL, show (-1 : Int32) < 0 from by decide, b2_0, hx, hl, hp, ht, hs, g2, true_or, not_true_eq_false, not_false_eq_true, and_self, ↓reduceIte]) (by decide) (by decide) G (same2 rfl)
  have hn9 : n ≤ 9 := by clear F; omega
  have g1 : A 0 < 10 := by rw [r0]; exact nI_lt (a := n) (b := 10) (by clear F; omega) (by clear F; omega)
  have g2 : ¬ A 0 = 10 := by rw [r0]; exact fun z => hf ((nI_eq (a := n) (b := 10) (by clear F; omega) (by clear F; omega)).mp z)
  obtain ⟨p', hp', rfl⟩ := nI_of2 (M := 999) (n := 999) (by decide) hp.1 (Int32.not_lt.mp hp.2)
  obtain ⟨t', ht', rfl⟩ := nI_of2 (M := 999) (n := 999) (by decide) ht.1 (Int32.not_lt.mp ht.2)
  obtain ⟨l', hl', rfl⟩ := nI_of2 (M := 1) (n := 1) (by decide) hl.1 (Int32.not_lt.mp hl.2)
  have ap := (AP_of DD).1
  have e1 := sp_hire (d := 0) (p := nI p') (t := nI t') (l := nI l') F K ap R hn9 hd hs (by clear F; omega)
  have F7 := OF_hrs (p := nI p') (t := nI t') (l := nI l') F R hn9 hd hs
  obtain ⟨a0, a1, a2, a3, a4, a5, a6, a7⟩ := Aw_v (A := A) (n := n) (dk := dk) (p := nI p') (t := nI t') (l := nI l')
  have e := fun (i : Nat) h0 h1 h2 h3 h4 h5 h6 h7 => Aw_e (A := A) (n := n) (dk := dk) (p := nI p') (t := nI t') (l := nI l') (i := i) h0 h1 h2 h3 h4 h5 h6 h7
  generalize eA : Aw A n dk (nI p') (nI t') (nI l') = A' at F7 a0 a1 a2 a3 a4 a5 a6 a7 e
  have R' : RG A' (n + 1) := by
    clear F F7
    have desk : ∀ w, w < n → ¬ A (10 + w) = nI dk := fun w hw => sitK_no n 0 (by omega) (by unfold sit at hs; rw [r0, nI_clamp (by omega)] at hs; exact hs) w (by omega) (by omega)
    obtain ⟨r1, r2, r3, r4, r5, r6, r7⟩ := R
    have lo : ∀ b w, 10 ≤ b → b ≤ 70 → b % 10 = 0 → w < n → A' (b + w) = A (b + w) := fun b w h1 h2 h3 h4 => e _ (by omega) (by omega) (by omega) (by omega) (by omega) (by omega) (by omega) (by omega)
    refine ⟨by omega, by rw [a0, r2, nI_1], fun w hw => ?_, fun w hw => ?_, fun w v hw hv => ?_, by rw [e 5 (by omega) (by omega) (by omega) (by omega) (by omega) (by omega) (by omega) (by omega)]; exact r6, by rw [e 6 (by omega) (by omega) (by omega) (by omega) (by omega) (by omega) (by omega) (by omega)]; exact r7⟩
    · by_cases z : w = n
      · subst z
        rw [a1, a2, a3, a4, a5]
        refine ⟨⟨dk, hd, rfl⟩, ⟨p', hp', rfl⟩, ⟨t', ht', rfl⟩, ?_, Or.inl rfl⟩
        match l', hl' with
        | 0, _ => exact Or.inl rfl
        | 1, _ => exact Or.inr rfl
      · have hw' : w < n := by omega
        rw [lo 10 w (by decide) (by decide) (by decide) hw', lo 20 w (by decide) (by decide) (by decide) hw', lo 30 w (by decide) (by decide) (by decide) hw', lo 40 w (by decide) (by decide) (by decide) hw', lo 50 w (by decide) (by decide) (by decide) hw']
        obtain ⟨b1, b2, b3, b4, b5⟩ := r3 w hw'
        refine ⟨b1, b2, b3, b4, ?_⟩
        rcases b5 with b5 | ⟨k, hk, b6, b7⟩
        · exact Or.inl b5
        · exact Or.inr ⟨k, by omega, b6, b7⟩
    · by_cases z : w = n
      · subst z
        rw [a6, a7]
        exact ⟨⟨0, by omega, rfl⟩, ⟨0, by omega, rfl⟩⟩
      · rw [e (60 + w) (by omega) (by omega) (by omega) (by omega) (by omega) (by omega) (by omega) (by omega), e (70 + w) (by omega) (by omega) (by omega) (by omega) (by omega) (by omega) (by omega) (by omega)]
        exact r4 w hw
    · intro ee
      by_cases z : w = n
      · subst z
        by_cases y : v = w
        · exact y.symm
        · rw [a1, lo 10 v (by decide) (by decide) (by decide) (by omega)] at ee
          exact absurd ee.symm (desk v (by omega))
      · by_cases y : v = n
        · subst y
          rw [a1, lo 10 w (by decide) (by decide) (by decide) (by omega)] at ee
          exact absurd ee (desk w (by omega))
        · rw [lo 10 w (by decide) (by decide) (by decide) (by omega), lo 10 v (by decide) (by decide) (by decide) (by omega)] at ee
          exact r5 w v (by omega) (by omega) ee
  have fr1 : ∀ r, r < 33 ∨ 39 < r → (hrs h 33 n dk (nI p') (nI t') (nI l') A).1 r = h.1 r := fun r hr => hrs_at hr
  have z2 : (hrs h 33 n dk (nI p') (nI t') (nI l') A).2 = h.2 := rfl
  generalize eh : hrs h 33 n dk (nI p') (nI t') (nI l') A = hh at F7 e1 fr1 z2
  have S1 : ∀ j, j < 10 → kn j < hh.2.1 := fun j hj => by rw [z2]; exact l2 j hj
  have fr' : ∀ p, p < h.2.1 → (p < 33 ∨ 43 < p) → (kst hh 33 n 0 0 kn).1 p = h.1 p := fun p a b => by
    rw [kst_at (by rw [z2]; exact a) (by clear F F7; omega)]
    exact fr1 p (by clear F F7; omega)
  have fr : ∀ p, p < h.2.1 → (p < 33 ∨ 43 < p) → (p < 60 ∨ 65 < p) → (kst hh 33 n 0 0 kn).1 p = h.1 p := fun p a b _ => fr' p a b
  have K1 : KN hh A kn := KN_ne K (fun j hj => fr1 _ (by have := ap.2 j hj; clear F F7; omega))
  have hz21 : hh.2.1 = h.2.1 := by rw [z2]
  have F8 := OF_kst (w := n) (x := 0) (v := 0) F7 (by rw [z2]; clear F F7; omega)
  have en : ∀ i, ¬ i = 0 → (i < 10 ∨ 80 ≤ i) → A' i = A i := fun i h0 h1 => e i h0 (by clear F F7 F8; omega) (by clear F F7 F8; omega) (by clear F F7 F8; omega) (by clear F F7 F8; omega) (by clear F F7 F8; omega) (by clear F F7 F8; omega) (by clear F F7 F8; omega)
  have S' : SD (kst hh 33 n 0 0 kn) 33 60 A' (n + 1) C cl ml q (fun j => if j = n then hh.2.1 else kn j) := by
    have kk := KN_kst (h := hh) (o := 33) (A' := A') (k := 0) (v := 0) K1 (show n < 10 by clear F F7 F8; omega) ap S1 (by rw [z2]; clear F F7 F8; omega) (by decide) a6 a7 (fun i a b c d => e i (by clear F F7 F8; omega) (by clear F F7 F8; omega) (by clear F F7 F8; omega) (by clear F F7 F8; omega) (by clear F F7 F8; omega) (by clear F F7 F8; omega) c d)
    refine ⟨F8, kk, PP_ne (PP_cong D (en 2 (by decide) (by decide)) (en 3 (by decide) (by decide)) (en 4 (by decide) (by decide)) (en 7 (by decide) (by decide)) (fun i a b => en i (by clear F F7 F8; omega) (by clear F F7 F8; omega))) (fun p a b => fr' p (by clear F F7 F8; omega) (by clear F F7 F8; omega)), R', RP_cong Q (en 2 (by decide) (by decide)) (en 3 (by decide) (by decide)) (en 4 (by decide) (by decide)) (en 7 (by decide) (by decide)) (fun i a b => en i (by clear F F7 F8; omega) (by clear F F7 F8; omega)), HO_ne H (fun p a b => fr' p (by clear F F7 F8; omega) (by have := ap.1; clear F F7 F8; omega)), MH_cong Mh (en 1 (by decide) (by decide)) (fun i a b => en i (by clear F F7 F8; omega) (by clear F F7 F8; omega)), ⟨HRm.1, YB_cong HRm.2 (en 6 (by decide) (by decide))⟩, DP_kst DD (by rw [z2]; exact hnx), ?_, fun j hj => ?_⟩
    · show q + 5 < hh.2.1 + 1
      rw [z2]; clear F F7 F8; omega
    · show (if j = n then hh.2.1 else kn j) < hh.2.1 + 1
      have := S1 j hj
      clear F F7 F8
      split <;> omega
  have m1 := GX_cls G fr
  have F1 := MF_rst m1.1
  have z1 := sp_sits (d := 1) m1.1 R (x := nI dk)
  have i10 : (10 : Int32) + nI n = nI (10 + n) ∧ inB (nI (10 + n)) 931 = true ∧ (nI (10 + n)).toNatClampNeg = 10 + n := ixs 10 n (by clear F F7 F8; omega)
  have i20 : (20 : Int32) + nI n = nI (20 + n) ∧ inB (nI (20 + n)) 931 = true ∧ (nI (20 + n)).toNatClampNeg = 20 + n := ixs 20 n (by clear F F7 F8; omega)
  have i30 : (30 : Int32) + nI n = nI (30 + n) ∧ inB (nI (30 + n)) 931 = true ∧ (nI (30 + n)).toNatClampNeg = 30 + n := ixs 30 n (by clear F F7 F8; omega)
  have i40 : (40 : Int32) + nI n = nI (40 + n) ∧ inB (nI (40 + n)) 931 = true ∧ (nI (40 + n)).toNatClampNeg = 40 + n := ixs 40 n (by clear F F7 F8; omega)
  have i50 : (50 : Int32) + nI n = nI (50 + n) ∧ inB (nI (50 + n)) 931 = true ∧ (nI (50 + n)).toNatClampNeg = 50 + n := ixs 50 n (by clear F F7 F8; omega)
  have i60 : (60 : Int32) + nI n = nI (60 + n) ∧ inB (nI (60 + n)) 931 = true ∧ (nI (60 + n)).toNatClampNeg = 60 + n := ixs 60 n (by clear F F7 F8; omega)
  have i70 : (70 : Int32) + nI n = nI (70 + n) ∧ inB (nI (70 + n)) 931 = true ∧ (nI (70 + n)).toNatClampNeg = 70 + n := ixs 70 n (by clear F F7 F8; omega)
  have v7 : upd (upd (upd (upd (upd (upd (upd A (10 + n) (nI dk)) (20 + n) (nI p')) (30 + n) (nI t')) (40 + n) (nI l')) (50 + n) (-1)) (60 + n) 0) (70 + n) 0 0 = A 0 := by
    have w0 : ∀ a : Nat, ¬ a = 0 → (0 = a + n) = False := fun a hh => by simp; clear F F7 F8; omega
    simp only [upd_at, w0 10 (by decide), w0 20 (by decide), w0 30 (by decide), w0 40 (by decide), w0 50 (by decide), w0 60 (by decide), w0 70 (by decide), ↓reduceIte]
  have eA2 : A' = upd (upd (upd (upd (upd (upd (upd (upd A (10 + n) (nI dk)) (20 + n) (nI p')) (30 + n) (nI t')) (40 + n) (nI l')) (50 + n) (-1)) (60 + n) 0) (70 + n) 0) 0 (A 0 + 1) := eA.symm
  rw [r0] at g1 g2 e1 eA2 v7
  refine PR_st (h1 := kst hh 33 n 0 0 kn) (dc := 6) (dm := 2) (v := nI n) ?_ ?_ (by decide) (by decide) (GX_rst G S' (by show h.2.1 ≤ hh.2.1 + 1; rw [z2]; omega) fr) ⟨by show hh.2.1 + 1 ≤ _; rw [z2]; omega, by show hh.2.2 + 2 ≤ _; rw [z2]; omega⟩ (SG_same G (en 4 (by decide) (by decide)))
  · simp only [x98_0, x98_1, x98_6, x98_9, x98_11, x98_15, x98_18, x98_19, x98_20, x98_21, x98_27, x98_30, x98_31, x98_37, x98_40, x98_42, x98_43, x98_44, x98_47, x98_50, x98_51, x98_52, x98_53, x98_56, x98_58, x98_59, x98_60, x98_63, x98_66, x98_68, x98_71, x98_73, x98_76, x98_77, x98_80, x98_81, x98_82, x98_83, x98_88, xc98_3 (sp_within (d := 5)), xc98_12 (sp_within (d := 5)), xc98_24 (sp_within (d := 5)), xc98_34 (sp_within (d := 5)), xc98_85 F.1 e1, X0, F, r0, d2, d3, wat_at d10, b2_0, hx, hl, hp, ht, hs, g1, true_or, not_true_eq_false, not_false_eq_true, and_self, ↓reduceIte]
  · rw [eA2]
    simp only [x158_0, x158_1, x158_2, x158_7, x158_10, x158_12, x158_13, x158_17, x158_20, x158_21, x158_22, x158_23, x158_24, x158_30, x158_33, x158_34, x158_35, x158_41, x158_44, x158_46, x158_47, x158_48, x158_52, x158_55, x158_57, x158_58, x158_59, x158_62, x158_63, x158_64, x158_66, x158_68, x158_70, x158_73, x158_75, x158_76, x158_77, x158_80, x158_82, x158_84, x158_85, x158_86, x158_87, x158_88, x158_91, x158_93, x158_95, x158_96, x158_97, x158_98, x158_99, x158_102, x158_104, x158_106, x158_107, x158_108, x158_109, x158_110, x158_113, x158_115, x158_117, x158_118, x158_120, x158_121, x158_122, x158_125, x158_127, x158_129, x158_130, x158_131, x158_132, x158_133, x158_136, x158_138, x158_140, x158_141, x158_142, x158_143, x158_144, x158_147, x158_149, x158_151, x158_152, x158_153, x158_154, x158_155, x158_158, x158_159, x158_160, x158_161, x158_162, x158_163, x158_164, x158_165, xc158_4 (sp_mwithin (d := 1)), xc158_14 (sp_mwithin (d := 1)), xc158_27 (sp_mwithin (d := 1)), xc158_38 (sp_mwithin (d := 1)), xc158_49 m1.1.1 z1, m1.1, F1, ixL, show (-1 : Int32) < 0 from by decide, r0, i10, i20, i30, i40, i50, i60, i70, v7, rst_fold, rst_twice, b2_0, hx, hl, hp, ht, hs, g2, true_or, not_true_eq_false, not_false_eq_true, and_self, ↓reduceIte]
end WR
