-- deps: 55.act2
/-! ONE OFFICE becomes as another; the papers likewise. -/
theorem cp_row {s t : va_E} {n : Nat} {f g : Nat → Int32} (hn : n ≤ 12) (s1 : aT s = 0) (s2 : aN s = n) (s3 : aF s = f) (t1 : aT t = 0) (t2 : aN t = n) (t3 : aF t = g) (e : ∀ j, n ≤ j → f j = g j) : copyC s t 0 0 (nI n) = some (.inl (0, n, .inl f)) := by
  have hs := cell_eq s1 (by decide)
  have ht := cell_eq t1 (by decide)
  rw [s2, s3] at hs
  rw [t2, t3] at ht
  rw [hs, ht]
  have c1 : ¬ nI n < 0 := nI_pos (by omega)
  have c2 : (nI n).toNatClampNeg = n := nI_clamp (by omega)
  have z2 : (0 : Int32).toNatClampNeg = 0 := by decide
  have z1 : ¬ (0 : Int32) < 0 := by decide
  simp only [copyC, c1, c2, z1, z2, Nat.zero_add, Nat.le_refl, not_false_eq_true, and_self, true_and, show (0 : Nat) < 2 from by decide, show ¬ ((0 : Nat) = 1) from by decide, false_implies, ↓reduceIte]
  congr 3
  congr 1
  congr 1
  congr 1
  funext j
  unfold va_cpy
  by_cases hj : j < n
  · rw [if_pos ⟨by omega, by omega⟩]
    congr 1
    omega
  · rw [if_neg (by omega)]
    exact (e j (by omega)).symm
theorem fit_b : ∀ k, k ≤ 127 → fits .byte (.int (nI k)) = true := by decide +kernel
theorem cp_tape {s t : va_E} {f g : Nat → Int32} (s1 : aT s = 1) (s2 : aN s = 100) (s3 : aF s = f) (t1 : aT t = 1) (t2 : aN t = 100) (t3 : aF t = g) (e : ∀ j, 100 ≤ j → f j = g j) (b : ∀ j, j < 100 → ∃ k, k ≤ 127 ∧ f j = nI k) : copyC s t 0 0 100 = some (.inl (1, 100, .inl f)) := by
  have hs := cell_eq s1 (by decide)
  have ht := cell_eq t1 (by decide)
  rw [s2, s3] at hs
  rw [t2, t3] at ht
  rw [hs, ht]
  have c1 : ¬ (100 : Int32) < 0 := by decide
  have c2 : (100 : Int32).toNatClampNeg = 100 := by decide
  have z2 : (0 : Int32).toNatClampNeg = 0 := by decide
  have z1 : ¬ (0 : Int32) < 0 := by decide
  have hb : ∀ i, i < 100 → fits .byte (.int (f (0 + i))) = true := fun i hi => by
    obtain ⟨k, hk, ek⟩ := b i hi
    rw [Nat.zero_add, ek]
    exact fit_b k hk
  show (if _ then _ else _) = _
  rw [if_pos ⟨rfl, by decide, by decide, by decide, by decide, by decide, by decide, fun _ i hi => by rw [c2] at hi; rw [z2]; exact hb i hi⟩, c2, z2]
  congr 3
  congr 1
  congr 1
  congr 1
  funext j
  unfold va_cpy
  by_cases hj : j < 100
  · rw [if_pos ⟨by omega, by omega⟩]
    congr 1
    omega
  · rw [if_neg (by omega)]
    exact (e j (by omega)).symm
theorem sub_z {A B : Nat → Int32} {b c n : Nat} : ∀ j, n ≤ j → sub A b n j = sub B c n j := fun j hj => by
  unfold sub
  rw [if_neg (by omega), if_neg (by omega)]
theorem wat_z {A B : Nat → Int32} : ∀ j, 10 ≤ j → wat A j = wat B j := fun j hj => by
  unfold wat
  rw [if_neg (by omega), if_neg (by omega)]
theorem frR_z {A B : Nat → Int32} : ∀ j, 10 ≤ j → frR A j = frR B j := fun j hj => by
  unfold frR
  rw [if_neg (by omega), if_neg (by omega)]
theorem cellq_eq {c : va_E} (h : aTq c = 3) : c = .inl (3, aN c, .inr (.inr (.inr (.inr (aG c))))) := by
  unfold aTq at h
  split at h
  · next a =>
    obtain ⟨x, y, z⟩ := a
    simp only at h
    split at h
    · subst h
      rfl
    · exact absurd h (by decide)
  · exact absurd h (by decide)
section CP
variable {d o p q q1 n : Nat} {kn kn1 : Nat → Nat} {A A1 : Nat → Int32} {h hh : AHp} {f g : Nat → Int32}
theorem sp_copyRow {s t : Nat} (s1 : aT (hh.1 s) = 0) (s2 : aN (hh.1 s) = 10) (s3 : aF (hh.1 s) = f) (t1 : aT (hh.1 t) = 0) (t2 : aN (hh.1 t) = 10) (t3 : aF (hh.1 t) = g) (e : ∀ j, 10 ≤ j → f j = g j) : Rf d 41 0 [.ref s, .ref t] [] hh = some (none, hset hh t (.inl (0, 10, .inl f))) := by
  have c := cp_row (n := 10) (by decide) s1 s2 s3 t1 t2 t3 e
  have c' : copyC (hh.1 s) (hh.1 t) 0 0 10 = some (.inl (0, 10, .inl f)) := c
  simp only [x41_0, x41_1, x41_2, x41_3, x41_4, x41_6, x41_9, c', Option.isSome_some, Option.getD_some, ↓reduceIte]
theorem cr_1 {c e : va_E} {v : Value} (h1 : hh.1 o = c) (h2 : hh.1 p = e) (c1 : cls c = 6) (k1 : oKr c 1 = true) (r1 : oR c 1 = o + 1) (c2 : cls e = 6) (k2 : oKr e 1 = true) (r2 : oR e 1 = p + 1) (s1 : aT (hh.1 (p + 1)) = 0) (s2 : aN (hh.1 (p + 1)) = 10) (s3 : aF (hh.1 (p + 1)) = f) (t1 : aT (hh.1 (o + 1)) = 0) (t2 : aN (hh.1 (o + 1)) = 10) (t3 : aF (hh.1 (o + 1)) = g) (z : ∀ j, 10 ≤ j → f j = g j) : Rf (d + 1) 40 8 [.ref o, .ref p, v] [] hh = Rf (d + 1) 40 19 [.ref o, .ref p, v] [] (hset hh (o + 1) (.inl (0, 10, .inl f))) := by
  simp only [x40_8, x40_9, x40_12, x40_13, h1, h2, c1, k1, r1, c2, k2, r2, xc40_16 (sp_copyRow (d := d) s1 s2 s3 t1 t2 t3 z), and_self, ↓reduceIte]
theorem cr_2 {c e : va_E} {v : Value} (h1 : hh.1 o = c) (h2 : hh.1 p = e) (c1 : cls c = 6) (k1 : oKr c 2 = true) (r1 : oR c 2 = o + 2) (c2 : cls e = 6) (k2 : oKr e 2 = true) (r2 : oR e 2 = p + 2) (s1 : aT (hh.1 (p + 2)) = 0) (s2 : aN (hh.1 (p + 2)) = 10) (s3 : aF (hh.1 (p + 2)) = f) (t1 : aT (hh.1 (o + 2)) = 0) (t2 : aN (hh.1 (o + 2)) = 10) (t3 : aF (hh.1 (o + 2)) = g) (z : ∀ j, 10 ≤ j → f j = g j) : Rf (d + 1) 40 19 [.ref o, .ref p, v] [] hh = Rf (d + 1) 40 30 [.ref o, .ref p, v] [] (hset hh (o + 2) (.inl (0, 10, .inl f))) := by
  simp only [x40_19, x40_20, x40_23, x40_24, h1, h2, c1, k1, r1, c2, k2, r2, xc40_27 (sp_copyRow (d := d) s1 s2 s3 t1 t2 t3 z), and_self, ↓reduceIte]
theorem cr_3 {c e : va_E} {v : Value} (h1 : hh.1 o = c) (h2 : hh.1 p = e) (c1 : cls c = 6) (k1 : oKr c 3 = true) (r1 : oR c 3 = o + 3) (c2 : cls e = 6) (k2 : oKr e 3 = true) (r2 : oR e 3 = p + 3) (s1 : aT (hh.1 (p + 3)) = 0) (s2 : aN (hh.1 (p + 3)) = 10) (s3 : aF (hh.1 (p + 3)) = f) (t1 : aT (hh.1 (o + 3)) = 0) (t2 : aN (hh.1 (o + 3)) = 10) (t3 : aF (hh.1 (o + 3)) = g) (z : ∀ j, 10 ≤ j → f j = g j) : Rf (d + 1) 40 30 [.ref o, .ref p, v] [] hh = Rf (d + 1) 40 41 [.ref o, .ref p, v] [] (hset hh (o + 3) (.inl (0, 10, .inl f))) := by
  simp only [x40_30, x40_31, x40_34, x40_35, h1, h2, c1, k1, r1, c2, k2, r2, xc40_38 (sp_copyRow (d := d) s1 s2 s3 t1 t2 t3 z), and_self, ↓reduceIte]
theorem cr_4 {c e : va_E} {v : Value} (h1 : hh.1 o = c) (h2 : hh.1 p = e) (c1 : cls c = 6) (k1 : oKr c 4 = true) (r1 : oR c 4 = o + 4) (c2 : cls e = 6) (k2 : oKr e 4 = true) (r2 : oR e 4 = p + 4) (s1 : aT (hh.1 (p + 4)) = 0) (s2 : aN (hh.1 (p + 4)) = 10) (s3 : aF (hh.1 (p + 4)) = f) (t1 : aT (hh.1 (o + 4)) = 0) (t2 : aN (hh.1 (o + 4)) = 10) (t3 : aF (hh.1 (o + 4)) = g) (z : ∀ j, 10 ≤ j → f j = g j) : Rf (d + 1) 40 41 [.ref o, .ref p, v] [] hh = Rf (d + 1) 40 52 [.ref o, .ref p, v] [] (hset hh (o + 4) (.inl (0, 10, .inl f))) := by
  simp only [x40_41, x40_42, x40_45, x40_46, h1, h2, c1, k1, r1, c2, k2, r2, xc40_49 (sp_copyRow (d := d) s1 s2 s3 t1 t2 t3 z), and_self, ↓reduceIte]
theorem cr_5 {c e : va_E} {v : Value} (h1 : hh.1 o = c) (h2 : hh.1 p = e) (c1 : cls c = 6) (k1 : oKr c 5 = true) (r1 : oR c 5 = o + 5) (c2 : cls e = 6) (k2 : oKr e 5 = true) (r2 : oR e 5 = p + 5) (s1 : aT (hh.1 (p + 5)) = 0) (s2 : aN (hh.1 (p + 5)) = 10) (s3 : aF (hh.1 (p + 5)) = f) (t1 : aT (hh.1 (o + 5)) = 0) (t2 : aN (hh.1 (o + 5)) = 10) (t3 : aF (hh.1 (o + 5)) = g) (z : ∀ j, 10 ≤ j → f j = g j) : Rf (d + 1) 40 52 [.ref o, .ref p, v] [] hh = Rf (d + 1) 40 63 [.ref o, .ref p, v] [] (hset hh (o + 5) (.inl (0, 10, .inl f))) := by
  simp only [x40_52, x40_53, x40_56, x40_57, h1, h2, c1, k1, r1, c2, k2, r2, xc40_60 (sp_copyRow (d := d) s1 s2 s3 t1 t2 t3 z), and_self, ↓reduceIte]
theorem cr_6 {c e : va_E} {v : Value} (h1 : hh.1 o = c) (h2 : hh.1 p = e) (c1 : cls c = 6) (k1 : oKr c 6 = true) (r1 : oR c 6 = o + 6) (c2 : cls e = 6) (k2 : oKr e 6 = true) (r2 : oR e 6 = p + 6) (s1 : aT (hh.1 (p + 6)) = 0) (s2 : aN (hh.1 (p + 6)) = 10) (s3 : aF (hh.1 (p + 6)) = f) (t1 : aT (hh.1 (o + 6)) = 0) (t2 : aN (hh.1 (o + 6)) = 10) (t3 : aF (hh.1 (o + 6)) = g) (z : ∀ j, 10 ≤ j → f j = g j) : Rf (d + 1) 40 63 [.ref o, .ref p, v] [] hh = Rf (d + 1) 40 74 [.ref o, .ref p, v] [] (hset hh (o + 6) (.inl (0, 10, .inl f))) := by
  simp only [x40_63, x40_64, x40_67, x40_68, h1, h2, c1, k1, r1, c2, k2, r2, xc40_71 (sp_copyRow (d := d) s1 s2 s3 t1 t2 t3 z), and_self, ↓reduceIte]
def rwf (A : Nat → Int32) (i : Nat) : Nat → Int32 := if i = 1 then sub A 10 10 else if i = 2 then wat A else if i = 3 then sub A 20 10 else if i = 4 then sub A 30 10 else if i = 5 then sub A 40 10 else frR A
def kst2 (h : AHp) (o : Nat) (u : Nat → Option Nat) : AHp := hset h (o + 7) (.inl (3, 10, .inr (.inr (.inr (.inr u)))))
theorem aTq_k {u : Nat → Option Nat} : aTq (.inl (3, 10, .inr (.inr (.inr (.inr u))))) = 3 ∧ aN (.inl (3, 10, .inr (.inr (.inr (.inr u))))) = 10 ∧ aG (.inl (3, 10, .inr (.inr (.inr (.inr u))))) = u := ⟨rfl, rfl, rfl⟩
theorem lp_ckn {c e : va_E} (h1 : hh.1 o = c) (h2 : hh.1 p = e) (c1 : cls c = 6) (k1 : oKr c 7 = true) (r1 : oR c 7 = o + 7) (c2 : cls e = 6) (k2 : oKr e 7 = true) (r2 : oR e 7 = p + 7) (s1 : aTq (hh.1 (p + 7)) = 3) (s2 : aN (hh.1 (p + 7)) = 10) (s3 : aG (hh.1 (p + 7)) = krR kn) (K : ∀ j, j < 10 → isKn (hh.1 (kn j)) = true) (P : ∀ j, j < 10 → ¬ kn j = o + 7) (D : ¬ p = o + 7 ∧ ¬ p + 7 = o + 7) : ∀ (k w : Nat) (u : Nat → Option Nat), w + k = 10 → (∀ j, j < w → u j = some (kn j)) → (∀ j, 10 ≤ j → u j = none) → Rf d 40 76 [.ref o, .ref p, .int (nI w)] [] (kst2 hh o u) = Rf d 40 100 [.ref o, .ref p, .int (nI 10)] [] (kst2 hh o (krR kn)) := by
  intro k
  induction k with
  | zero =>
    intro w u hw hu hz
    have e0 : w = 10 := by omega
    subst e0
    have c1 : ¬ nI 10 < 10 := by decide
    have eu : u = krR kn := by
      funext j
      unfold krR
      by_cases hj : j < 10
      · rw [if_pos hj]; exact hu j hj
      · rw [if_neg hj]; exact hz j (by omega)
    rw [eu]
    simp only [x40_76, x40_77, x40_79, c1, ↓reduceIte]
  | succ k ih =>
    intro w u hw hu hz
    have w1 : nI w < 10 := nI_lt (a := w) (b := 10) (by omega) (by omega)
    have w2 : inB (nI w) 10 = true := nI_inB (by omega) (by omega)
    have w3 : (nI w).toNatClampNeg = w := nI_clamp (by omega)
    have e1 := ih (w + 1) (va_up u w (some (kn w))) (by omega) (fun j hj => by
      unfold va_up
      by_cases z : j = w
      · rw [if_pos z, z]
      · rw [if_neg z]; exact hu j (by omega)) (fun j hj => by
      unfold va_up
      rw [if_neg (by omega)]; exact hz j hj)
    have n0 : (o = o + 7) = False := by simp
    have n1 : (p = o + 7) = False := by simp [D.1]
    have n2 : (p + 7 = o + 7) = False := by simp; have := D.2; omega
    have n3 : (kn w = o + 7) = False := by simp [P w (by omega)]
    rw [x40_76]
    simp only [x40_77, x40_79, x40_82, x40_83, x40_86, x40_87, x40_88, x40_91, x40_92, x40_93, x40_94, x40_97, kst2, hset_at, n0, n1, n2, n3, h1, h2, c1, k1, r1, c2, k2, r2, s1, s2, s3, aTq_k, w1, w2, w3, K w (by omega), krR_at (show w < 10 by omega), Option.isSome_some, Option.getD_some, and_self, nI_1, ↓reduceIte]
    unfold kst2 at e1
    rw [hset_hset]
    exact e1
theorem sp_copy (F1 : OF h o A1 q1 kn1) (F : OF h p A q kn) (K : ∀ j, j < 10 → isKn (h.1 (kn j)) = true) (P : ∀ j, j < 10 → kn j < o ∨ o + 10 < kn j) (D : o + 10 < p ∨ p + 10 < o) : ∃ h', Rf (d + 1) 40 0 [.ref o, .ref p, noV] [] h = some (none, h') ∧ OF h' o A q kn ∧ OE h h' o := by
  obtain ⟨u, hu, hu2⟩ : ∃ u, h.1 (o + 7) = .inl (3, 10, .inr (.inr (.inr (.inr u)))) ∧ ∀ j, 10 ≤ j → u j = none := by
    have a : aTq (h.1 (o + 7)) = 3 ∧ aN (h.1 (o + 7)) = 10 ∧ aG (h.1 (o + 7)) = krR kn1 := by simp only [F1, and_self]
    refine ⟨krR kn1, ?_, fun j hj => if_neg (by omega)⟩
    have e := cellq_eq a.1
    rw [a.2.1, a.2.2] at e
    exact e
  have l0 : oL (h.1 o) = 15 := by simp only [F1]
  have hp : ∀ i, i ≤ 10 → p + i < o ∨ o + 10 < p + i := fun i hi => by clear F F1; omega
  have fo : cls (h.1 p) = 6 ∧ oKi (h.1 p) 0 = true ∧ oN (h.1 p) 0 = A 0 ∧ oKi (h.1 p) 8 = true ∧ oN (h.1 p) 8 = A 5 ∧ oKi (h.1 p) 9 = true ∧ oN (h.1 p) 9 = A 6 ∧ oKi (h.1 p) 10 = true ∧ oN (h.1 p) 10 = A 1 ∧ oKr (h.1 p) 11 = true ∧ oR (h.1 p) 11 = q := by simp only [F, and_self]
  have c1 : cls (h.1 o) = 6 := by simp only [F1]
  have b0 : Rf (d + 1) 40 0 [.ref o, .ref p, noV] [] h = Rf (d + 1) 40 8 [.ref o, .ref p, noV] [] (hset h o (oSet (h.1 o) 0 (.int (A 0)))) := by
    simp only [x40_0, x40_1, x40_2, x40_5, fo, c1, l0, and_self, ↓reduceIte]
  generalize ec : oSet (h.1 o) 0 (.int (A 0)) = c at b0
  have cc : cls c = 6 := by rw [← ec, cls_set]; exact c1
  have cl0 : oL c = 15 := by rw [← ec, oL_set]; exact l0
  have ck : ∀ k, ¬ k = 0 → oKr c k = oKr (h.1 o) k ∧ oR c k = oR (h.1 o) k ∧ oKi c k = oKi (h.1 o) k := fun k hk => by rw [← ec]; exact ⟨oKr_ne hk, oR_ne hk, oKi_ne hk⟩
  have c0 : oN c 0 = A 0 ∧ oKi c 0 = true := by rw [← ec]; exact ⟨oN_eq (by rw [l0]; decide), oKi_eq (by rw [l0]; decide)⟩
  clear ec
  generalize e0 : hset h o c = h0 at b0
  have g0 : h0.1 o = c := by rw [← e0]; exact if_pos rfl
  have q0 : ∀ i, 0 < i → h0.1 (o + i) = h.1 (o + i) := fun i hi => by rw [← e0]; exact if_neg (by omega)
  have s0 : ∀ r, (r < o ∨ o + 10 < r) → h0.1 r = h.1 r := fun r hr => by rw [← e0]; exact if_neg (by omega)
  have z0 : h0.2 = h.2 := by rw [← e0]; rfl
  have rr0 : ∀ i, 0 < i → i ≤ 0 → h0.1 (o + i) = .inl (0, 10, .inl (rwf A i)) := fun i a b => by omega
  have b1 := cr_1 (d := d) (hh := h0) (o := o) (p := p) (v := noV) (f := sub A 10 10) (g := sub A1 10 10) g0 (s0 p (hp 0 (by decide))) cc (by rw [(ck 1 (by decide)).1]; simp only [F1]) (by rw [(ck 1 (by decide)).2.1]; simp only [F1]) fo.1 (by simp only [F]) (by simp only [F]) (by rw [s0 (p + 1) (hp 1 (by decide))]; simp only [F]) (by rw [s0 (p + 1) (hp 1 (by decide))]; simp only [F]) (by rw [s0 (p + 1) (hp 1 (by decide))]; simp only [F]) (by rw [q0 1 (by decide)]; simp only [F1]) (by rw [q0 1 (by decide)]; simp only [F1]) (by rw [q0 1 (by decide)]; simp only [F1]) sub_z
  generalize e1 : hset h0 (o + 1) (.inl (0, 10, .inl (sub A 10 10))) = h1 at b1
  have g1 : h1.1 o = c := by rw [← e1, hset_ne (by omega)]; exact g0
  have rr1 : ∀ i, 0 < i → i ≤ 1 → h1.1 (o + i) = .inl (0, 10, .inl (rwf A i)) := fun i a b => by
    by_cases y : i = 1
    · rw [← e1, y]; exact if_pos rfl
    · rw [← e1, hset_ne (by omega)]; exact rr0 i a (by omega)
  have q1 : ∀ i, 1 < i → h1.1 (o + i) = h.1 (o + i) := fun i hi => by rw [← e1, hset_ne (by omega)]; exact q0 i (by omega)
  have s1 : ∀ r, (r < o ∨ o + 10 < r) → h1.1 r = h.1 r := fun r hr => by rw [← e1, hset_ne (by omega)]; exact s0 r hr
  have z1 : h1.2 = h.2 := by rw [← e1]; exact z0
  have b2 := cr_2 (d := d) (hh := h1) (o := o) (p := p) (v := noV) (f := wat A) (g := wat A1) g1 (s1 p (hp 0 (by decide))) cc (by rw [(ck 2 (by decide)).1]; simp only [F1]) (by rw [(ck 2 (by decide)).2.1]; simp only [F1]) fo.1 (by simp only [F]) (by simp only [F]) (by rw [s1 (p + 2) (hp 2 (by decide))]; simp only [F]) (by rw [s1 (p + 2) (hp 2 (by decide))]; simp only [F]) (by rw [s1 (p + 2) (hp 2 (by decide))]; simp only [F]) (by rw [q1 2 (by decide)]; simp only [F1]) (by rw [q1 2 (by decide)]; simp only [F1]) (by rw [q1 2 (by decide)]; simp only [F1]) wat_z
  generalize e2 : hset h1 (o + 2) (.inl (0, 10, .inl (wat A))) = h2 at b2
  have g2 : h2.1 o = c := by rw [← e2, hset_ne (by omega)]; exact g1
  have rr2 : ∀ i, 0 < i → i ≤ 2 → h2.1 (o + i) = .inl (0, 10, .inl (rwf A i)) := fun i a b => by
    by_cases y : i = 2
    · rw [← e2, y]; exact if_pos rfl
    · rw [← e2, hset_ne (by omega)]; exact rr1 i a (by omega)
  have q2 : ∀ i, 2 < i → h2.1 (o + i) = h.1 (o + i) := fun i hi => by rw [← e2, hset_ne (by omega)]; exact q1 i (by omega)
  have s2 : ∀ r, (r < o ∨ o + 10 < r) → h2.1 r = h.1 r := fun r hr => by rw [← e2, hset_ne (by omega)]; exact s1 r hr
  have z2 : h2.2 = h.2 := by rw [← e2]; exact z1
  have b3 := cr_3 (d := d) (hh := h2) (o := o) (p := p) (v := noV) (f := sub A 20 10) (g := sub A1 20 10) g2 (s2 p (hp 0 (by decide))) cc (by rw [(ck 3 (by decide)).1]; simp only [F1]) (by rw [(ck 3 (by decide)).2.1]; simp only [F1]) fo.1 (by simp only [F]) (by simp only [F]) (by rw [s2 (p + 3) (hp 3 (by decide))]; simp only [F]) (by rw [s2 (p + 3) (hp 3 (by decide))]; simp only [F]) (by rw [s2 (p + 3) (hp 3 (by decide))]; simp only [F]) (by rw [q2 3 (by decide)]; simp only [F1]) (by rw [q2 3 (by decide)]; simp only [F1]) (by rw [q2 3 (by decide)]; simp only [F1]) sub_z
  generalize e3 : hset h2 (o + 3) (.inl (0, 10, .inl (sub A 20 10))) = h3 at b3
  have g3 : h3.1 o = c := by rw [← e3, hset_ne (by omega)]; exact g2
  have rr3 : ∀ i, 0 < i → i ≤ 3 → h3.1 (o + i) = .inl (0, 10, .inl (rwf A i)) := fun i a b => by
    by_cases y : i = 3
    · rw [← e3, y]; exact if_pos rfl
    · rw [← e3, hset_ne (by omega)]; exact rr2 i a (by omega)
  have q3 : ∀ i, 3 < i → h3.1 (o + i) = h.1 (o + i) := fun i hi => by rw [← e3, hset_ne (by omega)]; exact q2 i (by omega)
  have s3 : ∀ r, (r < o ∨ o + 10 < r) → h3.1 r = h.1 r := fun r hr => by rw [← e3, hset_ne (by omega)]; exact s2 r hr
  have z3 : h3.2 = h.2 := by rw [← e3]; exact z2
  have b4 := cr_4 (d := d) (hh := h3) (o := o) (p := p) (v := noV) (f := sub A 30 10) (g := sub A1 30 10) g3 (s3 p (hp 0 (by decide))) cc (by rw [(ck 4 (by decide)).1]; simp only [F1]) (by rw [(ck 4 (by decide)).2.1]; simp only [F1]) fo.1 (by simp only [F]) (by simp only [F]) (by rw [s3 (p + 4) (hp 4 (by decide))]; simp only [F]) (by rw [s3 (p + 4) (hp 4 (by decide))]; simp only [F]) (by rw [s3 (p + 4) (hp 4 (by decide))]; simp only [F]) (by rw [q3 4 (by decide)]; simp only [F1]) (by rw [q3 4 (by decide)]; simp only [F1]) (by rw [q3 4 (by decide)]; simp only [F1]) sub_z
  generalize e4 : hset h3 (o + 4) (.inl (0, 10, .inl (sub A 30 10))) = h4 at b4
  have g4 : h4.1 o = c := by rw [← e4, hset_ne (by omega)]; exact g3
  have rr4 : ∀ i, 0 < i → i ≤ 4 → h4.1 (o + i) = .inl (0, 10, .inl (rwf A i)) := fun i a b => by
    by_cases y : i = 4
    · rw [← e4, y]; exact if_pos rfl
    · rw [← e4, hset_ne (by omega)]; exact rr3 i a (by omega)
  have q4 : ∀ i, 4 < i → h4.1 (o + i) = h.1 (o + i) := fun i hi => by rw [← e4, hset_ne (by omega)]; exact q3 i (by omega)
  have s4 : ∀ r, (r < o ∨ o + 10 < r) → h4.1 r = h.1 r := fun r hr => by rw [← e4, hset_ne (by omega)]; exact s3 r hr
  have z4 : h4.2 = h.2 := by rw [← e4]; exact z3
  have b5 := cr_5 (d := d) (hh := h4) (o := o) (p := p) (v := noV) (f := sub A 40 10) (g := sub A1 40 10) g4 (s4 p (hp 0 (by decide))) cc (by rw [(ck 5 (by decide)).1]; simp only [F1]) (by rw [(ck 5 (by decide)).2.1]; simp only [F1]) fo.1 (by simp only [F]) (by simp only [F]) (by rw [s4 (p + 5) (hp 5 (by decide))]; simp only [F]) (by rw [s4 (p + 5) (hp 5 (by decide))]; simp only [F]) (by rw [s4 (p + 5) (hp 5 (by decide))]; simp only [F]) (by rw [q4 5 (by decide)]; simp only [F1]) (by rw [q4 5 (by decide)]; simp only [F1]) (by rw [q4 5 (by decide)]; simp only [F1]) sub_z
  generalize e5 : hset h4 (o + 5) (.inl (0, 10, .inl (sub A 40 10))) = h5 at b5
  have g5 : h5.1 o = c := by rw [← e5, hset_ne (by omega)]; exact g4
  have rr5 : ∀ i, 0 < i → i ≤ 5 → h5.1 (o + i) = .inl (0, 10, .inl (rwf A i)) := fun i a b => by
    by_cases y : i = 5
    · rw [← e5, y]; exact if_pos rfl
    · rw [← e5, hset_ne (by omega)]; exact rr4 i a (by omega)
  have q5 : ∀ i, 5 < i → h5.1 (o + i) = h.1 (o + i) := fun i hi => by rw [← e5, hset_ne (by omega)]; exact q4 i (by omega)
  have s5 : ∀ r, (r < o ∨ o + 10 < r) → h5.1 r = h.1 r := fun r hr => by rw [← e5, hset_ne (by omega)]; exact s4 r hr
  have z5 : h5.2 = h.2 := by rw [← e5]; exact z4
  have b6 := cr_6 (d := d) (hh := h5) (o := o) (p := p) (v := noV) (f := frR A) (g := frR A1) g5 (s5 p (hp 0 (by decide))) cc (by rw [(ck 6 (by decide)).1]; simp only [F1]) (by rw [(ck 6 (by decide)).2.1]; simp only [F1]) fo.1 (by simp only [F]) (by simp only [F]) (by rw [s5 (p + 6) (hp 6 (by decide))]; simp only [F]) (by rw [s5 (p + 6) (hp 6 (by decide))]; simp only [F]) (by rw [s5 (p + 6) (hp 6 (by decide))]; simp only [F]) (by rw [q5 6 (by decide)]; simp only [F1]) (by rw [q5 6 (by decide)]; simp only [F1]) (by rw [q5 6 (by decide)]; simp only [F1]) frR_z
  generalize e6 : hset h5 (o + 6) (.inl (0, 10, .inl (frR A))) = h6 at b6
  have g6 : h6.1 o = c := by rw [← e6, hset_ne (by omega)]; exact g5
  have rr6 : ∀ i, 0 < i → i ≤ 6 → h6.1 (o + i) = .inl (0, 10, .inl (rwf A i)) := fun i a b => by
    by_cases y : i = 6
    · rw [← e6, y]; exact if_pos rfl
    · rw [← e6, hset_ne (by omega)]; exact rr5 i a (by omega)
  have q6 : ∀ i, 6 < i → h6.1 (o + i) = h.1 (o + i) := fun i hi => by rw [← e6, hset_ne (by omega)]; exact q5 i (by omega)
  have s6 : ∀ r, (r < o ∨ o + 10 < r) → h6.1 r = h.1 r := fun r hr => by rw [← e6, hset_ne (by omega)]; exact s5 r hr
  have z6 : h6.2 = h.2 := by rw [← e6]; exact z5
  have h6k : h6 = kst2 h6 o u := (hset_self (by rw [q6 7 (by decide)]; exact hu)).symm
  have b7 := lp_ckn (d := d + 1) (hh := h6) (kn := kn) g6 (s6 p (hp 0 (by decide))) cc (by rw [(ck 7 (by decide)).1]; simp only [F1]) (by rw [(ck 7 (by decide)).2.1]; simp only [F1]) fo.1 (by simp only [F]) (by simp only [F]) (by rw [s6 (p + 7) (hp 7 (by decide))]; simp only [F]) (by rw [s6 (p + 7) (hp 7 (by decide))]; simp only [F]) (by rw [s6 (p + 7) (hp 7 (by decide))]; simp only [F]) (fun j hj => by rw [s6 _ (P j hj)]; exact K j hj) (fun j hj => by have := P j hj; omega) ⟨by have := hp 0 (by decide); omega, by have := hp 7 (by decide); omega⟩ 10 0 u (by omega) (fun j hj => by omega) hu2
  rw [← h6k, nI_0] at b7
  have b8 : Rf (d + 1) 40 74 [.ref o, .ref p, noV] [] h6 = Rf (d + 1) 40 76 [.ref o, .ref p, .int 0] [] h6 := by
    simp only [x40_74, x40_75]
  generalize e7 : kst2 h6 o (krR kn) = h7 at b7
  have g7 : h7.1 o = c := by rw [← e7, kst2, hset_ne (by omega)]; exact g6
  have s7 : ∀ r, (r < o ∨ o + 10 < r) → h7.1 r = h.1 r := fun r hr => by rw [← e7, kst2, hset_ne (by omega)]; exact s6 r hr
  have q7 : ∀ i, 7 < i → h7.1 (o + i) = h.1 (o + i) := fun i hi => by rw [← e7, kst2, hset_ne (by omega)]; exact q6 i (by omega)
  have k7 : h7.1 (o + 7) = .inl (3, 10, .inr (.inr (.inr (.inr (krR kn))))) := by rw [← e7]; exact if_pos rfl
  have rr7 : ∀ i, 0 < i → i ≤ 6 → h7.1 (o + i) = .inl (0, 10, .inl (rwf A i)) := fun i a b => by rw [← e7, kst2, hset_ne (by omega)]; exact rr6 i a b
  have z7 : h7.2 = h.2 := by rw [← e7]; exact z6
  have np : (p = o) = False := by
    have := hp 0 (by decide)
    clear F F1
    simp
    omega
  have l8 : 8 < oL c := by rw [cl0]; decide
  have l9 : 9 < oL (oSet c 8 (.int (A 5))) := by rw [oL_set, cl0]; decide
  have l10 : 10 < oL (oSet (oSet c 8 (.int (A 5))) 9 (.int (A 6))) := by rw [oL_set, oL_set, cl0]; decide
  have l11 : 11 < oL (oSet (oSet (oSet c 8 (.int (A 5))) 9 (.int (A 6))) 10 (.int (A 1))) := by rw [oL_set, oL_set, oL_set, cl0]; decide
  have b9 : Rf (d + 1) 40 100 [.ref o, .ref p, .int (nI 10)] [] h7 = some (none, hset h7 o (oSet (oSet (oSet (oSet c 8 (.int (A 5))) 9 (.int (A 6))) 10 (.int (A 1))) 11 (.ref q))) := by
    have p7 := s7 p (hp 0 (by decide))
    simp only [x40_100, x40_101, x40_102, x40_105, x40_108, x40_109, x40_110, x40_113, x40_116, x40_117, x40_118, x40_121, x40_124, x40_125, x40_126, x40_129, x40_132, g7, p7, fo, cc, cl0, cls_set, oL_set, hset_at, np, hset_hset, and_self, ↓reduceIte]
  refine ⟨_, (b0.trans (b1.trans (b2.trans (b3.trans (b4.trans (b5.trans (b6.trans (b8.trans (b7.trans b9))))))))), ?_, ?_⟩
  · have f : ∀ i, i ≤ 10 → 7 < i → aT (h7.1 (o + i)) = aT (h.1 (o + i)) ∧ aN (h7.1 (o + i)) = aN (h.1 (o + i)) := fun i a b => by rw [q7 i b]; exact ⟨rfl, rfl⟩
    have ck' : ∀ k, ¬ k = 0 → oKr c k = oKr (h.1 o) k ∧ oR c k = oR (h.1 o) k := fun k hk => ⟨(ck k hk).1, (ck k hk).2.1⟩
    have w1 : rwf A 1 = sub A 10 10 := rfl
    have w2 : rwf A 2 = wat A := rfl
    have w3 : rwf A 3 = sub A 20 10 := rfl
    have w4 : rwf A 4 = sub A 30 10 := rfl
    have w5 : rwf A 5 = sub A 40 10 := rfl
    have w6 : rwf A 6 = frR A := rfl
    simp only [OF, hset_at, plus_ne0 o 1 (by decide), plus_ne0 o 2 (by decide), plus_ne0 o 3 (by decide), plus_ne0 o 4 (by decide), plus_ne0 o 5 (by decide), plus_ne0 o 6 (by decide), plus_ne0 o 7 (by decide), plus_ne0 o 8 (by decide), plus_ne0 o 9 (by decide), plus_ne0 o 10 (by decide), ↓reduceIte, cls_set, oL_set, cc, cl0, rr7 1 (by decide) (by decide), rr7 2 (by decide) (by decide), rr7 3 (by decide) (by decide), rr7 4 (by decide) (by decide), rr7 5 (by decide) (by decide), rr7 6 (by decide) (by decide), k7, f 8 (by decide) (by decide), f 9 (by decide) (by decide), f 10 (by decide) (by decide), aT_i, aN_i, aF_i, aTq_k, w1, w2, w3, w4, w5, w6,
      oKr_ne (show ¬ 1 = 11 by decide), oR_ne (show ¬ 1 = 11 by decide), oKr_ne (show ¬ 2 = 11 by decide), oR_ne (show ¬ 2 = 11 by decide), oKr_ne (show ¬ 3 = 11 by decide), oR_ne (show ¬ 3 = 11 by decide), oKr_ne (show ¬ 4 = 11 by decide), oR_ne (show ¬ 4 = 11 by decide), oKr_ne (show ¬ 5 = 11 by decide), oR_ne (show ¬ 5 = 11 by decide), oKr_ne (show ¬ 6 = 11 by decide), oR_ne (show ¬ 6 = 11 by decide), oKr_ne (show ¬ 7 = 11 by decide), oR_ne (show ¬ 7 = 11 by decide), oKr_ne (show ¬ 12 = 11 by decide), oR_ne (show ¬ 12 = 11 by decide), oKr_ne (show ¬ 13 = 11 by decide), oR_ne (show ¬ 13 = 11 by decide), oKr_ne (show ¬ 14 = 11 by decide), oR_ne (show ¬ 14 = 11 by decide), oKi_ne (show ¬ 0 = 11 by decide), oN_ne (show ¬ 0 = 11 by decide),
      oKr_ne (show ¬ 1 = 10 by decide), oR_ne (show ¬ 1 = 10 by decide), oKr_ne (show ¬ 2 = 10 by decide), oR_ne (show ¬ 2 = 10 by decide), oKr_ne (show ¬ 3 = 10 by decide), oR_ne (show ¬ 3 = 10 by decide), oKr_ne (show ¬ 4 = 10 by decide), oR_ne (show ¬ 4 = 10 by decide), oKr_ne (show ¬ 5 = 10 by decide), oR_ne (show ¬ 5 = 10 by decide), oKr_ne (show ¬ 6 = 10 by decide), oR_ne (show ¬ 6 = 10 by decide), oKr_ne (show ¬ 7 = 10 by decide), oR_ne (show ¬ 7 = 10 by decide), oKr_ne (show ¬ 12 = 10 by decide), oR_ne (show ¬ 12 = 10 by decide), oKr_ne (show ¬ 13 = 10 by decide), oR_ne (show ¬ 13 = 10 by decide), oKr_ne (show ¬ 14 = 10 by decide), oR_ne (show ¬ 14 = 10 by decide), oKi_ne (show ¬ 0 = 10 by decide), oN_ne (show ¬ 0 = 10 by decide),
      oKr_ne (show ¬ 1 = 9 by decide), oR_ne (show ¬ 1 = 9 by decide), oKr_ne (show ¬ 2 = 9 by decide), oR_ne (show ¬ 2 = 9 by decide), oKr_ne (show ¬ 3 = 9 by decide), oR_ne (show ¬ 3 = 9 by decide), oKr_ne (show ¬ 4 = 9 by decide), oR_ne (show ¬ 4 = 9 by decide), oKr_ne (show ¬ 5 = 9 by decide), oR_ne (show ¬ 5 = 9 by decide), oKr_ne (show ¬ 6 = 9 by decide), oR_ne (show ¬ 6 = 9 by decide), oKr_ne (show ¬ 7 = 9 by decide), oR_ne (show ¬ 7 = 9 by decide), oKr_ne (show ¬ 12 = 9 by decide), oR_ne (show ¬ 12 = 9 by decide), oKr_ne (show ¬ 13 = 9 by decide), oR_ne (show ¬ 13 = 9 by decide), oKr_ne (show ¬ 14 = 9 by decide), oR_ne (show ¬ 14 = 9 by decide), oKi_ne (show ¬ 0 = 9 by decide), oN_ne (show ¬ 0 = 9 by decide),
      oKr_ne (show ¬ 1 = 8 by decide), oR_ne (show ¬ 1 = 8 by decide), oKr_ne (show ¬ 2 = 8 by decide), oR_ne (show ¬ 2 = 8 by decide), oKr_ne (show ¬ 3 = 8 by decide), oR_ne (show ¬ 3 = 8 by decide), oKr_ne (show ¬ 4 = 8 by decide), oR_ne (show ¬ 4 = 8 by decide), oKr_ne (show ¬ 5 = 8 by decide), oR_ne (show ¬ 5 = 8 by decide), oKr_ne (show ¬ 6 = 8 by decide), oR_ne (show ¬ 6 = 8 by decide), oKr_ne (show ¬ 7 = 8 by decide), oR_ne (show ¬ 7 = 8 by decide), oKr_ne (show ¬ 12 = 8 by decide), oR_ne (show ¬ 12 = 8 by decide), oKr_ne (show ¬ 13 = 8 by decide), oR_ne (show ¬ 13 = 8 by decide), oKr_ne (show ¬ 14 = 8 by decide), oR_ne (show ¬ 14 = 8 by decide), oKi_ne (show ¬ 0 = 8 by decide), oN_ne (show ¬ 0 = 8 by decide),
      oKi_ne (show ¬ 8 = 11 by decide), oN_ne (show ¬ 8 = 11 by decide), oKi_ne (show ¬ 8 = 10 by decide), oN_ne (show ¬ 8 = 10 by decide), oKi_ne (show ¬ 8 = 9 by decide), oN_ne (show ¬ 8 = 9 by decide), oKi_ne (show ¬ 9 = 11 by decide), oN_ne (show ¬ 9 = 11 by decide), oKi_ne (show ¬ 9 = 10 by decide), oN_ne (show ¬ 9 = 10 by decide), oKi_ne (show ¬ 10 = 11 by decide), oN_ne (show ¬ 10 = 11 by decide), oN_eq l8, oKi_eq l8, oN_eq l9, oKi_eq l9, oN_eq l10, oKi_eq l10, oR_eq l11, oKr_eq l11, c0,
      ck' 1 (by decide),
      ck' 2 (by decide),
      ck' 3 (by decide),
      ck' 4 (by decide),
      ck' 5 (by decide),
      ck' 6 (by decide),
      ck' 7 (by decide),
      ck' 12 (by decide),
      ck' 13 (by decide),
      ck' 14 (by decide),
      F1, and_self]
  · exact ⟨z7, fun r hr => by rw [hset_ne (by omega)]; exact s7 r hr⟩
end CP
