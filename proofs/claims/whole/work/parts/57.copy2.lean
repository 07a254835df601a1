-- deps: 56.copy
section CQ
variable {d o p n : Nat} {A A1 : Nat → Int32} {h hh : AHp} {f g : Nat → Int32}
/-- what else lies in the heap than the papers is as it was -/
def PE (h h' : AHp) (o : Nat) : Prop := h'.2 = h.2 ∧ ∀ p, (p < o ∨ o + 5 < p) → h'.1 p = h.1 p
theorem cq_2 {c e : va_E} (h1 : hh.1 o = c) (h2 : hh.1 p = e) (c1 : cls c = 7) (k1 : oKr c 3 = true) (r1 : oR c 3 = o + 2) (c2 : cls e = 7) (k2 : oKr e 3 = true) (r2 : oR e 3 = p + 2) (s1 : aT (hh.1 (p + 2)) = 0) (s2 : aN (hh.1 (p + 2)) = 12) (s3 : aF (hh.1 (p + 2)) = f) (t1 : aT (hh.1 (o + 2)) = 0) (t2 : aN (hh.1 (o + 2)) = 12) (t3 : aF (hh.1 (o + 2)) = g) (z : ∀ j, 12 ≤ j → f j = g j) : Rf d 77 31 [.ref o, .ref p] [] hh = Rf d 77 46 [.ref o, .ref p] [] (hset hh (o + 2) (.inl (0, 12, .inl f))) := by
  have c := cp_row (n := 12) (by decide) s1 s2 s3 t1 t2 t3 z
  have c' : copyC (hh.1 (p + 2)) (hh.1 (o + 2)) 0 0 12 = some (.inl (0, 12, .inl f)) := c
  simp only [x77_31, x77_32, x77_35, x77_36, x77_37, x77_40, x77_41, x77_43, h1, h2, c1, k1, r1, c2, k2, r2, c', Option.isSome_some, Option.getD_some, and_self, ↓reduceIte]
theorem cq_3 {c e : va_E} (h1 : hh.1 o = c) (h2 : hh.1 p = e) (c1 : cls c = 7) (k1 : oKr c 4 = true) (r1 : oR c 4 = o + 3) (c2 : cls e = 7) (k2 : oKr e 4 = true) (r2 : oR e 4 = p + 3) (s1 : aT (hh.1 (p + 3)) = 0) (s2 : aN (hh.1 (p + 3)) = 12) (s3 : aF (hh.1 (p + 3)) = f) (t1 : aT (hh.1 (o + 3)) = 0) (t2 : aN (hh.1 (o + 3)) = 12) (t3 : aF (hh.1 (o + 3)) = g) (z : ∀ j, 12 ≤ j → f j = g j) : Rf d 77 46 [.ref o, .ref p] [] hh = Rf d 77 61 [.ref o, .ref p] [] (hset hh (o + 3) (.inl (0, 12, .inl f))) := by
  have c := cp_row (n := 12) (by decide) s1 s2 s3 t1 t2 t3 z
  have c' : copyC (hh.1 (p + 3)) (hh.1 (o + 3)) 0 0 12 = some (.inl (0, 12, .inl f)) := c
  simp only [x77_46, x77_47, x77_50, x77_51, x77_52, x77_55, x77_56, x77_58, h1, h2, c1, k1, r1, c2, k2, r2, c', Option.isSome_some, Option.getD_some, and_self, ↓reduceIte]
theorem cq_4 {c e : va_E} (h1 : hh.1 o = c) (h2 : hh.1 p = e) (c1 : cls c = 7) (k1 : oKr c 5 = true) (r1 : oR c 5 = o + 4) (c2 : cls e = 7) (k2 : oKr e 5 = true) (r2 : oR e 5 = p + 4) (s1 : aT (hh.1 (p + 4)) = 0) (s2 : aN (hh.1 (p + 4)) = 12) (s3 : aF (hh.1 (p + 4)) = f) (t1 : aT (hh.1 (o + 4)) = 0) (t2 : aN (hh.1 (o + 4)) = 12) (t3 : aF (hh.1 (o + 4)) = g) (z : ∀ j, 12 ≤ j → f j = g j) : Rf d 77 61 [.ref o, .ref p] [] hh = Rf d 77 76 [.ref o, .ref p] [] (hset hh (o + 4) (.inl (0, 12, .inl f))) := by
  have c := cp_row (n := 12) (by decide) s1 s2 s3 t1 t2 t3 z
  have c' : copyC (hh.1 (p + 4)) (hh.1 (o + 4)) 0 0 12 = some (.inl (0, 12, .inl f)) := c
  simp only [x77_61, x77_62, x77_65, x77_66, x77_67, x77_70, x77_71, x77_73, h1, h2, c1, k1, r1, c2, k2, r2, c', Option.isSome_some, Option.getD_some, and_self, ↓reduceIte]
theorem cq_5 {c e : va_E} (h1 : hh.1 o = c) (h2 : hh.1 p = e) (c1 : cls c = 7) (k1 : oKr c 7 = true) (r1 : oR c 7 = o + 5) (c2 : cls e = 7) (k2 : oKr e 7 = true) (r2 : oR e 7 = p + 5) (s1 : aT (hh.1 (p + 5)) = 0) (s2 : aN (hh.1 (p + 5)) = 10) (s3 : aF (hh.1 (p + 5)) = f) (t1 : aT (hh.1 (o + 5)) = 0) (t2 : aN (hh.1 (o + 5)) = 10) (t3 : aF (hh.1 (o + 5)) = g) (z : ∀ j, 10 ≤ j → f j = g j) : Rf d 77 84 [.ref o, .ref p] [] hh = Rf d 77 99 [.ref o, .ref p] [] (hset hh (o + 5) (.inl (0, 10, .inl f))) := by
  have c := cp_row (n := 10) (by decide) s1 s2 s3 t1 t2 t3 z
  have c' : copyC (hh.1 (p + 5)) (hh.1 (o + 5)) 0 0 10 = some (.inl (0, 10, .inl f)) := c
  simp only [x77_84, x77_85, x77_88, x77_89, x77_90, x77_93, x77_94, x77_96, h1, h2, c1, k1, r1, c2, k2, r2, c', Option.isSome_some, Option.getD_some, and_self, ↓reduceIte]
theorem sp_copyP (F1 : PP h o A1) (F : PP h p A) (Q : RP A) (D : o + 5 < p ∨ p + 5 < o) : ∃ h', Rf d 77 0 [.ref o, .ref p] [] h = some (none, h') ∧ PP h' o A ∧ PE h h' o := by
  have l0 : oL (h.1 o) = 9 := by simp only [F1]
  have hp : ∀ i, i ≤ 5 → p + i < o ∨ o + 5 < p + i := fun i hi => by clear F F1; omega
  have fo : cls (h.1 p) = 7 ∧ oKi (h.1 p) 1 = true ∧ oN (h.1 p) 1 = A 4 ∧ oKi (h.1 p) 2 = true ∧ oN (h.1 p) 2 = A 7 ∧ oKi (h.1 p) 6 = true ∧ oN (h.1 p) 6 = A 2 ∧ oKi (h.1 p) 8 = true ∧ oN (h.1 p) 8 = A 3 := by simp only [F, and_self]
  have fr : cls (h.1 o) = 7 ∧ oKr (h.1 o) 0 = true ∧ oR (h.1 o) 0 = o + 1 ∧ oKr (h.1 o) 3 = true ∧ oR (h.1 o) 3 = o + 2 ∧ oKr (h.1 o) 4 = true ∧ oR (h.1 o) 4 = o + 3 ∧ oKr (h.1 o) 5 = true ∧ oR (h.1 o) 5 = o + 4 ∧ oKr (h.1 o) 7 = true ∧ oR (h.1 o) 7 = o + 5 := by simp only [F1, and_self]
  have np : (p = o) = False := by
    have := hp 0 (by decide)
    clear F F1
    simp
    omega
  have nn : ∀ i, 0 < i → i ≤ 5 → (o = o + i) = False ∧ (p = o + i) = False := fun i a b => by
    have := hp 0 (by decide)
    clear F F1
    constructor <;> simp <;> omega
  have ct := cp_tape (s := h.1 (p + 1)) (t := h.1 (o + 1)) (f := sub A 126 100) (g := sub A1 126 100) (by simp only [F]) (by simp only [F]) (by simp only [F]) (by simp only [F1]) (by simp only [F1]) (by simp only [F1]) sub_z (fun j hj => by rw [sub_at hj]; exact Q.2.2.2.2.2 j hj)
  have b0 : Rf d 77 0 [.ref o, .ref p] [] h = Rf d 77 15 [.ref o, .ref p] [] (hset h (o + 1) (.inl (1, 100, .inl (sub A 126 100)))) := by
    have a1 : oKr (h.1 p) 0 = true ∧ oR (h.1 p) 0 = p + 1 := by simp only [F, and_self]
    simp only [x77_0, x77_1, x77_4, x77_5, x77_6, x77_9, x77_10, x77_12, fo, fr, a1, ct, Option.isSome_some, Option.getD_some, and_self, ↓reduceIte]
  generalize e0 : hset h (o + 1) (.inl (1, 100, .inl (sub A 126 100))) = h0 at b0
  have g0 : h0.1 o = h.1 o := by rw [← e0, hset_ne (by clear F F1; omega)]
  have w0 : h0.1 (o + 1) = .inl (1, 100, .inl (sub A 126 100)) := by rw [← e0]; exact if_pos rfl
  have q0 : ∀ i, 1 < i → h0.1 (o + i) = h.1 (o + i) := fun i hi => by rw [← e0]; exact if_neg (by clear F F1; omega)
  have s0 : ∀ r, (r < o ∨ o + 5 < r) → h0.1 r = h.1 r := fun r hr => by rw [← e0]; exact if_neg (by clear F F1; omega)
  have z0 : h0.2 = h.2 := by rw [← e0]; rfl
  have p0 := s0 p (hp 0 (by decide))
  have b1 : Rf d 77 15 [.ref o, .ref p] [] h0 = Rf d 77 31 [.ref o, .ref p] [] (hset h0 o (oSet (oSet (h.1 o) 1 (.int (A 4))) 2 (.int (A 7)))) := by
    simp only [x77_15, x77_16, x77_17, x77_20, x77_23, x77_24, x77_25, x77_28, g0, p0, fo, fr, l0, cls_set, oL_set, hset_at, np, hset_hset, and_self, ↓reduceIte]
  have l1 : 1 < oL (h.1 o) := by rw [l0]; decide
  have l2 : 2 < oL (oSet (h.1 o) 1 (.int (A 4))) := by rw [oL_set, l0]; decide
  generalize ec : oSet (oSet (h.1 o) 1 (.int (A 4))) 2 (.int (A 7)) = c at b1
  have cc : cls c = 7 := by rw [← ec, cls_set, cls_set]; exact fr.1
  have cl0 : oL c = 9 := by rw [← ec, oL_set, oL_set]; exact l0
  have ck : ∀ k, ¬ k = 1 → ¬ k = 2 → oKr c k = oKr (h.1 o) k ∧ oR c k = oR (h.1 o) k := fun k h1 h2 => by rw [← ec, oKr_ne h2, oKr_ne h1, oR_ne h2, oR_ne h1]; exact ⟨rfl, rfl⟩
  have c12 : oN c 1 = A 4 ∧ oKi c 1 = true ∧ oN c 2 = A 7 ∧ oKi c 2 = true := by
    rw [← ec, oN_ne (by decide), oKi_ne (by decide), oN_eq l1, oKi_eq l1, oN_eq l2, oKi_eq l2]
    exact ⟨rfl, rfl, rfl, rfl⟩
  clear ec
  generalize e1 : hset h0 o c = h1 at b1
  have g1 : h1.1 o = c := by rw [← e1]; exact if_pos rfl
  have w1 : h1.1 (o + 1) = .inl (1, 100, .inl (sub A 126 100)) := by rw [← e1, hset_ne (by clear F F1; omega)]; exact w0
  have q1 : ∀ i, 1 < i → h1.1 (o + i) = h.1 (o + i) := fun i hi => by rw [← e1, hset_ne (by clear F F1; omega)]; exact q0 i hi
  have s1 : ∀ r, (r < o ∨ o + 5 < r) → h1.1 r = h.1 r := fun r hr => by rw [← e1, hset_ne (by clear F F1; omega)]; exact s0 r hr
  have z1 : h1.2 = h.2 := by rw [← e1]; exact z0
  have b2 := cq_2 (d := d) (hh := h1) (o := o) (p := p) (f := sub A 80 12) (g := sub A1 80 12) g1 (s1 p (hp 0 (by decide))) cc (by rw [(ck 3 (by decide) (by decide)).1]; simp only [fr]) (by rw [(ck 3 (by decide) (by decide)).2]; simp only [fr]) fo.1 (by simp only [F]) (by simp only [F]) (by rw [s1 (p + 2) (hp 2 (by decide))]; simp only [F]) (by rw [s1 (p + 2) (hp 2 (by decide))]; simp only [F]) (by rw [s1 (p + 2) (hp 2 (by decide))]; simp only [F]) (by rw [q1 2 (by decide)]; simp only [F1]) (by rw [q1 2 (by decide)]; simp only [F1]) (by rw [q1 2 (by decide)]; simp only [F1]) sub_z
  generalize e2 : hset h1 (o + 2) (.inl (0, 12, .inl (sub A 80 12))) = h2 at b2
  have g2 : h2.1 o = c := by rw [← e2, hset_ne (by clear F F1; omega)]; exact g1
  have w2 : h2.1 (o + 1) = .inl (1, 100, .inl (sub A 126 100)) := by rw [← e2, hset_ne (by clear F F1; omega)]; exact w1
  have v2_2 : h2.1 (o + 2) = .inl (0, 12, .inl (sub A 80 12)) := by rw [← e2]; exact if_pos rfl
  have q2 : ∀ i, 2 < i → h2.1 (o + i) = h.1 (o + i) := fun i hi => by rw [← e2, hset_ne (by clear F F1; omega)]; exact q1 i (by clear F F1; omega)
  have s2 : ∀ r, (r < o ∨ o + 5 < r) → h2.1 r = h.1 r := fun r hr => by rw [← e2, hset_ne (by clear F F1; omega)]; exact s1 r hr
  have z2 : h2.2 = h.2 := by rw [← e2]; exact z1
  have b3 := cq_3 (d := d) (hh := h2) (o := o) (p := p) (f := sub A 92 12) (g := sub A1 92 12) g2 (s2 p (hp 0 (by decide))) cc (by rw [(ck 4 (by decide) (by decide)).1]; simp only [fr]) (by rw [(ck 4 (by decide) (by decide)).2]; simp only [fr]) fo.1 (by simp only [F]) (by simp only [F]) (by rw [s2 (p + 3) (hp 3 (by decide))]; simp only [F]) (by rw [s2 (p + 3) (hp 3 (by decide))]; simp only [F]) (by rw [s2 (p + 3) (hp 3 (by decide))]; simp only [F]) (by rw [q2 3 (by decide)]; simp only [F1]) (by rw [q2 3 (by decide)]; simp only [F1]) (by rw [q2 3 (by decide)]; simp only [F1]) sub_z
  generalize e3 : hset h2 (o + 3) (.inl (0, 12, .inl (sub A 92 12))) = h3 at b3
  have g3 : h3.1 o = c := by rw [← e3, hset_ne (by clear F F1; omega)]; exact g2
  have w3 : h3.1 (o + 1) = .inl (1, 100, .inl (sub A 126 100)) := by rw [← e3, hset_ne (by clear F F1; omega)]; exact w2
  have v3_3 : h3.1 (o + 3) = .inl (0, 12, .inl (sub A 92 12)) := by rw [← e3]; exact if_pos rfl
  have q3 : ∀ i, 3 < i → h3.1 (o + i) = h.1 (o + i) := fun i hi => by rw [← e3, hset_ne (by clear F F1; omega)]; exact q2 i (by clear F F1; omega)
  have s3 : ∀ r, (r < o ∨ o + 5 < r) → h3.1 r = h.1 r := fun r hr => by rw [← e3, hset_ne (by clear F F1; omega)]; exact s2 r hr
  have z3 : h3.2 = h.2 := by rw [← e3]; exact z2
  have b4 := cq_4 (d := d) (hh := h3) (o := o) (p := p) (f := sub A 104 12) (g := sub A1 104 12) g3 (s3 p (hp 0 (by decide))) cc (by rw [(ck 5 (by decide) (by decide)).1]; simp only [fr]) (by rw [(ck 5 (by decide) (by decide)).2]; simp only [fr]) fo.1 (by simp only [F]) (by simp only [F]) (by rw [s3 (p + 4) (hp 4 (by decide))]; simp only [F]) (by rw [s3 (p + 4) (hp 4 (by decide))]; simp only [F]) (by rw [s3 (p + 4) (hp 4 (by decide))]; simp only [F]) (by rw [q3 4 (by decide)]; simp only [F1]) (by rw [q3 4 (by decide)]; simp only [F1]) (by rw [q3 4 (by decide)]; simp only [F1]) sub_z
  generalize e4 : hset h3 (o + 4) (.inl (0, 12, .inl (sub A 104 12))) = h4 at b4
  have g4 : h4.1 o = c := by rw [← e4, hset_ne (by clear F F1; omega)]; exact g3
  have w4 : h4.1 (o + 1) = .inl (1, 100, .inl (sub A 126 100)) := by rw [← e4, hset_ne (by clear F F1; omega)]; exact w3
  have v4_4 : h4.1 (o + 4) = .inl (0, 12, .inl (sub A 104 12)) := by rw [← e4]; exact if_pos rfl
  have q4 : ∀ i, 4 < i → h4.1 (o + i) = h.1 (o + i) := fun i hi => by rw [← e4, hset_ne (by clear F F1; omega)]; exact q3 i (by clear F F1; omega)
  have s4 : ∀ r, (r < o ∨ o + 5 < r) → h4.1 r = h.1 r := fun r hr => by rw [← e4, hset_ne (by clear F F1; omega)]; exact s3 r hr
  have z4 : h4.2 = h.2 := by rw [← e4]; exact z3
  have v3_2 : h3.1 (o + 2) = .inl (0, 12, .inl (sub A 80 12)) := by rw [← e3, hset_ne (by clear F F1; omega)]; exact v2_2
  have v4_2 : h4.1 (o + 2) = .inl (0, 12, .inl (sub A 80 12)) := by rw [← e4, hset_ne (by clear F F1; omega)]; exact v3_2
  have v4_3 : h4.1 (o + 3) = .inl (0, 12, .inl (sub A 92 12)) := by rw [← e4, hset_ne (by clear F F1; omega)]; exact v3_3
  have p4 := s4 p (hp 0 (by decide))
  have b5 : Rf d 77 76 [.ref o, .ref p] [] h4 = Rf d 77 84 [.ref o, .ref p] [] (hset h4 o (oSet c 6 (.int (A 2)))) := by
    simp only [x77_76, x77_77, x77_78, x77_81, g4, p4, fo, cc, cl0, and_self, ↓reduceIte]
  have l6 : 6 < oL c := by rw [cl0]; decide
  generalize ec : oSet c 6 (.int (A 2)) = c2 at b5
  have cc2 : cls c2 = 7 := by rw [← ec, cls_set]; exact cc
  have cl2 : oL c2 = 9 := by rw [← ec, oL_set]; exact cl0
  have ck2 : ∀ k, ¬ k = 1 → ¬ k = 2 → ¬ k = 6 → oKr c2 k = oKr (h.1 o) k ∧ oR c2 k = oR (h.1 o) k := fun k h1 h2 h3 => by rw [← ec, oKr_ne h3, oR_ne h3]; exact ck k h1 h2
  have c22 : oN c2 1 = A 4 ∧ oKi c2 1 = true ∧ oN c2 2 = A 7 ∧ oKi c2 2 = true ∧ oN c2 6 = A 2 ∧ oKi c2 6 = true := by
    rw [← ec, oN_ne (by decide), oKi_ne (by decide), oN_ne (show ¬ 2 = 6 by decide), oKi_ne (show ¬ 2 = 6 by decide), oN_eq l6, oKi_eq l6]
    exact ⟨c12.1, c12.2.1, c12.2.2.1, c12.2.2.2, rfl, rfl⟩
  clear ec
  generalize e5 : hset h4 o c2 = h5 at b5
  have g5 : h5.1 o = c2 := by rw [← e5]; exact if_pos rfl
  have w5 : ∀ i, 0 < i → h5.1 (o + i) = h4.1 (o + i) := fun i hi => by rw [← e5, hset_ne (by clear F F1; omega)]
  have s5 : ∀ r, (r < o ∨ o + 5 < r) → h5.1 r = h.1 r := fun r hr => by rw [← e5, hset_ne (by clear F F1; omega)]; exact s4 r hr
  have z5 : h5.2 = h.2 := by rw [← e5]; exact z4
  have b6 := cq_5 (d := d) (hh := h5) (o := o) (p := p) (f := sub A 116 10) (g := sub A1 116 10) g5 (s5 p (hp 0 (by decide))) cc2 (by rw [(ck2 7 (by decide) (by decide) (by decide)).1]; simp only [fr]) (by rw [(ck2 7 (by decide) (by decide) (by decide)).2]; simp only [fr]) fo.1 (by simp only [F]) (by simp only [F]) (by rw [s5 (p + 5) (hp 5 (by decide))]; simp only [F]) (by rw [s5 (p + 5) (hp 5 (by decide))]; simp only [F]) (by rw [s5 (p + 5) (hp 5 (by decide))]; simp only [F]) (by rw [w5 5 (by decide), q4 5 (by decide)]; simp only [F1]) (by rw [w5 5 (by decide), q4 5 (by decide)]; simp only [F1]) (by rw [w5 5 (by decide), q4 5 (by decide)]; simp only [F1]) sub_z
  generalize e6 : hset h5 (o + 5) (.inl (0, 10, .inl (sub A 116 10))) = h6 at b6
  have g6 : h6.1 o = c2 := by rw [← e6, hset_ne (by clear F F1; omega)]; exact g5
  have w6 : ∀ i, 0 < i → i < 5 → h6.1 (o + i) = h4.1 (o + i) := fun i hi h5' => by rw [← e6, hset_ne (by clear F F1; omega)]; exact w5 i hi
  have v6 : h6.1 (o + 5) = .inl (0, 10, .inl (sub A 116 10)) := by rw [← e6]; exact if_pos rfl
  have s6 : ∀ r, (r < o ∨ o + 5 < r) → h6.1 r = h.1 r := fun r hr => by rw [← e6, hset_ne (by clear F F1; omega)]; exact s5 r hr
  have z6 : h6.2 = h.2 := by rw [← e6]; exact z5
  have p6 := s6 p (hp 0 (by decide))
  have b7 : Rf d 77 99 [.ref o, .ref p] [] h6 = some (none, hset h6 o (oSet c2 8 (.int (A 3)))) := by
    simp only [x77_99, x77_100, x77_101, x77_104, x77_107, g6, p6, fo, cc2, cl2, and_self, ↓reduceIte]
  have l8 : 8 < oL c2 := by rw [cl2]; decide
  refine ⟨_, (b0.trans (b1.trans (b2.trans (b3.trans (b4.trans (b5.trans (b6.trans b7))))))), ?_, z6, fun r hr => by rw [hset_ne (by clear F F1; omega)]; exact s6 r hr⟩
  clear b0 b1 b2 b3 b4 b5 b6 b7
  simp only [PP, hset_at, plus_ne0 o 1 (by decide), plus_ne0 o 2 (by decide), plus_ne0 o 3 (by decide), plus_ne0 o 4 (by decide), plus_ne0 o 5 (by decide), ↓reduceIte, cls_set, oL_set, cc2, cl2, w6 1 (by decide) (by decide), w6 2 (by decide) (by decide), w6 3 (by decide) (by decide), w6 4 (by decide) (by decide), w4, v4_2, v4_3, v4_4, v6, aT_i, aN_i, aF_i, oN_eq l8, oKi_eq l8, oN_ne (show ¬ 1 = 8 by decide), oKi_ne (show ¬ 1 = 8 by decide), oN_ne (show ¬ 2 = 8 by decide), oKi_ne (show ¬ 2 = 8 by decide), oN_ne (show ¬ 6 = 8 by decide), oKi_ne (show ¬ 6 = 8 by decide), c22,
    oKr_ne (show ¬ 0 = 8 by decide), oR_ne (show ¬ 0 = 8 by decide), ck2 0 (by decide) (by decide) (by decide),
    oKr_ne (show ¬ 3 = 8 by decide), oR_ne (show ¬ 3 = 8 by decide), ck2 3 (by decide) (by decide) (by decide),
    oKr_ne (show ¬ 4 = 8 by decide), oR_ne (show ¬ 4 = 8 by decide), ck2 4 (by decide) (by decide) (by decide),
    oKr_ne (show ¬ 5 = 8 by decide), oR_ne (show ¬ 5 = 8 by decide), ck2 5 (by decide) (by decide) (by decide),
    oKr_ne (show ¬ 7 = 8 by decide), oR_ne (show ¬ 7 = 8 by decide), ck2 7 (by decide) (by decide) (by decide),
    fr, and_self]
end CQ
