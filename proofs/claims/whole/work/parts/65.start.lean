-- deps: 64.init2
section OFI
variable {d o a n : Nat} {h : AHp} {C : va_E}
theorem LO_lo (L : LO h) {h' : AHp} (e : ∀ p, p < 32 → h'.1 p = h.1 p) : LO h' := fun p hp => by
  rw [e p (by omega), e (15 + p) (by omega)]
  exact L p hp
theorem al_X6_52 {v : Value} (c : h.1 o = C) (cc : cls C = 6) (cl : oL C = 15) (n : h.2.1 = a) (ho : o < a) : ∃ h', Rf d 39 52 [.ref o, v] [] h = Rf d 39 61 [.ref o, v] [] h' ∧ AL h h' o a C 7 (.inl (3, 10, .inr (.inr (.inr (.inr (fun _ => none)))))) 10 := by
  refine ⟨alf h o 7 (.inl (3, 10, .inr (.inr (.inr (.inr (fun _ => none)))))) 10, ?_, alf_AL c n ho⟩
  have e0 : (o = h.2.1) = False := by rw [n]; simp; omega
  simp only [x39_52, x39_53, x39_55, x39_58, okl, hnew_at, e0, c, cc, cl, and_self, ↓reduceIte]
  unfold alf
  rw [c]
theorem al_X6_61 {v : Value} (L : LO h) (c : h.1 o = C) (cc : cls C = 6) (cl : oL C = 15) (n : h.2.1 = a) (ho : o < a) : ∃ h', Rf (d + 2) 39 61 [.ref o, v] [] h = Rf (d + 2) 39 72 [.ref o, v] [] h' ∧ AL h h' o a C 12 (zr 0 6) 6 := by
  refine ⟨alf h o 12 (zr 0 6) 6, ?_, alf_AL c n ho⟩
  have e0 : (o = h.2.1) = False := by rw [n]; simp; omega
  have c13 : cls (h.1 0) = 13 := by rw [(L 0 (by decide)).1]; rfl
  have el := sp_length (d := d) (p := 0) L (by decide)
  have l6 : nI (sby 0).length = 6 := by decide
  rw [l6] at el
  simp only [x39_61, x39_62, x39_67, x39_69, xc39_64 c13 el, okl, hnew_at, e0, c, cc, cl, and_self, ↓reduceIte]
  unfold alf
  rw [c]
  rfl
theorem in_office (L : LO h) (ho : 32 ≤ o) (c : h.1 o = .inr (6, defV 6)) (n : h.2.1 = o + 1) : ∃ h', Rf (d + 2) 39 0 [.ref o, noV] [] h = some (none, h') ∧ OF h' o A0 (o + 21) (fun j => o + 11 + j) ∧ KN h' A0 (fun j => o + 11 + j) ∧ HO h' (o + 21) A0 0 [] ∧ h'.2 = (o + 27, h.2.2 + 156) ∧ ∀ p, p < o → h'.1 p = h.1 p := by
  rw [df6] at c
  have b0 : Rf (d + 2) 39 0 [.ref o, noV] [] h = Rf (d + 2) 39 4 [.ref o, noV] [] h := by simp only [x39_0, x39_1]
  obtain ⟨h1, b1, c1, r1, n1, f1⟩ := al_X6_init_4 (d := d + 2) (v := noV) c rfl rfl n (by omega)
  obtain ⟨h2, b2, c2, r2, n2, f2⟩ := al_X6_init_12 (d := d + 2) (v := noV) (a := o + 2) c1 rfl rfl (by rw [n1]) (by omega)
  obtain ⟨h3, b3, c3, r3, n3, f3⟩ := al_X6_init_20 (d := d + 2) (v := noV) (a := o + 3) c2 rfl rfl (by rw [n2]) (by omega)
  obtain ⟨h4, b4, c4, r4, n4, f4⟩ := al_X6_init_28 (d := d + 2) (v := noV) (a := o + 4) c3 rfl rfl (by rw [n3]) (by omega)
  obtain ⟨h5, b5, c5, r5, n5, f5⟩ := al_X6_init_36 (d := d + 2) (v := noV) (a := o + 5) c4 rfl rfl (by rw [n4]) (by omega)
  obtain ⟨h6, b6, c6, r6, n6, f6⟩ := al_X6_init_44 (d := d + 2) (v := noV) (a := o + 6) c5 rfl rfl (by rw [n5]) (by omega)
  obtain ⟨h7, b7, c7, r7, n7, f7⟩ := al_X6_52 (d := d + 2) (v := noV) (a := o + 7) c6 rfl rfl (by rw [n6]) (by omega)
  have lo7 : ∀ p, p < o → h7.1 p = h.1 p := fun p hp => by rw [f7 p (by omega) (by omega), f6 p (by omega) (by omega), f5 p (by omega) (by omega), f4 p (by omega) (by omega), f3 p (by omega) (by omega), f2 p (by omega) (by omega), f1 p (by omega) (by omega)]
  have L7 : LO h7 := LO_lo L (fun p hp => lo7 p (by omega))
  obtain ⟨h8, b8, c8, r8, n8, f8⟩ := al_X6_61 (d := d) (v := noV) (a := o + 8) L7 c7 rfl rfl (by rw [n7]) (by omega)
  obtain ⟨h9, b9, c9, r9, n9, f9⟩ := al_X6_init_72 (d := d + 2) (v := noV) (a := o + 9) c8 rfl rfl (by rw [n8]) (by omega)
  obtain ⟨hA, bA, cA, rA, nA, fA⟩ := al_X6_init_80 (d := d + 2) (v := noV) (a := o + 10) c9 rfl rfl (by rw [n9]) (by omega)
  have loA : ∀ p, p < o → hA.1 p = h.1 p := fun p hp => by rw [fA p (by omega) (by omega), f9 p (by omega) (by omega), f8 p (by omega) (by omega), lo7 p hp]
  have e1 : hA.1 (o + 1) = zr 0 10 := by rw [fA _ (by omega) (by omega), f9 _ (by omega) (by omega), f8 _ (by omega) (by omega), f7 _ (by omega) (by omega), f6 _ (by omega) (by omega), f5 _ (by omega) (by omega), f4 _ (by omega) (by omega), f3 _ (by omega) (by omega), f2 _ (by omega) (by omega), r1]
  have e2 : hA.1 (o + 2) = zr 0 10 := by rw [fA _ (by omega) (by omega), f9 _ (by omega) (by omega), f8 _ (by omega) (by omega), f7 _ (by omega) (by omega), f6 _ (by omega) (by omega), f5 _ (by omega) (by omega), f4 _ (by omega) (by omega), f3 _ (by omega) (by omega), r2]
  have e3 : hA.1 (o + 3) = zr 0 10 := by rw [fA _ (by omega) (by omega), f9 _ (by omega) (by omega), f8 _ (by omega) (by omega), f7 _ (by omega) (by omega), f6 _ (by omega) (by omega), f5 _ (by omega) (by omega), f4 _ (by omega) (by omega), r3]
  have e4 : hA.1 (o + 4) = zr 0 10 := by rw [fA _ (by omega) (by omega), f9 _ (by omega) (by omega), f8 _ (by omega) (by omega), f7 _ (by omega) (by omega), f6 _ (by omega) (by omega), f5 _ (by omega) (by omega), r4]
  have e5 : hA.1 (o + 5) = zr 0 10 := by rw [fA _ (by omega) (by omega), f9 _ (by omega) (by omega), f8 _ (by omega) (by omega), f7 _ (by omega) (by omega), f6 _ (by omega) (by omega), r5]
  have e6 : hA.1 (o + 6) = zr 0 10 := by rw [fA _ (by omega) (by omega), f9 _ (by omega) (by omega), f8 _ (by omega) (by omega), f7 _ (by omega) (by omega), r6]
  have e7 : hA.1 (o + 7) = .inl (3, 10, .inr (.inr (.inr (.inr (fun _ => none))))) := by rw [fA _ (by omega) (by omega), f9 _ (by omega) (by omega), f8 _ (by omega) (by omega), r7]
  have e8 : hA.1 (o + 8) = zr 0 6 := by rw [fA _ (by omega) (by omega), f9 _ (by omega) (by omega), r8]
  have e9 : hA.1 (o + 9) = zr 0 10 := by rw [fA _ (by omega) (by omega), r9]
  have nn : hA.2 = (o + 11, h.2.2 + 96) := by rw [nA, n9, n8, n7, n6, n5, n4, n3, n2, n1]
  -- the desks are empty
  have cC : cls (hA.1 o) = 6 := by rw [cA]; rfl
  have k2 : oKr (hA.1 o) 2 = true := by rw [cA]; rfl
  have r2' : oR (hA.1 o) 2 = o + 2 := by rw [cA]; rfl
  have bB : Rf (d + 2) 39 88 [.ref o, noV] [] hA = Rf (d + 2) 39 98 [.ref o, .int 0] [] (hset hA (o + 2) (.inl (0, 10, .inl (fun j => if j < 10 then -1 else 0)))) := by
    simp only [x39_88, x39_89, x39_92, x39_96, x39_97, xc39_93 (sp_fill (d := d + 1) (v := -1) e2), cC, k2, r2', and_self, ↓reduceIte]
  generalize eB : hset hA (o + 2) (.inl (0, 10, .inl (fun j => if j < 10 then -1 else 0))) = hB at bB
  have gB : ∀ p, ¬ p = o + 2 → hB.1 p = hA.1 p := fun p hp => by rw [← eB]; exact if_neg hp
  have gB2 : hB.1 (o + 2) = .inl (0, 10, .inl (fun j => if j < 10 then -1 else 0)) := by rw [← eB]; exact if_pos rfl
  have nB : hB.2 = (o + 11, h.2.2 + 96) := by rw [← eB]; exact nn
  generalize eC : hA.1 o = CA at cA cC k2 r2'
  have cB : hB.1 o = CA := by rw [gB o (by omega)]; exact eC
  obtain ⟨hK, bK, k7, kj, nK, fK⟩ := lp_kn0 (d := d + 1) ho cC (by rw [cA]; rfl) (by rw [cA]; rfl) 10 0 (fun _ => none) hB (by omega) cB (by rw [gB _ (by omega)]; exact e7) (by rw [nB]) (fun j hj => absurd hj (Nat.not_lt_zero _)) (fun j _ => rfl)
  rw [nI_0] at bK
  rw [nB] at nK
  have cK : hK.1 o = CA := by rw [fK o (by omega) (by omega)]; exact cB
  have nKa : hK.2.1 = o + 21 := by rw [nK]
  -- the first house
  have m1 : (hnew (hnew hK (.inr (3, defV 3)) 10) (.inl (1, 0, .inl (fun _ => 0))) 0).1 (o + 21) = .inr (3, defV 3) := by
    rw [hnew_at, if_neg (by show ¬ o + 21 = hK.2.1 + 1; omega), hnew_at, if_pos nKa.symm]
  have m2 : (hnew (hnew hK (.inr (3, defV 3)) 10) (.inl (1, 0, .inl (fun _ => 0))) 0).1 (o + 22) = .inl (1, 0, .inl (fun _ => 0)) := by
    rw [hnew_at, if_pos (by show o + 22 = hK.2.1 + 1; omega)]
  obtain ⟨hH, bH, q0, q2, q3, q4, q5, nH, fH⟩ := in_house (d := d + 1) (o := o + 21) (t := o + 22) (a := o + 23) (n := 0) m1 (by rw [m2]; rfl) (by rw [m2]; rfl) (by decide) (by show hK.2.1 + 1 + 1 = _; omega) (by omega) (by omega) (by omega)
  have nHa : hH.2 = (o + 27, h.2.2 + 156) := by
    rw [nH]
    show (o + 27, hK.2.2 + 10 + 0 + 30 + 0) = _
    rw [nK]
  have cH : hH.1 o = CA := by
    rw [fH o (by omega) (by omega), hnew_at, if_neg (by show ¬ o = hK.2.1 + 1; omega), hnew_at, if_neg (by omega)]
    exact cK
  have lo : ∀ p, p < o + 21 → hH.1 p = hK.1 p := fun p hp => by
    rw [fH p (by omega) (by omega), hnew_at, if_neg (by show ¬ p = hK.2.1 + 1; omega), hnew_at, if_neg (by omega)]
  have lH : oL CA = 15 := by rw [cA]; rfl
  have bZ : Rf (d + 2) 39 125 [.ref o, .int (nI 10)] [] hK = some (none, hset hH o (oSet CA 11 (.ref (o + 21)))) := by
    have ncl : cls ((hnew (hnew hK (.inr (3, defV 3)) 10) (.inl (1, 0, .inl (fun _ => 0))) 0).1 (o + 21)) < 13 := by rw [m1, df3]; show 3 < 13; decide
    have bH' := bH
    rw [df3] at bH' ncl
    have w1 : (hnew hK (.inr (3, [.int 0, .int 0, .null, .int 0, .int 0, .null, .null, .null, .null, .int 0])) 10).2.1 = o + 22 := by show hK.2.1 + 1 = _; omega
    simp only [x39_125, x39_126, x39_129, x39_130, x39_131, okl, nKa, w1, ↓reduceIte]
    rw [xc39_133 ncl bH']
    simp only [x39_136, x39_139, cH, cC, lH, and_self, ↓reduceIte]
  refine ⟨_, b0.trans (b1.trans (b2.trans (b3.trans (b4.trans (b5.trans (b6.trans (b7.trans (b8.trans (b9.trans (bA.trans (bB.trans (bK.trans bZ)))))))))))), ?_, ?_, ?_, nHa, fun p hp => ?_⟩
  · have g : ∀ i, 0 < i → i ≤ 10 → ¬ i = 2 → ¬ i = 7 → (hset hH o (oSet CA 11 (.ref (o + 21)))).1 (o + i) = hA.1 (o + i) := fun i i1 i2 i3 i4 => by
      rw [hset_ne (by omega), lo _ (by omega), fK _ (by omega) (by omega), gB _ (by omega)]
    have g2 : (hset hH o (oSet CA 11 (.ref (o + 21)))).1 (o + 2) = .inl (0, 10, .inl (fun j => if j < 10 then -1 else 0)) := by
      rw [hset_ne (by omega), lo _ (by omega), fK _ (by omega) (by omega), gB2]
    have g7 : (hset hH o (oSet CA 11 (.ref (o + 21)))).1 (o + 7) = .inl (3, 10, .inr (.inr (.inr (.inr (krR (fun j => o + 11 + j)))))) := by
      rw [hset_ne (by omega), lo _ (by omega), k7]
    have g0 : (hset hH o (oSet CA 11 (.ref (o + 21)))).1 o = oSet CA 11 (.ref (o + 21)) := if_pos rfl
    unfold OF
    rw [g0, g 1 (by decide) (by decide) (by decide) (by decide), g2, g 3 (by decide) (by decide) (by decide) (by decide), g 4 (by decide) (by decide) (by decide) (by decide), g 5 (by decide) (by decide) (by decide) (by decide), g 6 (by decide) (by decide) (by decide) (by decide), g7, g 8 (by decide) (by decide) (by decide) (by decide), g 9 (by decide) (by decide) (by decide) (by decide), g 10 (by decide) (by decide) (by decide) (by decide), e1, e3, e4, e5, e6, e8, e9, rA, cA, sub_A0, sub_A0, sub_A0, sub_A0, wat_A0, frR_A0]
    repeat' apply And.intro
    all_goals rfl
  · intro j hj
    have : (hset hH o (oSet CA 11 (.ref (o + 21)))).1 (o + 11 + j) = .inr (4, [.int (nI j), .int 0]) := by
      rw [hset_ne (by omega), lo _ (by omega), kj j hj]
    simp only [this]
    exact ⟨rfl, rfl, rfl, rfl, rfl, rfl⟩
  · refine ⟨fun _ => 0, fun _ => 0, fun _ => 0, ?_, by decide, by decide, fun c x hx => ?_⟩
    · have g : ∀ i, (hset hH o (oSet CA 11 (.ref (o + 21)))).1 (o + 21 + i) = hH.1 (o + 21 + i) := fun i => hset_ne (by omega)
      have g0 : (hset hH o (oSet CA 11 (.ref (o + 21)))).1 (o + 21) = hH.1 (o + 21) := hset_ne (by omega)
      unfold HF
      rw [g0, g 2, g 3, g 4, g 5, q0, show o + 21 + 2 = o + 23 from rfl, show o + 21 + 3 = o + 23 + 1 from rfl, show o + 21 + 4 = o + 23 + 2 from rfl, show o + 21 + 5 = o + 23 + 3 from rfl, q2, q3, q4, q5]
      repeat' apply And.intro
      all_goals rfl
    · exact absurd hx (by simp [flt])
  · rw [hset_ne (by omega), lo _ (by omega), fK _ (by omega) (by omega), gB _ (by omega), loA p hp]
end OFI
