-- deps: 65.start 10.sim8
section S2
variable {d a : Nat} {h : AHp} {C : va_E}
theorem st_4 (L : LO h) (c : h.1 32 = C) (cC : cls C = 11) (lC : oL C = 7) (n : h.2.1 = a) (ha : 32 < a) : ∃ h', Rf (d + 3) 94 4 [.ref 32] [] h = Rf (d + 3) 94 15 [.ref 32] [] h' ∧ h'.1 32 = oSet C 0 (.ref a) ∧ OF h' a A0 (a + 21) (fun j => a + 11 + j) ∧ KN h' A0 (fun j => a + 11 + j) ∧ HO h' (a + 21) A0 0 [] ∧ h'.2 = (a + 27, h.2.2 + 171) ∧ ∀ p, p < a → ¬ p = 32 → h'.1 p = h.1 p := by
  have m : (hnew h (.inr (6, defV 6)) 15).1 a = .inr (6, defV 6) := by rw [hnew_at, if_pos n.symm]
  have lo0 : ∀ p, p < a → (hnew h (.inr (6, defV 6)) 15).1 p = h.1 p := fun p hp => by rw [hnew_at, if_neg (by omega)]
  obtain ⟨h1, b1, f1, f2, f3, n1, e1⟩ := in_office (d := d) (o := a) (LO_lo L (fun p hp => lo0 p (by omega))) (by omega) m (by show h.2.1 + 1 = _; omega)
  have ncl : cls ((hnew h (.inr (6, defV 6)) 15).1 a) < 13 := by rw [m]; show 6 < 13; decide
  have c1 : h1.1 32 = C := by rw [e1 32 ha, lo0 32 ha]; exact c
  rw [df6] at ncl b1
  refine ⟨hset h1 32 (oSet C 0 (.ref a)), ?_, by rw [hset_at, if_pos rfl], OF_ne f1 (fun p x y => hset_ne (by omega)), KN_ne f2 (fun j hj => hset_ne (by omega)), HO_ne f3 (fun p x y => hset_ne (by omega)), ?_, fun p x y => ?_⟩
  · simp only [x94_4, x94_5, x94_8, x94_12, n, xc94_9 ncl b1, c1, cC, lC, and_self, ↓reduceIte]
  · show h1.2 = _
    rw [n1]
    show (a + 27, h.2.2 + 15 + 156) = _
    rfl
  · rw [hset_ne y, e1 p x, lo0 p x]
theorem st_26 (L : LO h) (c : h.1 32 = C) (cC : cls C = 11) (lC : oL C = 7) (n : h.2.1 = a) (ha : 32 < a) : ∃ h', Rf (d + 3) 94 26 [.ref 32] [] h = Rf (d + 3) 94 37 [.ref 32] [] h' ∧ h'.1 32 = oSet C 2 (.ref a) ∧ OF h' a A0 (a + 21) (fun j => a + 11 + j) ∧ KN h' A0 (fun j => a + 11 + j) ∧ HO h' (a + 21) A0 0 [] ∧ h'.2 = (a + 27, h.2.2 + 171) ∧ ∀ p, p < a → ¬ p = 32 → h'.1 p = h.1 p := by
  have m : (hnew h (.inr (6, defV 6)) 15).1 a = .inr (6, defV 6) := by rw [hnew_at, if_pos n.symm]
  have lo0 : ∀ p, p < a → (hnew h (.inr (6, defV 6)) 15).1 p = h.1 p := fun p hp => by rw [hnew_at, if_neg (by omega)]
  obtain ⟨h1, b1, f1, f2, f3, n1, e1⟩ := in_office (d := d) (o := a) (LO_lo L (fun p hp => lo0 p (by omega))) (by omega) m (by show h.2.1 + 1 = _; omega)
  have ncl : cls ((hnew h (.inr (6, defV 6)) 15).1 a) < 13 := by rw [m]; show 6 < 13; decide
  have c1 : h1.1 32 = C := by rw [e1 32 ha, lo0 32 ha]; exact c
  rw [df6] at ncl b1
  refine ⟨hset h1 32 (oSet C 2 (.ref a)), ?_, by rw [hset_at, if_pos rfl], OF_ne f1 (fun p x y => hset_ne (by omega)), KN_ne f2 (fun j hj => hset_ne (by omega)), HO_ne f3 (fun p x y => hset_ne (by omega)), ?_, fun p x y => ?_⟩
  · simp only [x94_26, x94_27, x94_30, x94_34, n, xc94_31 ncl b1, c1, cC, lC, and_self, ↓reduceIte]
  · show h1.2 = _
    rw [n1]
    show (a + 27, h.2.2 + 15 + 156) = _
    rfl
  · rw [hset_ne y, e1 p x, lo0 p x]
theorem st_48 (L : LO h) (c : h.1 32 = C) (cC : cls C = 11) (lC : oL C = 7) (n : h.2.1 = a) (ha : 32 < a) : ∃ h', Rf (d + 3) 94 48 [.ref 32] [] h = Rf (d + 3) 94 59 [.ref 32] [] h' ∧ h'.1 32 = oSet C 4 (.ref a) ∧ OF h' a A0 (a + 21) (fun j => a + 11 + j) ∧ KN h' A0 (fun j => a + 11 + j) ∧ HO h' (a + 21) A0 0 [] ∧ h'.2 = (a + 27, h.2.2 + 171) ∧ ∀ p, p < a → ¬ p = 32 → h'.1 p = h.1 p := by
  have m : (hnew h (.inr (6, defV 6)) 15).1 a = .inr (6, defV 6) := by rw [hnew_at, if_pos n.symm]
  have lo0 : ∀ p, p < a → (hnew h (.inr (6, defV 6)) 15).1 p = h.1 p := fun p hp => by rw [hnew_at, if_neg (by omega)]
  obtain ⟨h1, b1, f1, f2, f3, n1, e1⟩ := in_office (d := d) (o := a) (LO_lo L (fun p hp => lo0 p (by omega))) (by omega) m (by show h.2.1 + 1 = _; omega)
  have ncl : cls ((hnew h (.inr (6, defV 6)) 15).1 a) < 13 := by rw [m]; show 6 < 13; decide
  have c1 : h1.1 32 = C := by rw [e1 32 ha, lo0 32 ha]; exact c
  rw [df6] at ncl b1
  refine ⟨hset h1 32 (oSet C 4 (.ref a)), ?_, by rw [hset_at, if_pos rfl], OF_ne f1 (fun p x y => hset_ne (by omega)), KN_ne f2 (fun j hj => hset_ne (by omega)), HO_ne f3 (fun p x y => hset_ne (by omega)), ?_, fun p x y => ?_⟩
  · simp only [x94_48, x94_49, x94_52, x94_56, n, xc94_53 ncl b1, c1, cC, lC, and_self, ↓reduceIte]
  · show h1.2 = _
    rw [n1]
    show (a + 27, h.2.2 + 15 + 156) = _
    rfl
  · rw [hset_ne y, e1 p x, lo0 p x]
theorem st_15 (c : h.1 32 = C) (cC : cls C = 11) (lC : oL C = 7) (n : h.2.1 = a) (ha : 32 < a) : ∃ h', Rf (d + 3) 94 15 [.ref 32] [] h = Rf (d + 3) 94 26 [.ref 32] [] h' ∧ h'.1 32 = oSet C 1 (.ref a) ∧ PP h' a A0 ∧ h'.2 = (a + 6, h.2.2 + 155) ∧ ∀ p, p < a → ¬ p = 32 → h'.1 p = h.1 p := by
  have m : (hnew h (.inr (7, defV 7)) 9).1 a = .inr (7, defV 7) := by rw [hnew_at, if_pos n.symm]
  have lo0 : ∀ p, p < a → (hnew h (.inr (7, defV 7)) 9).1 p = h.1 p := fun p hp => by rw [hnew_at, if_neg (by omega)]
  obtain ⟨h1, b1, f1, n1, e1⟩ := in_papers (d := d + 2) (o := a) m (by show h.2.1 + 1 = _; omega)
  have ncl : cls ((hnew h (.inr (7, defV 7)) 9).1 a) < 13 := by rw [m]; show 7 < 13; decide
  have c1 : h1.1 32 = C := by rw [e1 32 ha, lo0 32 ha]; exact c
  rw [df7] at ncl b1
  refine ⟨hset h1 32 (oSet C 1 (.ref a)), ?_, by rw [hset_at, if_pos rfl], PP_ne f1 (fun p x y => hset_ne (by clear f1; omega)), ?_, fun p x y => ?_⟩
  · simp only [x94_15, x94_16, x94_19, x94_23, n, xc94_20 ncl b1, c1, cC, lC, and_self, ↓reduceIte]
  · show h1.2 = _
    rw [n1]
    show (a + 6, h.2.2 + 9 + 146) = _
    rfl
  · rw [hset_ne y, e1 p x, lo0 p x]
theorem st_37 (c : h.1 32 = C) (cC : cls C = 11) (lC : oL C = 7) (n : h.2.1 = a) (ha : 32 < a) : ∃ h', Rf (d + 3) 94 37 [.ref 32] [] h = Rf (d + 3) 94 48 [.ref 32] [] h' ∧ h'.1 32 = oSet C 3 (.ref a) ∧ PP h' a A0 ∧ h'.2 = (a + 6, h.2.2 + 155) ∧ ∀ p, p < a → ¬ p = 32 → h'.1 p = h.1 p := by
  have m : (hnew h (.inr (7, defV 7)) 9).1 a = .inr (7, defV 7) := by rw [hnew_at, if_pos n.symm]
  have lo0 : ∀ p, p < a → (hnew h (.inr (7, defV 7)) 9).1 p = h.1 p := fun p hp => by rw [hnew_at, if_neg (by omega)]
  obtain ⟨h1, b1, f1, n1, e1⟩ := in_papers (d := d + 2) (o := a) m (by show h.2.1 + 1 = _; omega)
  have ncl : cls ((hnew h (.inr (7, defV 7)) 9).1 a) < 13 := by rw [m]; show 7 < 13; decide
  have c1 : h1.1 32 = C := by rw [e1 32 ha, lo0 32 ha]; exact c
  rw [df7] at ncl b1
  refine ⟨hset h1 32 (oSet C 3 (.ref a)), ?_, by rw [hset_at, if_pos rfl], PP_ne f1 (fun p x y => hset_ne (by clear f1; omega)), ?_, fun p x y => ?_⟩
  · simp only [x94_37, x94_38, x94_41, x94_45, n, xc94_42 ncl b1, c1, cC, lC, and_self, ↓reduceIte]
  · show h1.2 = _
    rw [n1]
    show (a + 6, h.2.2 + 9 + 146) = _
    rfl
  · rw [hset_ne y, e1 p x, lo0 p x]
theorem st_59 (c : h.1 32 = C) (cC : cls C = 11) (lC : oL C = 7) (n : h.2.1 = a) (ha : 32 < a) : ∃ h', Rf (d + 3) 94 59 [.ref 32] [] h = some (none, h') ∧ h'.1 32 = oSet C 5 (.ref a) ∧ h'.1 a = .inr (10, [.ref (a + 1), .int 0]) ∧ h'.1 (a + 1) = zr 0 20 ∧ h'.2 = (a + 2, h.2.2 + 22) ∧ ∀ p, p < a → ¬ p = 32 → h'.1 p = h.1 p := by
  have m : (hnew h (.inr (10, defV 10)) 2).1 a = .inr (10, defV 10) := by rw [hnew_at, if_pos n.symm]
  have lo0 : ∀ p, p < a → (hnew h (.inr (10, defV 10)) 2).1 p = h.1 p := fun p hp => by rw [hnew_at, if_neg (by omega)]
  obtain ⟨h1, b1, f1, f2, n1, e1⟩ := in_trace (d := d + 2) (o := a) m (by show h.2.1 + 1 = _; omega)
  have ncl : cls ((hnew h (.inr (10, defV 10)) 2).1 a) < 13 := by rw [m]; show 10 < 13; decide
  have c1 : h1.1 32 = C := by rw [e1 32 ha, lo0 32 ha]; exact c
  rw [df10] at ncl b1
  refine ⟨hset h1 32 (oSet C 5 (.ref a)), ?_, by rw [hset_at, if_pos rfl], (hset_ne (by omega)).trans f1, (hset_ne (by omega)).trans f2, ?_, fun p x y => ?_⟩
  · simp only [x94_59, x94_60, x94_63, x94_67, x94_70, n, xc94_64 ncl b1, c1, cC, lC, and_self, ↓reduceIte]
  · show h1.2 = _
    rw [n1]
    show (a + 2, h.2.2 + 2 + 20) = _
    rfl
  · rw [hset_ne y, e1 p x, lo0 p x]
theorem DP_0 {o : Nat} (ho : o = 33 ∨ o = 66) : DP (o + 21) (fun j => o + 11 + j) := by
  refine ⟨fun i hi => ?_, fun j hj => ?_⟩
  · unfold dyn; omega
  · show dyn (o + 11 + j)
    unfold dyn; omega
theorem law_start {L : Nat} (xs : Nat → Int32) : ∃ h', Rf (d + 5) 217 0 [.ref 31, noV, noV, noV] [] (h0A L xs) = Rf (d + 5) 217 18 [.ref 31, .ref 32, .ref 128, .int 0] [] h' ∧ GI h' ∧ sgH h' = 0 ∧ h'.2.1 = 136 ∧ h'.2.2 ≤ 10000 ∧ ∀ p, p < 32 → h'.1 p = roC L xs p := by
  generalize e0 : hnew (h0A L xs) (.inr (11, defV 11)) 7 = h0
  have n0 : h0.2 = (33, 7) := by rw [← e0]; rfl
  have lo0 : ∀ p, p < 32 → h0.1 p = roC L xs p := fun p hp => by
    rw [← e0, hnew_at, if_neg (by show ¬ p = 32; omega)]
    rfl
  have c0 : h0.1 32 = .inr (11, defV 11) := by rw [← e0, hnew_at]; exact if_pos rfl
  rw [df11] at c0
  have L0 : LO h0 := fun p hp => by
    rw [lo0 p (by omega), lo0 (15 + p) (by omega)]
    unfold roC
    rw [if_pos hp, if_neg (by omega), if_pos (by omega), Nat.add_sub_cancel_left]
    exact ⟨rfl, rfl⟩
  have b0 : Rf (d + 3) 94 0 [.ref 32] [] h0 = Rf (d + 3) 94 4 [.ref 32] [] h0 := by simp only [x94_0, x94_1]
  obtain ⟨h1, b1, c1, of1, kn1, ho1, n1, f1⟩ := st_4 (d := d) (a := 33) L0 c0 rfl rfl (by rw [n0]) (by decide)
  have L1 : LO h1 := LO_lo L0 (fun p hp => f1 p (by omega) (by omega))
  obtain ⟨h2, b2, c2, pp2, n2, f2⟩ := st_15 (d := d) (a := 60) c1 rfl rfl (by rw [n1]) (by decide)
  have L2 : LO h2 := LO_lo L1 (fun p hp => f2 p (by omega) (by omega))
  obtain ⟨h3, b3, c3, of3, kn3, ho3, n3, f3⟩ := st_26 (d := d) (a := 66) L2 c2 rfl rfl (by rw [n2]) (by decide)
  have L3 : LO h3 := LO_lo L2 (fun p hp => f3 p (by omega) (by omega))
  obtain ⟨h4, b4, c4, pp4, n4, f4⟩ := st_37 (d := d) (a := 93) c3 rfl rfl (by rw [n3]) (by decide)
  have L4 : LO h4 := LO_lo L3 (fun p hp => f4 p (by omega) (by omega))
  obtain ⟨h5, b5, c5, of5, kn5, ho5, n5, f5⟩ := st_48 (d := d) (a := 99) L4 c4 rfl rfl (by rw [n4]) (by decide)
  obtain ⟨h6, b6, c6, t1, t2, n6, f6⟩ := st_59 (d := d) (a := 126) c5 rfl rfl (by rw [n5]) (by decide)
  have bc : Rf (d + 3) 94 0 [.ref 32] [] h0 = some (none, h6) := b0.trans (b1.trans (b2.trans (b3.trans (b4.trans (b5.trans b6)))))
  -- the model
  have m : (hnew h6 (.inr (12, defV 12)) 12).1 128 = .inr (12, defV 12) := by rw [hnew_at, if_pos (by rw [n6])]
  have lo6 : ∀ p, p < 128 → (hnew h6 (.inr (12, defV 12)) 12).1 p = h6.1 p := fun p hp => by rw [hnew_at, if_neg (by rw [n6]; show ¬ p = 128; omega)]
  obtain ⟨h7, b7, mm, n7, f7⟩ := in_model (d := d + 4) (o := 128) m (by show h6.2.1 + 1 = _; rw [n6])
  have g7 : ∀ p, p < 128 → h7.1 p = h6.1 p := fun p hp => (f7 p hp).trans (lo6 p hp)
  have g6 : ∀ p, p < 126 → ¬ p = 32 → h7.1 p = h5.1 p := fun p hp h32 => (g7 p (by omega)).trans (f6 p hp h32)
  have g5 : ∀ p, p < 99 → ¬ p = 32 → h7.1 p = h4.1 p := fun p hp h32 => (g6 p (by omega) h32).trans (f5 p hp h32)
  have g4 : ∀ p, p < 93 → ¬ p = 32 → h7.1 p = h3.1 p := fun p hp h32 => (g5 p (by omega) h32).trans (f4 p hp h32)
  have g3 : ∀ p, p < 66 → ¬ p = 32 → h7.1 p = h2.1 p := fun p hp h32 => (g4 p (by omega) h32).trans (f3 p hp h32)
  have g2 : ∀ p, p < 60 → ¬ p = 32 → h7.1 p = h1.1 p := fun p hp h32 => (g3 p (by omega) h32).trans (f2 p hp h32)
  have g1 : ∀ p, p < 33 → ¬ p = 32 → h7.1 p = h0.1 p := fun p hp h32 => (g2 p (by omega) h32).trans (f1 p hp h32)
  have c7 : h7.1 32 = h6.1 32 := g7 32 (by decide)
  have n7a : h7.2.1 = 136 := by rw [n7]
  have hs : h7.2.2 = 2889 := by
    rw [n7]
    show h6.2.2 + 12 + 2025 = 2889
    rw [n6]
    show h5.2.2 + 22 + 12 + 2025 = 2889
    rw [n5]
    show h4.2.2 + 171 + 22 + 12 + 2025 = 2889
    rw [n4]
    show h3.2.2 + 155 + 171 + 22 + 12 + 2025 = 2889
    rw [n3]
    show h2.2.2 + 171 + 155 + 171 + 22 + 12 + 2025 = 2889
    rw [n2]
    show h1.2.2 + 155 + 171 + 155 + 171 + 22 + 12 + 2025 = 2889
    rw [n1, n0]
  have PP60 : PP h7 60 A0 := PP_ne pp2 (fun p x y => g3 p (by clear pp2; omega) (by clear pp2; omega))
  have PP93 : PP h7 93 A0 := PP_ne pp4 (fun p x y => g5 p (by clear pp4; omega) (by clear pp4; omega))
  have S1 : SD h7 33 60 A0 0 A0 0 [] 54 (fun j => 44 + j) := ⟨OF_ne of1 (fun p x y => g2 p (by clear of1; omega) (by clear of1; omega)), KN_ne kn1 (fun j hj => g2 _ (by omega) (by omega)), PP60, RG_A0, RP_A0, HO_ne ho1 (fun p x y => g2 p (by omega) (by omega)), MH_A0, ⟨HR_nil, YB_A0⟩, DP_0 (Or.inl rfl), by rw [n7a]; decide, fun j hj => by rw [n7a]; show 44 + j < 136; omega⟩
  have S2 : SD h7 66 93 A0 0 A0 0 [] 87 (fun j => 77 + j) := ⟨OF_ne of3 (fun p x y => g4 p (by clear of3; omega) (by clear of3; omega)), KN_ne kn3 (fun j hj => g4 _ (by omega) (by omega)), PP93, RG_A0, RP_A0, HO_ne ho3 (fun p x y => g4 p (by omega) (by omega)), MH_A0, ⟨HR_nil, YB_A0⟩, DP_0 (Or.inr rfl), by rw [n7a]; decide, fun j hj => by rw [n7a]; show 77 + j < 136; omega⟩
  have X7 : XF h7 := by
    unfold XF
    rw [c7, c6]
    repeat' apply And.intro
    all_goals rfl
  have T7 : TR h7 0 (fun _ => 0) := by
    unfold TR
    rw [g7 126 (by decide), g7 127 (by decide), t1, t2]
    repeat' apply And.intro
    all_goals rfl
  refine ⟨h7, ?_, ⟨A0, A0, 0, 0, fun _ => 0, 0, A0, 0, [], 54, fun j => 44 + j, 0, A0, 0, [], 87, fun j => 77 + j, X7, ?_, Or.inl rfl, S1, S2, ⟨A0, _, _, OF_ne of5 (fun p x y => g6 p (by clear of5; omega) (by clear of5; omega))⟩, T7, ⟨0, by decide, rfl⟩, mm, by rw [n7a]; decide⟩, ?_, n7a, by rw [hs]; decide, fun p hp => (g1 p (by omega) (by omega)).trans (lo0 p hp)⟩
  · have ncl : cls (h0.1 32) < 13 := by rw [c0]; show 11 < 13; decide
    have ncm : cls ((hnew h6 (.inr (12, defV 12)) 12).1 128) < 13 := by rw [m]; show 12 < 13; decide
    rw [df11] at e0
    rw [df12] at ncm b7
    have p32 : (h0A L xs).2.1 = 32 := rfl
    have n6a : h6.2.1 = 128 := by rw [n6]
    have bc' := Rf_up (show d + 3 ≤ d + 4 by omega) bc
    simp only [x217_0, x217_3, x217_7, x217_8, x217_11, x217_15, x217_16, x217_17, p32, e0, xc217_4 ncl bc', n6a, xc217_12 ncm b7]
  · rw [c7, c6]; rfl
  · have e1 : oN (h7.1 60) 1 = 0 := by simp only [PP60]; rfl
    have e2 : oN (h7.1 93) 1 = 0 := by simp only [PP93]; rfl
    unfold sgH
    rw [e1, e2]
    decide
end S2
