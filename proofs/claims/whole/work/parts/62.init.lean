-- deps: 61.frozen 27.x_law
/-! THE START: what is made new. -/
def AL (h h' : AHp) (o a : Nat) (C : va_E) (i : Nat) (e : va_E) (k : Nat) : Prop := h'.1 o = oSet C i (.ref a) ∧ h'.1 a = e ∧ h'.2 = (a + 1, h.2.2 + k) ∧ ∀ p, ¬ p = o → ¬ p = a → h'.1 p = h.1 p
def alf (h : AHp) (o i : Nat) (e : va_E) (k : Nat) : AHp := hset (hnew h e k) o (oSet (h.1 o) i (.ref h.2.1))
theorem alf_AL {h : AHp} {o a i k : Nat} {C e : va_E} (c : h.1 o = C) (n : h.2.1 = a) (ho : o < a) : AL h (alf h o i e k) o a C i e k := by
  subst n c
  refine ⟨if_pos rfl, ?_, rfl, fun p h1 h2 => ?_⟩
  · rw [alf, hset_at, if_neg (by omega), hnew_at, if_pos rfl]
  · rw [alf, hset_at, if_neg h1, hnew_at, if_neg h2]
def zr (t n : Nat) : va_E := .inl (t, n, .inl (fun _ => 0))
theorem okl : okN 10 = true ∧ okN 6 = true ∧ okN 12 = true ∧ okN 100 = true ∧ okN 20 = true ∧ okN 931 = true ∧ okN 101 = true ∧ okN 22 = true ∧ okN 0 = true ∧ (10 : Int32).toNatClampNeg = 10 ∧ (6 : Int32).toNatClampNeg = 6 ∧ (12 : Int32).toNatClampNeg = 12 ∧ (100 : Int32).toNatClampNeg = 100 ∧ (20 : Int32).toNatClampNeg = 20 ∧ (931 : Int32).toNatClampNeg = 931 ∧ (101 : Int32).toNatClampNeg = 101 ∧ (22 : Int32).toNatClampNeg = 22 ∧ (0 : Int32).toNatClampNeg = 0 := by
  repeat' apply And.intro
  all_goals decide
section IN
variable {d o a n : Nat} {h : AHp} {C : va_E}
theorem al_X6_init_4 {v : Value} (c : h.1 o = C) (cc : cls C = 6) (cl : oL C = 15) (n : h.2.1 = a) (ho : o < a) : ∃ h', Rf d 39 4 [.ref o, v] [] h = Rf d 39 12 [.ref o, v] [] h' ∧ AL h h' o a C 1 (zr 0 10) 10 := by
  refine ⟨alf h o 1 (zr 0 10) 10, ?_, alf_AL c n ho⟩
  have e0 : (o = h.2.1) = False := by rw [n]; simp; omega
  simp only [x39_4, x39_5, x39_7, x39_9, okl, hnew_at, e0, c, cc, cl, and_self, ↓reduceIte]
  unfold alf
  rw [c]
  rfl
theorem al_X6_init_12 {v : Value} (c : h.1 o = C) (cc : cls C = 6) (cl : oL C = 15) (n : h.2.1 = a) (ho : o < a) : ∃ h', Rf d 39 12 [.ref o, v] [] h = Rf d 39 20 [.ref o, v] [] h' ∧ AL h h' o a C 2 (zr 0 10) 10 := by
  refine ⟨alf h o 2 (zr 0 10) 10, ?_, alf_AL c n ho⟩
  have e0 : (o = h.2.1) = False := by rw [n]; simp; omega
  simp only [x39_12, x39_13, x39_15, x39_17, okl, hnew_at, e0, c, cc, cl, and_self, ↓reduceIte]
  unfold alf
  rw [c]
  rfl
theorem al_X6_init_20 {v : Value} (c : h.1 o = C) (cc : cls C = 6) (cl : oL C = 15) (n : h.2.1 = a) (ho : o < a) : ∃ h', Rf d 39 20 [.ref o, v] [] h = Rf d 39 28 [.ref o, v] [] h' ∧ AL h h' o a C 3 (zr 0 10) 10 := by
  refine ⟨alf h o 3 (zr 0 10) 10, ?_, alf_AL c n ho⟩
  have e0 : (o = h.2.1) = False := by rw [n]; simp; omega
  simp only [x39_20, x39_21, x39_23, x39_25, okl, hnew_at, e0, c, cc, cl, and_self, ↓reduceIte]
  unfold alf
  rw [c]
  rfl
theorem al_X6_init_28 {v : Value} (c : h.1 o = C) (cc : cls C = 6) (cl : oL C = 15) (n : h.2.1 = a) (ho : o < a) : ∃ h', Rf d 39 28 [.ref o, v] [] h = Rf d 39 36 [.ref o, v] [] h' ∧ AL h h' o a C 4 (zr 0 10) 10 := by
  refine ⟨alf h o 4 (zr 0 10) 10, ?_, alf_AL c n ho⟩
  have e0 : (o = h.2.1) = False := by rw [n]; simp; omega
  simp only [x39_28, x39_29, x39_31, x39_33, okl, hnew_at, e0, c, cc, cl, and_self, ↓reduceIte]
  unfold alf
  rw [c]
  rfl
theorem al_X6_init_36 {v : Value} (c : h.1 o = C) (cc : cls C = 6) (cl : oL C = 15) (n : h.2.1 = a) (ho : o < a) : ∃ h', Rf d 39 36 [.ref o, v] [] h = Rf d 39 44 [.ref o, v] [] h' ∧ AL h h' o a C 5 (zr 0 10) 10 := by
  refine ⟨alf h o 5 (zr 0 10) 10, ?_, alf_AL c n ho⟩
  have e0 : (o = h.2.1) = False := by rw [n]; simp; omega
  simp only [x39_36, x39_37, x39_39, x39_41, okl, hnew_at, e0, c, cc, cl, and_self, ↓reduceIte]
  unfold alf
  rw [c]
  rfl
theorem al_X6_init_44 {v : Value} (c : h.1 o = C) (cc : cls C = 6) (cl : oL C = 15) (n : h.2.1 = a) (ho : o < a) : ∃ h', Rf d 39 44 [.ref o, v] [] h = Rf d 39 52 [.ref o, v] [] h' ∧ AL h h' o a C 6 (zr 0 10) 10 := by
  refine ⟨alf h o 6 (zr 0 10) 10, ?_, alf_AL c n ho⟩
  have e0 : (o = h.2.1) = False := by rw [n]; simp; omega
  simp only [x39_44, x39_45, x39_47, x39_49, okl, hnew_at, e0, c, cc, cl, and_self, ↓reduceIte]
  unfold alf
  rw [c]
  rfl
theorem al_X6_init_72 {v : Value} (c : h.1 o = C) (cc : cls C = 6) (cl : oL C = 15) (n : h.2.1 = a) (ho : o < a) : ∃ h', Rf d 39 72 [.ref o, v] [] h = Rf d 39 80 [.ref o, v] [] h' ∧ AL h h' o a C 13 (zr 0 10) 10 := by
  refine ⟨alf h o 13 (zr 0 10) 10, ?_, alf_AL c n ho⟩
  have e0 : (o = h.2.1) = False := by rw [n]; simp; omega
  simp only [x39_72, x39_73, x39_75, x39_77, okl, hnew_at, e0, c, cc, cl, and_self, ↓reduceIte]
  unfold alf
  rw [c]
  rfl
theorem al_X6_init_80 {v : Value} (c : h.1 o = C) (cc : cls C = 6) (cl : oL C = 15) (n : h.2.1 = a) (ho : o < a) : ∃ h', Rf d 39 80 [.ref o, v] [] h = Rf d 39 88 [.ref o, v] [] h' ∧ AL h h' o a C 14 (zr 2 10) 10 := by
  refine ⟨alf h o 14 (zr 2 10) 10, ?_, alf_AL c n ho⟩
  have e0 : (o = h.2.1) = False := by rw [n]; simp; omega
  simp only [x39_80, x39_81, x39_83, x39_85, okl, hnew_at, e0, c, cc, cl, and_self, ↓reduceIte]
  unfold alf
  rw [c]
  rfl
theorem al_X3_init_15 {v : Value} (c : h.1 o = C) (cc : cls C = 3) (cl : oL C = 10) (n : h.2.1 = a) (ho : o < a) : ∃ h', Rf d 12 15 [.ref o, v] [] h = Rf d 12 23 [.ref o, v] [] h' ∧ AL h h' o a C 5 (zr 0 10) 10 := by
  refine ⟨alf h o 5 (zr 0 10) 10, ?_, alf_AL c n ho⟩
  have e0 : (o = h.2.1) = False := by rw [n]; simp; omega
  simp only [x12_15, x12_16, x12_18, x12_20, okl, hnew_at, e0, c, cc, cl, and_self, ↓reduceIte]
  unfold alf
  rw [c]
  rfl
theorem al_X3_init_23 {v : Value} (c : h.1 o = C) (cc : cls C = 3) (cl : oL C = 10) (n : h.2.1 = a) (ho : o < a) : ∃ h', Rf d 12 23 [.ref o, v] [] h = Rf d 12 31 [.ref o, v] [] h' ∧ AL h h' o a C 6 (zr 0 10) 10 := by
  refine ⟨alf h o 6 (zr 0 10) 10, ?_, alf_AL c n ho⟩
  have e0 : (o = h.2.1) = False := by rw [n]; simp; omega
  simp only [x12_23, x12_24, x12_26, x12_28, okl, hnew_at, e0, c, cc, cl, and_self, ↓reduceIte]
  unfold alf
  rw [c]
  rfl
theorem al_X3_init_31 {v : Value} (c : h.1 o = C) (cc : cls C = 3) (cl : oL C = 10) (n : h.2.1 = a) (ho : o < a) : ∃ h', Rf d 12 31 [.ref o, v] [] h = Rf d 12 39 [.ref o, v] [] h' ∧ AL h h' o a C 7 (zr 0 10) 10 := by
  refine ⟨alf h o 7 (zr 0 10) 10, ?_, alf_AL c n ho⟩
  have e0 : (o = h.2.1) = False := by rw [n]; simp; omega
  simp only [x12_31, x12_32, x12_34, x12_36, okl, hnew_at, e0, c, cc, cl, and_self, ↓reduceIte]
  unfold alf
  rw [c]
  rfl
theorem al_X7_init_4 {v : Value} (c : h.1 o = C) (cc : cls C = 7) (cl : oL C = 9) (n : h.2.1 = a) (ho : o < a) : ∃ h', Rf d 76 4 [.ref o] [] h = Rf d 76 12 [.ref o] [] h' ∧ AL h h' o a C 0 (zr 1 100) 100 := by
  refine ⟨alf h o 0 (zr 1 100) 100, ?_, alf_AL c n ho⟩
  have e0 : (o = h.2.1) = False := by rw [n]; simp; omega
  simp only [x76_4, x76_5, x76_7, x76_9, okl, hnew_at, e0, c, cc, cl, and_self, ↓reduceIte]
  unfold alf
  rw [c]
  rfl
theorem al_X7_init_12 {v : Value} (c : h.1 o = C) (cc : cls C = 7) (cl : oL C = 9) (n : h.2.1 = a) (ho : o < a) : ∃ h', Rf d 76 12 [.ref o] [] h = Rf d 76 20 [.ref o] [] h' ∧ AL h h' o a C 3 (zr 0 12) 12 := by
  refine ⟨alf h o 3 (zr 0 12) 12, ?_, alf_AL c n ho⟩
  have e0 : (o = h.2.1) = False := by rw [n]; simp; omega
  simp only [x76_12, x76_13, x76_15, x76_17, okl, hnew_at, e0, c, cc, cl, and_self, ↓reduceIte]
  unfold alf
  rw [c]
  rfl
theorem al_X7_init_20 {v : Value} (c : h.1 o = C) (cc : cls C = 7) (cl : oL C = 9) (n : h.2.1 = a) (ho : o < a) : ∃ h', Rf d 76 20 [.ref o] [] h = Rf d 76 28 [.ref o] [] h' ∧ AL h h' o a C 4 (zr 0 12) 12 := by
  refine ⟨alf h o 4 (zr 0 12) 12, ?_, alf_AL c n ho⟩
  have e0 : (o = h.2.1) = False := by rw [n]; simp; omega
  simp only [x76_20, x76_21, x76_23, x76_25, okl, hnew_at, e0, c, cc, cl, and_self, ↓reduceIte]
  unfold alf
  rw [c]
  rfl
theorem al_X7_init_28 {v : Value} (c : h.1 o = C) (cc : cls C = 7) (cl : oL C = 9) (n : h.2.1 = a) (ho : o < a) : ∃ h', Rf d 76 28 [.ref o] [] h = Rf d 76 36 [.ref o] [] h' ∧ AL h h' o a C 5 (zr 0 12) 12 := by
  refine ⟨alf h o 5 (zr 0 12) 12, ?_, alf_AL c n ho⟩
  have e0 : (o = h.2.1) = False := by rw [n]; simp; omega
  simp only [x76_28, x76_29, x76_31, x76_33, okl, hnew_at, e0, c, cc, cl, and_self, ↓reduceIte]
  unfold alf
  rw [c]
  rfl
theorem al_X7_init_36 {v : Value} (c : h.1 o = C) (cc : cls C = 7) (cl : oL C = 9) (n : h.2.1 = a) (ho : o < a) : ∃ h', Rf d 76 36 [.ref o] [] h = Rf d 76 44 [.ref o] [] h' ∧ AL h h' o a C 7 (zr 0 10) 10 := by
  refine ⟨alf h o 7 (zr 0 10) 10, ?_, alf_AL c n ho⟩
  have e0 : (o = h.2.1) = False := by rw [n]; simp; omega
  simp only [x76_36, x76_37, x76_39, x76_41, okl, hnew_at, e0, c, cc, cl, and_self, ↓reduceIte]
  unfold alf
  rw [c]
  rfl
theorem al_X10_init_4 {v : Value} (c : h.1 o = C) (cc : cls C = 10) (cl : oL C = 2) (n : h.2.1 = a) (ho : o < a) : ∃ h', Rf d 92 4 [.ref o] [] h = Rf d 92 12 [.ref o] [] h' ∧ AL h h' o a C 0 (zr 0 20) 20 := by
  refine ⟨alf h o 0 (zr 0 20) 20, ?_, alf_AL c n ho⟩
  have e0 : (o = h.2.1) = False := by rw [n]; simp; omega
  simp only [x92_4, x92_5, x92_7, x92_9, okl, hnew_at, e0, c, cc, cl, and_self, ↓reduceIte]
  unfold alf
  rw [c]
  rfl
theorem al_X12_init_4 {v : Value} (c : h.1 o = C) (cc : cls C = 12) (cl : oL C = 12) (n : h.2.1 = a) (ho : o < a) : ∃ h', Rf d 130 4 [.ref o] [] h = Rf d 130 13 [.ref o] [] h' ∧ AL h h' o a C 0 (zr 0 931) 931 := by
  refine ⟨alf h o 0 (zr 0 931) 931, ?_, alf_AL c n ho⟩
  have e0 : (o = h.2.1) = False := by rw [n]; simp; omega
  simp only [x130_4, x130_5, x130_8, x130_10, okl, hnew_at, e0, c, cc, cl, and_self, ↓reduceIte]
  unfold alf
  rw [c]
  rfl
theorem al_X12_init_13 {v : Value} (c : h.1 o = C) (cc : cls C = 12) (cl : oL C = 12) (n : h.2.1 = a) (ho : o < a) : ∃ h', Rf d 130 13 [.ref o] [] h = Rf d 130 22 [.ref o] [] h' ∧ AL h h' o a C 1 (zr 0 931) 931 := by
  refine ⟨alf h o 1 (zr 0 931) 931, ?_, alf_AL c n ho⟩
  have e0 : (o = h.2.1) = False := by rw [n]; simp; omega
  simp only [x130_13, x130_14, x130_17, x130_19, okl, hnew_at, e0, c, cc, cl, and_self, ↓reduceIte]
  unfold alf
  rw [c]
  rfl
theorem al_X12_init_22 {v : Value} (c : h.1 o = C) (cc : cls C = 12) (cl : oL C = 12) (n : h.2.1 = a) (ho : o < a) : ∃ h', Rf d 130 22 [.ref o] [] h = Rf d 130 30 [.ref o] [] h' ∧ AL h h' o a C 6 (zr 0 101) 101 := by
  refine ⟨alf h o 6 (zr 0 101) 101, ?_, alf_AL c n ho⟩
  have e0 : (o = h.2.1) = False := by rw [n]; simp; omega
  simp only [x130_22, x130_23, x130_25, x130_27, okl, hnew_at, e0, c, cc, cl, and_self, ↓reduceIte]
  unfold alf
  rw [c]
  rfl
theorem al_X12_init_30 {v : Value} (c : h.1 o = C) (cc : cls C = 12) (cl : oL C = 12) (n : h.2.1 = a) (ho : o < a) : ∃ h', Rf d 130 30 [.ref o] [] h = Rf d 130 38 [.ref o] [] h' ∧ AL h h' o a C 7 (zr 0 10) 10 := by
  refine ⟨alf h o 7 (zr 0 10) 10, ?_, alf_AL c n ho⟩
  have e0 : (o = h.2.1) = False := by rw [n]; simp; omega
  simp only [x130_30, x130_31, x130_33, x130_35, okl, hnew_at, e0, c, cc, cl, and_self, ↓reduceIte]
  unfold alf
  rw [c]
  rfl
theorem al_X12_init_38 {v : Value} (c : h.1 o = C) (cc : cls C = 12) (cl : oL C = 12) (n : h.2.1 = a) (ho : o < a) : ∃ h', Rf d 130 38 [.ref o] [] h = Rf d 130 46 [.ref o] [] h' ∧ AL h h' o a C 8 (zr 0 10) 10 := by
  refine ⟨alf h o 8 (zr 0 10) 10, ?_, alf_AL c n ho⟩
  have e0 : (o = h.2.1) = False := by rw [n]; simp; omega
  simp only [x130_38, x130_39, x130_41, x130_43, okl, hnew_at, e0, c, cc, cl, and_self, ↓reduceIte]
  unfold alf
  rw [c]
  rfl
theorem al_X12_init_46 {v : Value} (c : h.1 o = C) (cc : cls C = 12) (cl : oL C = 12) (n : h.2.1 = a) (ho : o < a) : ∃ h', Rf d 130 46 [.ref o] [] h = Rf d 130 54 [.ref o] [] h' ∧ AL h h' o a C 9 (zr 0 22) 22 := by
  refine ⟨alf h o 9 (zr 0 22) 22, ?_, alf_AL c n ho⟩
  have e0 : (o = h.2.1) = False := by rw [n]; simp; omega
  simp only [x130_46, x130_47, x130_49, x130_51, okl, hnew_at, e0, c, cc, cl, and_self, ↓reduceIte]
  unfold alf
  rw [c]
  rfl
theorem al_X12_init_54 {v : Value} (c : h.1 o = C) (cc : cls C = 12) (cl : oL C = 12) (n : h.2.1 = a) (ho : o < a) : ∃ h', Rf d 130 54 [.ref o] [] h = Rf d 130 62 [.ref o] [] h' ∧ AL h h' o a C 11 (zr 0 20) 20 := by
  refine ⟨alf h o 11 (zr 0 20) 20, ?_, alf_AL c n ho⟩
  have e0 : (o = h.2.1) = False := by rw [n]; simp; omega
  simp only [x130_54, x130_55, x130_57, x130_59, okl, hnew_at, e0, c, cc, cl, and_self, ↓reduceIte]
  unfold alf
  rw [c]
  rfl
theorem in_house {t : Nat} (c : h.1 o = .inr (3, defV 3)) (t1 : aT (h.1 t) = 1) (t2 : aN (h.1 t) = n) (hn : n ≤ 100) (na : h.2.1 = a) (ho : o < a) (ht : t < a) (hto : ¬ t = o) : ∃ h', Rf d 12 0 [.ref o, .ref t] [] h = some (none, h') ∧ h'.1 o = .inr (3, [.int 20, .int 5, .ref t, .int 0, .int 0, .ref a, .ref (a + 1), .ref (a + 2), .ref (a + 3), .int 0]) ∧ h'.1 a = zr 0 10 ∧ h'.1 (a + 1) = zr 0 10 ∧ h'.1 (a + 2) = zr 0 10 ∧ h'.1 (a + 3) = zr 0 n ∧ h'.2 = (a + 4, h.2.2 + 30 + n) ∧ ∀ p, p < a → ¬ p = o → h'.1 p = h.1 p := by
  rw [df3] at c
  have b0 : Rf d 12 0 [.ref o, .ref t] [] h = Rf d 12 15 [.ref o, .ref t] [] (hset h o (.inr (3, [.int 20, .int 5, .null, .int 0, .int 0, .null, .null, .null, .null, .int 0]))) := by
    simp only [x12_0, x12_1, x12_4, x12_5, x12_7, x12_10, x12_11, x12_12, c, hset_at, show ∀ l, cls (.inr (3, l)) = 3 from fun _ => rfl, cls_set, oL_set, show oL (.inr (3, [.int 0, .int 0, .null, .int 0, .int 0, .null, .null, .null, .null, .int 0])) = 10 from rfl, and_self, ↓reduceIte, hset_hset]
    rfl
  generalize e0 : hset h o (.inr (3, [.int 20, .int 5, .null, .int 0, .int 0, .null, .null, .null, .null, .int 0])) = h0 at b0
  have c0 : h0.1 o = .inr (3, [.int 20, .int 5, .null, .int 0, .int 0, .null, .null, .null, .null, .int 0]) := by rw [← e0]; exact if_pos rfl
  have f0 : ∀ p, ¬ p = o → h0.1 p = h.1 p := fun p hp => by rw [← e0]; exact if_neg hp
  have n0 : h0.2 = h.2 := by rw [← e0]; rfl
  obtain ⟨h1, b1, c1, r1, n1, f1⟩ := al_X3_init_15 (d := d) (v := .ref t) c0 rfl rfl (by rw [n0]; exact na) ho
  obtain ⟨h2, b2, c2, r2, n2, f2⟩ := al_X3_init_23 (d := d) (v := .ref t) (a := a + 1) c1 rfl rfl (by rw [n1]) (by omega)
  obtain ⟨h3, b3, c3, r3, n3, f3⟩ := al_X3_init_31 (d := d) (v := .ref t) (a := a + 2) c2 rfl rfl (by rw [n2]) (by omega)
  have t3 : h3.1 t = h.1 t := (f3 t hto (by omega)).trans ((f2 t hto (by omega)).trans ((f1 t hto (by omega)).trans (f0 t hto)))
  have n3a : h3.2.1 = a + 3 := by rw [n3]
  have k0 : okN (nI n) = true := by
    have z1 : ¬ nI n < 0 := nI_pos (by omega)
    have z2 : (nI n).toNatClampNeg = n := nI_clamp (by omega)
    simp only [okN, z1, z2]
    simp
    omega
  have k1 : (nI n).toNatClampNeg = n := nI_clamp (by omega)
  have e3 : (o = h3.2.1) = False := by rw [n3a]; simp; omega
  have e4 : (t = o) = False := by simp [hto]
  have b4 : Rf d 12 39 [.ref o, .ref t] [] h3 = some (none, hset (hnew h3 (zr 0 n) n) o (.inr (3, [.int 20, .int 5, .ref t, .int 0, .int 0, .ref a, .ref (a + 1), .ref (a + 2), .ref (a + 3), .int 0]))) := by
    have cls3 : ∀ l, cls (.inr (3, l)) = 3 := fun _ => rfl
    have l3 : ∀ C, h3.1 o = C → oL C = 10 := fun C e => by rw [← e, c3]; rfl
    have cl3 : ∀ C, h3.1 o = C → cls C = 3 := fun C e => by rw [← e, c3]; rfl
    generalize hC : h3.1 o = C3 at c3
    have q1 := l3 C3 hC
    have q2 := cl3 C3 hC
    simp only [x12_39, x12_40, x12_41, x12_44, x12_45, x12_46, x12_47, x12_49, x12_52, hC, q1, q2, cls_set, oL_set, hset_at, hnew_at, e3, e4, t3, t1, t2, k0, k1, hset_hset, or_true, true_or, and_self, ↓reduceIte]
    have e5 : (o = (hset h3 o (oSet C3 2 (.ref t))).2.1) = False := e3
    simp only [e5, q1, q2, cls_set, oL_set, ↓reduceIte, and_self]
    have e6 : (hset h3 o (oSet C3 2 (.ref t))).2.1 = a + 3 := n3a
    rw [e6, c3]
    congr 1
    congr 1
    refine Prod.ext (funext fun p => ?_) rfl
    simp only [hset, hnew, n3a]
    by_cases y : p = o
    · rw [if_pos y, if_pos y]; rfl
    · rw [if_neg y, if_neg y]
      by_cases y2 : p = a + 3
      · have e6' : (hset h3 o (oSet C3 2 (.ref t))).2.1 = a + 3 := n3a
        subst y2
        rw [if_pos rfl, if_pos rfl, if_neg y]; rfl
      · rw [if_neg y2, if_neg y2]
        rw [if_neg y]
  refine ⟨_, (b0.trans (b1.trans (b2.trans (b3.trans b4)))), if_pos rfl, ?_, ?_, ?_, ?_, ?_, fun p hp hpo => ?_⟩
  · rw [hset_at, if_neg (by omega), hnew_at, n3a, if_neg (by omega), f3 a (by omega) (by omega), f2 a (by omega) (by omega), r1]
  · rw [hset_at, if_neg (by omega), hnew_at, n3a, if_neg (by omega), f3 _ (by omega) (by omega), r2]
  · rw [hset_at, if_neg (by omega), hnew_at, n3a, if_neg (by omega), r3]
  · rw [hset_at, if_neg (by omega), hnew_at, n3a, if_pos rfl]
  · show (h3.2.1 + 1, h3.2.2 + n) = _
    rw [n3, n2, n1, n0]
  · rw [hset_at, if_neg hpo, hnew_at, n3a, if_neg (by omega), f3 p hpo (by omega), f2 p hpo (by omega), f1 p hpo (by omega), f0 p hpo]
end IN
