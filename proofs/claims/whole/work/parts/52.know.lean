-- deps: 51.looked 50.year
/-! A KNOWING anew, A WORKER anew. -/
theorem hset_hnew {h : AHp} {c c' : va_E} {k : Nat} : hset (hnew h c k) h.2.1 c' = hnew h c' k := by
  unfold hset hnew
  refine Prod.ext (funext fun q => ?_) rfl
  simp only
  split <;> rfl
theorem hnew_new {h : AHp} {c : va_E} {k : Nat} : (hnew h c k).1 h.2.1 = c := if_pos rfl
theorem hnew_ne {h : AHp} {c : va_E} {k p : Nat} (hp : p < h.2.1) : (hnew h c k).1 p = h.1 p := if_neg (by omega)
theorem kn_c {c : Nat} {x y : Value} : cls (.inr (c, [x, y])) = c ∧ oL (.inr (c, [x, y])) = 2 := ⟨rfl, rfl⟩
theorem kn_s0 {c : Nat} {x y z : Value} : oSet (.inr (c, [x, y])) 0 z = .inr (c, [z, y]) := rfl
theorem kn_s1 {c : Nat} {x y z : Value} : oSet (.inr (c, [x, y])) 1 z = .inr (c, [x, z]) := rfl
def kst (h : AHp) (o w : Nat) (x v : Int32) (kn : Nat → Nat) : AHp := hset (hnew h (.inr (kc x, [.int (nI w), .int v])) 2) (o + 7) (.inl (3, 10, .inr (.inr (.inr (.inr (krR (fun j => if j = w then h.2.1 else kn j)))))))
theorem krR_up {kn : Nat → Nat} {w p : Nat} (hw : w < 10) : va_up (krR kn) w (some p) = krR (fun j => if j = w then p else kn j) := by
  funext j
  unfold va_up krR
  by_cases e : j = w
  · subst e
    simp only [↓reduceIte, hw]
  · simp only [e, ↓reduceIte]
section NW
variable {d o q n cl w : Nat} {kn : Nat → Nat} {A B C A' : Nat → Int32} {h h1 : AHp} {ml : List Cl} {x v : Int32}
theorem i4_0 {w v : Int32} : Rf d 28 0 [.ref h.2.1, .int w, .int v] [] (hnew h (.inr (0, [.int 0, .int 0])) 2) = some (none, hnew h (.inr (0, [.int w, .int v])) 2) := by
  simp only [x28_0, x28_1, x28_4, x28_5, x28_6_0, x28_9, x28_10, x28_11_0, x28_14, hnew_new, hset_hnew, kn_c, kn_s0, kn_s1, and_self, ↓reduceIte]
theorem i4_1 {w v : Int32} : Rf d 28 0 [.ref h.2.1, .int w, .int v] [] (hnew h (.inr (1, [.int 0, .int 0])) 2) = some (none, hnew h (.inr (1, [.int w, .int v])) 2) := by
  simp only [x28_0, x28_1, x28_4, x28_5, x28_6_1, x28_9, x28_10, x28_11_1, x28_14, hnew_new, hset_hnew, kn_c, kn_s0, kn_s1, and_self, ↓reduceIte]
theorem i4_2 {w v : Int32} : Rf d 28 0 [.ref h.2.1, .int w, .int v] [] (hnew h (.inr (2, [.int 0, .int 0])) 2) = some (none, hnew h (.inr (2, [.int w, .int v])) 2) := by
  simp only [x28_0, x28_1, x28_4, x28_5, x28_6_2, x28_9, x28_10, x28_11_2, x28_14, hnew_new, hset_hnew, kn_c, kn_s0, kn_s1, and_self, ↓reduceIte]
theorem i4_4 {w v : Int32} : Rf d 28 0 [.ref h.2.1, .int w, .int v] [] (hnew h (.inr (4, [.int 0, .int 0])) 2) = some (none, hnew h (.inr (4, [.int w, .int v])) 2) := by
  simp only [x28_0, x28_1, x28_4, x28_5, x28_6_4, x28_9, x28_10, x28_11_4, x28_14, hnew_new, hset_hnew, kn_c, kn_s0, kn_s1, and_self, ↓reduceIte]
theorem i4_5 {w v : Int32} : Rf d 28 0 [.ref h.2.1, .int w, .int v] [] (hnew h (.inr (5, [.int 0, .int 0])) 2) = some (none, hnew h (.inr (5, [.int w, .int v])) 2) := by
  simp only [x28_0, x28_1, x28_4, x28_5, x28_6_5, x28_9, x28_10, x28_11_5, x28_14, hnew_new, hset_hnew, kn_c, kn_s0, kn_s1, and_self, ↓reduceIte]
theorem i4_8 {w v : Int32} : Rf d 28 0 [.ref h.2.1, .int w, .int v] [] (hnew h (.inr (8, [.int 0, .int 0])) 2) = some (none, hnew h (.inr (8, [.int w, .int v])) 2) := by
  simp only [x28_0, x28_1, x28_4, x28_5, x28_6_8, x28_9, x28_10, x28_11_8, x28_14, hnew_new, hset_hnew, kn_c, kn_s0, kn_s1, and_self, ↓reduceIte]
theorem i4_9 {w v : Int32} : Rf d 28 0 [.ref h.2.1, .int w, .int v] [] (hnew h (.inr (9, [.int 0, .int 0])) 2) = some (none, hnew h (.inr (9, [.int w, .int v])) 2) := by
  simp only [x28_0, x28_1, x28_4, x28_5, x28_6_9, x28_9, x28_10, x28_11_9, x28_14, hnew_new, hset_hnew, kn_c, kn_s0, kn_s1, and_self, ↓reduceIte]
theorem j_2 {w v : Int32} : Rf (d + 1) 8 0 [.ref h.2.1, .int w, .int v] [] (hnew h (.inr (2, [.int 0, .int 0])) 2) = some (none, hnew h (.inr (2, [.int w, .int v])) 2) := by
  have c0 : cls ((hnew h (.inr (2, [.int 0, .int 0])) 2).1 h.2.1) < 13 := by rw [hnew_new]; show 2 < 13; decide
  simp only [x8_0, x8_1, x8_2, x8_6, xc8_3 c0 i4_2]
theorem j_5 {w v : Int32} : Rf (d + 1) 35 0 [.ref h.2.1, .int w, .int v] [] (hnew h (.inr (5, [.int 0, .int 0])) 2) = some (none, hnew h (.inr (5, [.int w, .int v])) 2) := by
  have c0 : cls ((hnew h (.inr (5, [.int 0, .int 0])) 2).1 h.2.1) < 13 := by rw [hnew_new]; show 5 < 13; decide
  simp only [x35_0, x35_1, x35_2, x35_6, xc35_3 c0 i4_5]
theorem j_9 {w v : Int32} : Rf (d + 1) 88 0 [.ref h.2.1, .int w, .int v] [] (hnew h (.inr (9, [.int 0, .int 0])) 2) = some (none, hnew h (.inr (9, [.int w, .int v])) 2) := by
  have c0 : cls ((hnew h (.inr (9, [.int 0, .int 0])) 2).1 h.2.1) < 13 := by rw [hnew_new]; show 9 < 13; decide
  simp only [x88_0, x88_1, x88_2, x88_6, xc88_3 c0 i4_9]
theorem j4_1 {w v : Int32} : Rf (d + 1) 8 0 [.ref h.2.1, .int w, .int v] [] (hnew h (.inr (1, [.int 0, .int 0])) 2) = some (none, hnew h (.inr (1, [.int w, .int v])) 2) := by
  have c0 : cls ((hnew h (.inr (1, [.int 0, .int 0])) 2).1 h.2.1) < 13 := by rw [hnew_new]; show 1 < 13; decide
  simp only [x8_0, x8_1, x8_2, x8_6, xc8_3 c0 i4_1]
theorem j_1 {w v : Int32} : Rf (d + 2) 4 0 [.ref h.2.1, .int w, .int v] [] (hnew h (.inr (1, [.int 0, .int 0])) 2) = some (none, hnew h (.inr (1, [.int w, .int v])) 2) := by
  have c0 : cls ((hnew h (.inr (1, [.int 0, .int 0])) 2).1 h.2.1) < 13 := by rw [hnew_new]; show 1 < 13; decide
  simp only [x4_0, x4_1, x4_2, x4_6, xc4_3 c0 j4_1]
theorem j4_8 {w v : Int32} : Rf (d + 1) 35 0 [.ref h.2.1, .int w, .int v] [] (hnew h (.inr (8, [.int 0, .int 0])) 2) = some (none, hnew h (.inr (8, [.int w, .int v])) 2) := by
  have c0 : cls ((hnew h (.inr (8, [.int 0, .int 0])) 2).1 h.2.1) < 13 := by rw [hnew_new]; show 8 < 13; decide
  simp only [x35_0, x35_1, x35_2, x35_6, xc35_3 c0 i4_8]
theorem j_8 {w v : Int32} : Rf (d + 2) 84 0 [.ref h.2.1, .int w, .int v] [] (hnew h (.inr (8, [.int 0, .int 0])) 2) = some (none, hnew h (.inr (8, [.int w, .int v])) 2) := by
  have c0 : cls ((hnew h (.inr (8, [.int 0, .int 0])) 2).1 h.2.1) < 13 := by rw [hnew_new]; show 8 < 13; decide
  simp only [x84_0, x84_1, x84_2, x84_6, xc84_3 c0 j4_8]
theorem j4_0 {w v : Int32} : Rf (d + 1) 88 0 [.ref h.2.1, .int w, .int v] [] (hnew h (.inr (0, [.int 0, .int 0])) 2) = some (none, hnew h (.inr (0, [.int w, .int v])) 2) := by
  have c0 : cls ((hnew h (.inr (0, [.int 0, .int 0])) 2).1 h.2.1) < 13 := by rw [hnew_new]; show 0 < 13; decide
  simp only [x88_0, x88_1, x88_2, x88_6, xc88_3 c0 i4_0]
theorem j_0 {w v : Int32} : Rf (d + 2) 0 0 [.ref h.2.1, .int w, .int v] [] (hnew h (.inr (0, [.int 0, .int 0])) 2) = some (none, hnew h (.inr (0, [.int w, .int v])) 2) := by
  have c0 : cls ((hnew h (.inr (0, [.int 0, .int 0])) 2).1 h.2.1) < 13 := by rw [hnew_new]; show 0 < 13; decide
  simp only [x0_0, x0_1, x0_2, x0_6, xc0_3 c0 j4_0]
theorem sp_made {w v : Int32} : ∀ k, k ≤ 6 → Rf (d + 3) 29 0 [.int (nI k), .int w, .int v] [] h = some (some (.ref h.2.1), hnew h (.inr (kc (nI k), [.int w, .int v])) 2) := by
  intro k hk
  match k, hk with
  | 0, _ =>
    have c0 : cls ((hnew h (.inr (4, [.int 0, .int 0])) 2).1 h.2.1) < 13 := by rw [hnew_new]; show 4 < 13; decide
    simp only [x29_0, x29_1, x29_40, x29_43, x29_44, x29_45, x29_49, x29_50, x29_53, x29_54, x29_55, x29_59, x29_60, x29_63, x29_64, x29_65, x29_69, x29_70, x29_73, x29_74, x29_75, x29_79, x29_80, x29_83, x29_84, x29_85, x29_89, x29_90, x29_93, x29_94, x29_95, x29_99, x29_100, x29_103, x29_104, x29_105, x29_109, xc29_106 c0 i4_4, show nI 0 = 0 from rfl, show kc 0 = 4 from by decide, show ¬ (0 : Int32) = 1 from by decide, show ¬ (0 : Int32) = 2 from by decide, show ¬ (0 : Int32) = 3 from by decide, show ¬ (0 : Int32) = 4 from by decide, show ¬ (0 : Int32) = 5 from by decide, show ¬ (0 : Int32) = 6 from by decide, ↓reduceIte]
  | 1, _ =>
    have c0 : cls ((hnew h (.inr (2, [.int 0, .int 0])) 2).1 h.2.1) < 13 := by rw [hnew_new]; show 2 < 13; decide
    have t1 : (nI 1 = 1) = (1 = 1) := by decide +kernel
    have t2 : (nI 1 = 2) = (1 = 2) := by decide +kernel
    have t3 : (nI 1 = 3) = (1 = 3) := by decide +kernel
    have t4 : (nI 1 = 4) = (1 = 4) := by decide +kernel
    have t5 : (nI 1 = 5) = (1 = 5) := by decide +kernel
    have t6 : (nI 1 = 6) = (1 = 6) := by decide +kernel
    have ck : kc (nI 1) = 2 := by decide
    rw [ck]
    simp only [x29_0, x29_1, x29_40, x29_43, x29_44, x29_45, x29_49, x29_50, x29_53, x29_54, x29_55, x29_59, x29_60, x29_63, x29_64, x29_65, x29_69, x29_70, x29_73, x29_74, x29_75, x29_79, x29_80, x29_83, x29_84, x29_85, x29_89, x29_90, x29_93, x29_94, x29_95, x29_99, x29_100, x29_103, x29_104, x29_105, x29_109, xc29_46 c0 j_2, t1, t2, t3, t4, t5, t6, Nat.reduceEqDiff, ↓reduceIte]
  | 2, _ =>
    have c0 : cls ((hnew h (.inr (5, [.int 0, .int 0])) 2).1 h.2.1) < 13 := by rw [hnew_new]; show 5 < 13; decide
    have t1 : (nI 2 = 1) = (2 = 1) := by decide +kernel
    have t2 : (nI 2 = 2) = (2 = 2) := by decide +kernel
    have t3 : (nI 2 = 3) = (2 = 3) := by decide +kernel
    have t4 : (nI 2 = 4) = (2 = 4) := by decide +kernel
    have t5 : (nI 2 = 5) = (2 = 5) := by decide +kernel
    have t6 : (nI 2 = 6) = (2 = 6) := by decide +kernel
    have ck : kc (nI 2) = 5 := by decide
    rw [ck]
    simp only [x29_0, x29_1, x29_40, x29_43, x29_44, x29_45, x29_49, x29_50, x29_53, x29_54, x29_55, x29_59, x29_60, x29_63, x29_64, x29_65, x29_69, x29_70, x29_73, x29_74, x29_75, x29_79, x29_80, x29_83, x29_84, x29_85, x29_89, x29_90, x29_93, x29_94, x29_95, x29_99, x29_100, x29_103, x29_104, x29_105, x29_109, xc29_56 c0 j_5, t1, t2, t3, t4, t5, t6, Nat.reduceEqDiff, ↓reduceIte]
  | 3, _ =>
    have c0 : cls ((hnew h (.inr (9, [.int 0, .int 0])) 2).1 h.2.1) < 13 := by rw [hnew_new]; show 9 < 13; decide
    have t1 : (nI 3 = 1) = (3 = 1) := by decide +kernel
    have t2 : (nI 3 = 2) = (3 = 2) := by decide +kernel
    have t3 : (nI 3 = 3) = (3 = 3) := by decide +kernel
    have t4 : (nI 3 = 4) = (3 = 4) := by decide +kernel
    have t5 : (nI 3 = 5) = (3 = 5) := by decide +kernel
    have t6 : (nI 3 = 6) = (3 = 6) := by decide +kernel
    have ck : kc (nI 3) = 9 := by decide
    rw [ck]
    simp only [x29_0, x29_1, x29_40, x29_43, x29_44, x29_45, x29_49, x29_50, x29_53, x29_54, x29_55, x29_59, x29_60, x29_63, x29_64, x29_65, x29_69, x29_70, x29_73, x29_74, x29_75, x29_79, x29_80, x29_83, x29_84, x29_85, x29_89, x29_90, x29_93, x29_94, x29_95, x29_99, x29_100, x29_103, x29_104, x29_105, x29_109, xc29_66 c0 j_9, t1, t2, t3, t4, t5, t6, Nat.reduceEqDiff, ↓reduceIte]
  | 4, _ =>
    have c0 : cls ((hnew h (.inr (1, [.int 0, .int 0])) 2).1 h.2.1) < 13 := by rw [hnew_new]; show 1 < 13; decide
    have t1 : (nI 4 = 1) = (4 = 1) := by decide +kernel
    have t2 : (nI 4 = 2) = (4 = 2) := by decide +kernel
    have t3 : (nI 4 = 3) = (4 = 3) := by decide +kernel
    have t4 : (nI 4 = 4) = (4 = 4) := by decide +kernel
    have t5 : (nI 4 = 5) = (4 = 5) := by decide +kernel
    have t6 : (nI 4 = 6) = (4 = 6) := by decide +kernel
    have ck : kc (nI 4) = 1 := by decide
    rw [ck]
    simp only [x29_0, x29_1, x29_40, x29_43, x29_44, x29_45, x29_49, x29_50, x29_53, x29_54, x29_55, x29_59, x29_60, x29_63, x29_64, x29_65, x29_69, x29_70, x29_73, x29_74, x29_75, x29_79, x29_80, x29_83, x29_84, x29_85, x29_89, x29_90, x29_93, x29_94, x29_95, x29_99, x29_100, x29_103, x29_104, x29_105, x29_109, xc29_76 c0 j_1, t1, t2, t3, t4, t5, t6, Nat.reduceEqDiff, ↓reduceIte]
  | 5, _ =>
    have c0 : cls ((hnew h (.inr (8, [.int 0, .int 0])) 2).1 h.2.1) < 13 := by rw [hnew_new]; show 8 < 13; decide
    have t1 : (nI 5 = 1) = (5 = 1) := by decide +kernel
    have t2 : (nI 5 = 2) = (5 = 2) := by decide +kernel
    have t3 : (nI 5 = 3) = (5 = 3) := by decide +kernel
    have t4 : (nI 5 = 4) = (5 = 4) := by decide +kernel
    have t5 : (nI 5 = 5) = (5 = 5) := by decide +kernel
    have t6 : (nI 5 = 6) = (5 = 6) := by decide +kernel
    have ck : kc (nI 5) = 8 := by decide
    rw [ck]
    simp only [x29_0, x29_1, x29_40, x29_43, x29_44, x29_45, x29_49, x29_50, x29_53, x29_54, x29_55, x29_59, x29_60, x29_63, x29_64, x29_65, x29_69, x29_70, x29_73, x29_74, x29_75, x29_79, x29_80, x29_83, x29_84, x29_85, x29_89, x29_90, x29_93, x29_94, x29_95, x29_99, x29_100, x29_103, x29_104, x29_105, x29_109, xc29_86 c0 j_8, t1, t2, t3, t4, t5, t6, Nat.reduceEqDiff, ↓reduceIte]
  | 6, _ =>
    have c0 : cls ((hnew h (.inr (0, [.int 0, .int 0])) 2).1 h.2.1) < 13 := by rw [hnew_new]; show 0 < 13; decide
    have t1 : (nI 6 = 1) = (6 = 1) := by decide +kernel
    have t2 : (nI 6 = 2) = (6 = 2) := by decide +kernel
    have t3 : (nI 6 = 3) = (6 = 3) := by decide +kernel
    have t4 : (nI 6 = 4) = (6 = 4) := by decide +kernel
    have t5 : (nI 6 = 5) = (6 = 5) := by decide +kernel
    have t6 : (nI 6 = 6) = (6 = 6) := by decide +kernel
    have ck : kc (nI 6) = 0 := by decide
    rw [ck]
    simp only [x29_0, x29_1, x29_40, x29_43, x29_44, x29_45, x29_49, x29_50, x29_53, x29_54, x29_55, x29_59, x29_60, x29_63, x29_64, x29_65, x29_69, x29_70, x29_73, x29_74, x29_75, x29_79, x29_80, x29_83, x29_84, x29_85, x29_89, x29_90, x29_93, x29_94, x29_95, x29_99, x29_100, x29_103, x29_104, x29_105, x29_109, xc29_96 c0 j_0, t1, t2, t3, t4, t5, t6, Nat.reduceEqDiff, ↓reduceIte]
theorem vk44 {a0 a1 a2 a3 a4 : Value} {s0 k : Nat} (hk : k ≤ 6) (hr : cls (h.1 s0) = kc (nI k)) : Rf (d + 1) 44 6 [a0, a1, a2, a3, a4] [.ref s0] h = Rf (d + 1) 44 9 [a0, a1, a2, a3, a4] [.int (nI k)] h := by
  match k, hk with
  | 0, _ => exact xc44_6_4 (hr.trans (by decide)) sp_kind4
  | 1, _ => exact xc44_6_2 (hr.trans (by decide)) sp_kind2
  | 2, _ => exact xc44_6_5 (hr.trans (by decide)) sp_kind5
  | 3, _ => exact xc44_6_9 (hr.trans (by decide)) sp_kind9
  | 4, _ => exact xc44_6_1 (hr.trans (by decide)) sp_kind1
  | 5, _ => exact xc44_6_8 (hr.trans (by decide)) sp_kind8
  | 6, _ => exact xc44_6_0 (hr.trans (by decide)) sp_kind0
theorem kn_is : ∀ k, k ≤ 6 → ∀ (x y : Value), isKn (.inr (kc (nI k), [x, y])) = true := by
  intro k hk x y
  match k, hk with
  | 0, _ => rfl
  | 1, _ => rfl
  | 2, _ => rfl
  | 3, _ => rfl
  | 4, _ => rfl
  | 5, _ => rfl
  | 6, _ => rfl
theorem sp_become {k x : Nat} (c : cls (h.1 o) = 6) (r : oKr (h.1 o) 7 = true) (r2 : oR (h.1 o) 7 = o + 7) (t : aTq (h.1 (o + 7)) = 3) (n : aN (h.1 (o + 7)) = 10) (g : aG (h.1 (o + 7)) = krR kn) (hw : w < 10) (ho : o + 7 < h.2.1) (hk : k ≤ 6) (hc : cls (h.1 (kn w)) = kc (nI k)) (hx : x ≤ 6) : Rf (d + 4) 44 0 [.ref o, .int (nI w), .int (nI x), .int v, noV] [] h = some (some (.int (nI k)), kst h o w (nI x) v kn) := by
  have c2 : inB (nI w) 10 = true := nI_inB (by omega) (by omega)
  have c3 : (nI w).toNatClampNeg = w := nI_clamp (by omega)
  have v1 := fun {a0 a1 a2 a3 a4 : Value} => vk44 (d := d + 3) (h := h) (a0 := a0) (a1 := a1) (a2 := a2) (a3 := a3) (a4 := a4) hk hc
  have m1 := sp_made (d := d) (h := h) (w := nI w) (v := v) x hx
  have ne1 : (o = h.2.1) = False := by simp; omega
  have ne2 : (o + 7 = h.2.1) = False := by simp; omega
  simp only [x44_0, x44_1, x44_4, x44_5, x44_9, x44_11, x44_12, x44_15, x44_16, x44_17, x44_18, x44_22, x44_23, x44_25, xc44_19 m1, c, r, r2, t, n, g, c2, c3, krR_at hw, krR_up hw, v1, hnew_at, hnew_new, ne1, ne2, kn_is x hx, Option.isSome_some, Option.getD_some, true_or, and_self, ↓reduceIte]
  rfl
theorem aTq_r {f : Nat → Option Nat} : aTq (.inl (3, 10, .inr (.inr (.inr (.inr f))))) = 3 ∧ aN (.inl (3, 10, .inr (.inr (.inr (.inr f))))) = 10 ∧ aG (.inl (3, 10, .inr (.inr (.inr (.inr f))))) = f := ⟨rfl, rfl, rfl⟩
theorem OF_kst (F : OF h o A q kn) (ho : o + 10 < h.2.1) : OF (kst h o w x v kn) o A q (fun j => if j = w then h.2.1 else kn j) := by
  have n0 : (o = h.2.1) = False := by simp; omega
  have nn : ∀ i, i ≤ 10 → (o + i = h.2.1) = False := fun i hi => by simp; omega
  simp only [OF, kst, hset_at, hnew_at, n0, nn 1 (by omega), nn 2 (by omega), nn 3 (by omega), nn 4 (by omega), nn 5 (by omega), nn 6 (by omega), nn 8 (by omega), nn 9 (by omega), nn 10 (by omega), plus_ne o 1 7 (by decide), plus_ne o 2 7 (by decide), plus_ne o 3 7 (by decide), plus_ne o 4 7 (by decide), plus_ne o 5 7 (by decide), plus_ne o 6 7 (by decide), plus_ne o 8 7 (by decide), plus_ne o 9 7 (by decide), plus_ne o 10 7 (by decide), plus_ne0 o 7 (by decide), ↓reduceIte, aTq_r, F, and_self]
theorem kst_at {p : Nat} (h1 : p < h.2.1) (h2 : ¬ p = o + 7) : (kst h o w x v kn).1 p = h.1 p := by
  rw [kst, hset_at, if_neg h2, hnew_at, if_neg (by omega)]
theorem KN_kst (K : KN h A kn) (hw : w < 10) (P : AP o q kn) (l : ∀ j, j < 10 → kn j < h.2.1) (ho : o + 10 < h.2.1) {k : Nat} (hk : k ≤ 6) (e60 : A' (60 + w) = nI k) (e70 : A' (70 + w) = v) (e : ∀ i, 60 ≤ i → i < 80 → ¬ i = 60 + w → ¬ i = 70 + w → A' i = A i) : KN (kst h o w (nI k) v kn) A' (fun j => if j = w then h.2.1 else kn j) := by
  intro j hj
  by_cases z : j = w
  · subst z
    have c : (kst h o j (nI k) v kn).1 h.2.1 = .inr (kc (nI k), [.int (nI j), .int v]) := by
      rw [kst, hset_at, if_neg (by omega), hnew_new]
    simp only [↓reduceIte, c, e60, e70]
    exact ⟨rfl, rfl, rfl, rfl, rfl, kn_is k hk _ _⟩
  · have := K j hj
    have c : (kst h o w (nI k) v kn).1 (kn j) = h.1 (kn j) := kst_at (l j hj) (by have := P.2 j hj; omega)
    simp only [z, ↓reduceIte, c, e (60 + j) (by omega) (by omega) (by omega) (by omega), e (70 + j) (by omega) (by omega) (by omega) (by omega)]
    exact this
theorem DP_kst (D : DP q kn) {p : Nat} (hp : 136 ≤ p) : DP q (fun j => if j = w then p else kn j) := by
  refine ⟨D.1, fun j hj => ?_⟩
  by_cases z : j = w
  · simp only [z, ↓reduceIte]; unfold dyn; omega
  · simp only [z, ↓reduceIte]; exact D.2 j hj
theorem SD_kst {k : Nat} (S : SD h 33 60 A n C cl ml q kn) (R' : RG A' n) (h1w : 136 ≤ h.2.1) (hw : w < 10) (hk : k ≤ 6) (e60 : A' (60 + w) = nI k) (e70 : A' (70 + w) = v) (e : ∀ i, ¬ i = 60 + w → ¬ i = 70 + w → A' i = A i) : SD (kst h 33 w (nI k) v kn) 33 60 A' n C cl ml q (fun j => if j = w then h.2.1 else kn j) := by
  obtain ⟨F, K, D, R, Q, H, Mh, HRm, DD, l1, l2⟩ := S
  have ap := (AP_of DD).1
  have hn := R.1
  have fr : ∀ p, p < h.2.1 → ¬ p = 40 → (kst h 33 w (nI k) v kn).1 p = h.1 p := fun p a b => kst_at a b
  have F2 := OF_kst (w := w) (x := nI k) (v := v) F (by omega)
  refine ⟨OF_cong F2 R.2.1 hn (e 0 (by omega) (by omega)) (e 1 (by omega) (by omega)) (e 5 (by omega) (by omega)) (e 6 (by omega) (by omega)) (fun i a b => e i (by omega) (by omega)), KN_kst K hw ap l2 (by omega) hk e60 e70 (fun i a b c d => e i c d), PP_ne (PP_cong D (e 2 (by omega) (by omega)) (e 3 (by omega) (by omega)) (e 4 (by omega) (by omega)) (e 7 (by omega) (by omega)) (fun i a b => e i (by omega) (by omega))) (fun p a b => fr p (by omega) (by omega)), R', RP_cong Q (e 2 (by omega) (by omega)) (e 3 (by omega) (by omega)) (e 4 (by omega) (by omega)) (e 7 (by omega) (by omega)) (fun i a b => e i (by omega) (by omega)), HO_ne H (fun p a b => fr p (by omega) (by have := ap.1; omega)), MH_cong Mh (e 1 (by omega) (by omega)) (fun i a b => e i (by omega) (by omega)), ⟨HRm.1, YB_cong HRm.2 (e 6 (by omega) (by omega))⟩, DP_kst DD h1w, ?_, fun j hj => ?_⟩
  · show q + 5 < h.2.1 + 1
    omega
  · show (if j = w then h.2.1 else kn j) < h.2.1 + 1
    have := l2 j hj
    split <;> omega
theorem pr_knowing (G : GI h) {w k v : Int32} : PR h 99 159 [.ref 32, .int w, .int k, .int v] [.ref 128, .int w, .int k, .int v, noV] := by
  obtain ⟨A, B, im, rn, T, n, C, cl, ml, q, kn, n2, C2, cl2, ml2, q2, kn2, G⟩ := G
  have S := G.2.2.2.1
  obtain ⟨F, K, D, R, Q, H, Mh, HRm, DD, l1, l2⟩ := G.2.2.2.1
  have X0 := G.1
  have hn := R.1
  have hnx := G.2.2.2.2.2.2.2.2.2
  have m0 := G.2.2.2.2.2.2.2.2.1.1
  have e0 := sp_isWorker (d := 4) (w := w) F
  have f0 := sp_misWorker (d := 0) (w := w) m0 ⟨n, R.1, R.2.1⟩
  by_cases hw : ¬ w < 0 ∧ w < A 0
  · rw [b2_t hw] at e0 f0
    by_cases hk : ¬ k < 0 ∧ ¬ 6 < k
    · by_cases hv : ¬ v < 0 ∧ ¬ 9 < v
      · obtain ⟨w', hw', rfl⟩ := isW_of R hw
        obtain ⟨k', hk', rfl⟩ := nI_of2 (M := 6) (n := 6) (by decide) hk.1 (Int32.not_lt.mp hk.2)
        obtain ⟨v', hv', rfl⟩ := nI_of2 (M := 9) (n := 9) (by decide) hv.1 (Int32.not_lt.mp hv.2)
        obtain ⟨j, hj, hj2⟩ := kind_of R (show w' < 10 by omega)
        have e : ∀ i, ¬ i = 60 + w' → ¬ i = 70 + w' → upd (upd A (60 + w') (nI k')) (70 + w') (nI v') i = A i := fun i a b => (if_neg b).trans (if_neg a)
        have e60 : upd (upd A (60 + w') (nI k')) (70 + w') (nI v') (60 + w') = nI k' := (if_neg (by omega)).trans (if_pos rfl)
        have e70 : upd (upd A (60 + w') (nI k')) (70 + w') (nI v') (70 + w') = nI v' := if_pos rfl
        have R' : RG (upd (upd A (60 + w') (nI k')) (70 + w') (nI v')) n := by
          obtain ⟨r1, r2, r3, r4, r5, r6, r7⟩ := R
          refine ⟨r1, (e 0 (by omega) (by omega)).trans r2, fun w hw => ?_, fun w hw => ?_, fun w v hw hv => ?_, by rw [e 5 (by omega) (by omega)]; exact r6, by rw [e 6 (by omega) (by omega)]; exact r7⟩
          · rw [e (10 + w) (by omega) (by omega), e (20 + w) (by omega) (by omega), e (30 + w) (by omega) (by omega), e (40 + w) (by omega) (by omega), e (50 + w) (by omega) (by omega)]
            exact r3 w hw
          · by_cases z : w = w'
            · subst z
              rw [e60, e70]
              exact ⟨⟨k', hk', rfl⟩, ⟨v', hv', rfl⟩⟩
            · rw [e (60 + w) (by omega) (by omega), e (70 + w) (by omega) (by omega)]
              exact r4 w hw
          · rw [e (10 + w) (by omega) (by omega), e (10 + v) (by omega) (by omega)]
            exact r5 w v hw hv
        have S' := SD_kst (k := k') (v := nI v') S R' hnx (show w' < 10 by omega) hk' e60 e70 e
        have fr : ∀ p, p < h.2.1 → (p < 33 ∨ 43 < p) → (p < 60 ∨ 65 < p) → (kst h 33 w' (nI k') (nI v') kn).1 p = h.1 p := fun p a b c => kst_at a (by omega)
        have m1 := GX_cls G fr
        have b1 := sp_become (d := 0) (h := h) (v := nI v') (x := k') F.1 (by simp only [F]) (by simp only [F]) (by simp only [F]) (by simp only [F]) (by simp only [F]) (show w' < 10 by omega) (by omega) hj ((K w' (by omega)).1.trans (by rw [hj2])) hk'
        have i60 : (60 : Int32) + nI w' = nI (60 + w') ∧ inB (nI (60 + w')) 931 = true ∧ (nI (60 + w')).toNatClampNeg = 60 + w' := ixs 60 w' (by omega)
        have i70 : (70 : Int32) + nI w' = nI (70 + w') ∧ inB (nI (70 + w')) 931 = true ∧ (nI (70 + w')).toNatClampNeg = 70 + w' := ixs 70 w' (by omega)
        have f1 := sp_misWorker (d := 0) (w := nI w') m1.1 ⟨n, R.1, R.2.1⟩
        rw [b2_t hw] at f1
        refine PR_st (h1 := kst h 33 w' (nI k') (nI v') kn) (dc := 5) (dm := 2) (v := nI j) ?_ ?_ (by decide) (by decide) (GX_rst G S' (by show h.2.1 ≤ h.2.1 + 1; omega) fr) ⟨by show h.2.1 + 1 ≤ _; omega, by show h.2.2 + 2 ≤ _; omega⟩ (SG_same G (e 4 (by omega) (by omega)))
        · simp only [x99_0, x99_1, x99_4, x99_8, x99_11, x99_12, x99_17, x99_20, x99_21, x99_22, x99_23, x99_28, x99_31, x99_32, x99_35, x99_36, x99_37, x99_41, x99_44, x99_46, xc99_5 F.1 e0, xc99_14 (sp_within (d := 4)), xc99_25 (sp_within (d := 4)), xc99_38 F.1 b1, X0, b2_0, hk, hv, not_true_eq_false, not_false_eq_true, and_self, litZ, ↓reduceIte]
        · have F1 := MF_rst m1.1
          simp only [x159_0, x159_1, x159_5, x159_8, x159_9, x159_10, x159_15, x159_18, x159_19, x159_20, x159_21, x159_22, x159_27, x159_30, x159_32, x159_33, x159_34, x159_37, x159_39, x159_40, x159_41, x159_42, x159_44, x159_45, x159_48, x159_50, x159_51, x159_52, x159_53, x159_54, x159_55, x159_58, x159_60, x159_61, x159_62, x159_63, x159_64, x159_66, xc159_2 m1.1.1 f1, xc159_12 (sp_mwithin (d := 1)), xc159_24 (sp_mwithin (d := 1)), m1.1, F1, i60, i70, rst_fold, rst_twice, b2_0, hk, hv, hj2, true_or, not_true_eq_false, not_false_eq_true, and_self, litZ, ↓reduceIte]
      · exact PR_ro (dc := 5) (dm := 2) (v := -2) (by simp only [x99_0, x99_1, x99_4, x99_8, x99_11, x99_12, x99_17, x99_20, x99_21, x99_22, x99_23, x99_28, x99_31, x99_32, x99_35, x99_36, x99_37, x99_41, x99_44, x99_46, xc99_5 F.1 e0, xc99_14 (sp_within (d := 4)), xc99_25 (sp_within (d := 4)), X0, b2_0, hk, hv, not_true_eq_false, not_false_eq_true, and_self, litZ, ↓reduceIte]) (by simp only [x159_0, x159_1, x159_5, x159_8, x159_9, x159_10, x159_15, x159_18, x159_19, x159_20, x159_21, x159_22, x159_27, x159_30, x159_32, x159_33, x159_34, x159_37, x159_39, x159_40, x159_41, x159_42, x159_44, x159_45, x159_48, x159_50, x159_51, x159_52, x159_53, x159_54, x159_55, x159_58, x159_60, x159_61, x159_62, x159_63, x159_64, x159_66, xc159_2 m0.1 f0, xc159_12 (sp_mwithin (d := 1)), xc159_24 (sp_mwithin (d := 1)), b2_0, hk, hv, not_true_eq_false, not_false_eq_true, and_self, litZ, ↓reduceIte]) (by decide) (by decide) G (same2 rfl)
    · exact PR_ro (dc := 5) (dm := 2) (v := -1) (by simp only [x99_0, x99_1, x99_4, x99_8, x99_11, x99_12, x99_17, x99_20, x99_21, x99_22, x99_23, x99_28, x99_31, x99_32, x99_35, x99_36, x99_37, x99_41, x99_44, x99_46, xc99_5 F.1 e0, xc99_14 (sp_within (d := 4)), xc99_25 (sp_within (d := 4)), X0, b2_0, hk, not_false_eq_true, and_self, litZ, ↓reduceIte]) (by simp only [x159_0, x159_1, x159_5, x159_8, x159_9, x159_10, x159_15, x159_18, x159_19, x159_20, x159_21, x159_22, x159_27, x159_30, x159_32, x159_33, x159_34, x159_37, x159_39, x159_40, x159_41, x159_42, x159_44, x159_45, x159_48, x159_50, x159_51, x159_52, x159_53, x159_54, x159_55, x159_58, x159_60, x159_61, x159_62, x159_63, x159_64, x159_66, xc159_2 m0.1 f0, xc159_12 (sp_mwithin (d := 1)), xc159_24 (sp_mwithin (d := 1)), b2_0, hk, not_false_eq_true, and_self, litZ, ↓reduceIte]) (by decide) (by decide) G (same2 rfl)
  · rw [b2_f hw] at e0 f0
    exact PR_ro (dc := 5) (dm := 2) (v := -1) (by simp only [x99_0, x99_1, x99_4, x99_8, x99_11, x99_12, x99_17, x99_20, x99_21, x99_22, x99_23, x99_28, x99_31, x99_32, x99_35, x99_36, x99_37, x99_41, x99_44, x99_46, xc99_5 F.1 e0, X0, and_self, ↓reduceIte]) (by simp only [x159_0, x159_1, x159_5, x159_8, x159_9, x159_10, x159_15, x159_18, x159_19, x159_20, x159_21, x159_22, x159_27, x159_30, x159_32, x159_33, x159_34, x159_37, x159_39, x159_40, x159_41, x159_42, x159_44, x159_45, x159_48, x159_50, x159_51, x159_52, x159_53, x159_54, x159_55, x159_58, x159_60, x159_61, x159_62, x159_63, x159_64, x159_66, xc159_2 m0.1 f0, and_self, ↓reduceIte]) (by decide) (by decide) G (same2 rfl)
end NW
