-- deps: 46.told
section OFS
variable {d o q n cl pp : Nat} {kn : Nat → Nat} {A B C T : Nat → Int32} {h : AHp} {ml : List Cl} {im rn : Int32}
theorem vk101 {a0 a1 a2 : Value} {s0 k : Nat} (hk : k ≤ 6) (hr : cls (h.1 s0) = kc (nI k)) : Rf (d + 1) 101 139 [a0, a1, a2] [.ref s0] h = Rf (d + 1) 101 142 [a0, a1, a2] [.int (nI k)] h := by
  match k, hk with
  | 0, _ => exact xc101_139_4 (hr.trans (by decide)) sp_kind4
  | 1, _ => exact xc101_139_2 (hr.trans (by decide)) sp_kind2
  | 2, _ => exact xc101_139_5 (hr.trans (by decide)) sp_kind5
  | 3, _ => exact xc101_139_9 (hr.trans (by decide)) sp_kind9
  | 4, _ => exact xc101_139_1 (hr.trans (by decide)) sp_kind1
  | 5, _ => exact xc101_139_8 (hr.trans (by decide)) sp_kind8
  | 6, _ => exact xc101_139_0 (hr.trans (by decide)) sp_kind0
theorem fxv {k : Nat} (hk : k ≤ 6) : fIx [(0, 1), (1, 1), (2, 1), (4, 1), (5, 1), (8, 1), (9, 1)] (kc (nI k)) = some 1 := by
  match k, hk with
  | 0, _ => rfl
  | 1, _ => rfl
  | 2, _ => rfl
  | 3, _ => rfl
  | 4, _ => rfl
  | 5, _ => rfl
  | 6, _ => rfl
theorem fst_self (F : OF h o A q kn) : ∃ S, h = fst h o S := by
  refine ⟨aF (h.1 (o + 8)), ?_⟩
  have e8 := cell_eq (c := h.1 (o + 8)) (t := 0) (by simp only [F]) (by decide)
  have n8 : aN (h.1 (o + 8)) = 6 := by simp only [F]
  rw [n8] at e8
  exact (hset_self e8).symm
theorem pr_of (G : GI h) {w x : Int32} : PR h 101 165 [.ref 32, .int w, .int x] [.ref 128, .int w, .int x] := by
  obtain ⟨A, B, im, rn, T, n, C, cl, ml, q, kn, n2, C2, cl2, ml2, q2, kn2, G⟩ := G
  obtain ⟨F, K, D, R, Q, H, Mh, HRm, DD, l1, l2⟩ := G.2.2.2.1
  have X0 := G.1
  have MM1 := G.2.2.2.2.2.2.2.2.1
  have m1 := MM1.1
  have e0 := fun d => sp_isWorker (d := d) (w := w) F
  have f0 := fun d => sp_misWorker (d := d) (w := w) m1 ⟨n, R.1, R.2.1⟩
  by_cases hw : ¬ w < 0 ∧ w < A 0
  · rw [b2_t hw] at e0 f0
    obtain ⟨v, hv, rfl⟩ := isW_of R hw
    have hn := R.1
    have hv10 : v < 10 := by omega
    have c2 : inB (nI v) 10 = true := nI_inB (by omega) (by omega)
    have c3 : (nI v).toNatClampNeg = v := nI_clamp (by omega)
    have P := (AP_of DD).1
    obtain ⟨k, hk, hk2⟩ := kind_of R hv10
    obtain ⟨k1, k2, k3, k4, k5, k6⟩ := K v hv10
    rw [hk2] at k1
    have eB := sp_beliefOf (d := 0) F K R hv
    have eG := sp_gladBy (d := 4) F R hv (b := beF A n v)
    obtain ⟨S0, hS0⟩ := fst_self F
    obtain ⟨S1, eO⟩ := sp_offerTo (d := 1) (S := S0) F K R P H hv
    obtain ⟨S2, eW⟩ := sp_wishOf (d := 1) (S := S0) F K R P H hv
    obtain ⟨S3, eD⟩ := sp_doneBy (d := 0) (S := S0) F K R P H hv
    rw [← hS0] at eO eW eD
    have mB := sp_mbelief (d := 2) m1 R hv
    have mG := sp_glad (d := 1) m1 R hv
    have i10 : (10 : Int32) + nI v = nI (10 + v) ∧ inB (nI (10 + v)) 931 = true ∧ (nI (10 + v)).toNatClampNeg = 10 + v := ixs 10 v (by omega)
    have i20 : (20 : Int32) + nI v = nI (20 + v) ∧ inB (nI (20 + v)) 931 = true ∧ (nI (20 + v)).toNatClampNeg = 20 + v := ixs 20 v (by omega)
    have i30 : (30 : Int32) + nI v = nI (30 + v) ∧ inB (nI (30 + v)) 931 = true ∧ (nI (30 + v)).toNatClampNeg = 30 + v := ixs 30 v (by omega)
    have i40 : (40 : Int32) + nI v = nI (40 + v) ∧ inB (nI (40 + v)) 931 = true ∧ (nI (40 + v)).toNatClampNeg = 40 + v := ixs 40 v (by omega)
    have i50 : (50 : Int32) + nI v = nI (50 + v) ∧ inB (nI (50 + v)) 931 = true ∧ (nI (50 + v)).toNatClampNeg = 50 + v := ixs 50 v (by omega)
    have i60 : (60 : Int32) + nI v = nI (60 + v) ∧ inB (nI (60 + v)) 931 = true ∧ (nI (60 + v)).toNatClampNeg = 60 + v := ixs 60 v (by omega)
    have i70 : (70 : Int32) + nI v = nI (70 + v) ∧ inB (nI (70 + v)) 931 = true ∧ (nI (70 + v)).toNatClampNeg = 70 + v := ixs 70 v (by omega)
    by_cases x0 : x = 0
    · subst x0
      exact PR_ro (dc := 2) (dm := 2) (v := A (10 + v)) (by simp only [x101_0, x101_1, x101_4, x101_8, x101_11, x101_14, x101_15, x101_16, x101_80, x101_81, x101_84, x101_87, x101_88, x101_89, xc101_5 F.1 (e0 _), X0, F, c2, c3, sub_at hv10, true_or, and_self, litZ, ↓reduceIte]) (by simp only [x165_0, x165_1, x165_5, x165_8, x165_11, x165_12, x165_13, x165_76, x165_77, x165_80, x165_82, x165_83, x165_84, x165_85, xc165_2 m1.1 (f0 _), m1, i10, true_or, and_self, litZ, ↓reduceIte]) (by decide) (by decide) G (same2 rfl)
    by_cases x1 : x = 1
    · subst x1
      exact PR_ro (dc := 2) (dm := 2) (v := A (20 + v)) (by simp only [x101_0, x101_1, x101_4, x101_8, x101_11, x101_14, x101_15, x101_16, x101_80, x101_81, x101_84, x101_87, x101_88, x101_89, x101_90, x101_91, x101_94, x101_97, x101_98, x101_99, xc101_5 F.1 (e0 _), X0, F, c2, c3, sub_at hv10, true_or, and_self, litZ, ↓reduceIte]) (by simp only [x165_0, x165_1, x165_5, x165_8, x165_11, x165_12, x165_13, x165_76, x165_77, x165_80, x165_82, x165_83, x165_84, x165_85, x165_86, x165_87, x165_90, x165_92, x165_93, x165_94, x165_95, xc165_2 m1.1 (f0 _), m1, i20, true_or, and_self, litZ, ↓reduceIte]) (by decide) (by decide) G (same2 rfl)
    by_cases x2 : x = 2
    · subst x2
      exact PR_ro (dc := 2) (dm := 2) (v := A (30 + v)) (by simp only [x101_0, x101_1, x101_4, x101_8, x101_11, x101_14, x101_15, x101_16, x101_80, x101_81, x101_84, x101_87, x101_88, x101_89, x101_90, x101_91, x101_94, x101_97, x101_98, x101_99, x101_100, x101_101, x101_104, x101_107, x101_108, x101_109, xc101_5 F.1 (e0 _), X0, F, c2, c3, sub_at hv10, x0, x1, true_or, and_self, litZ, ↓reduceIte]) (by simp only [x165_0, x165_1, x165_5, x165_8, x165_11, x165_12, x165_13, x165_76, x165_77, x165_80, x165_82, x165_83, x165_84, x165_85, x165_86, x165_87, x165_90, x165_92, x165_93, x165_94, x165_95, x165_96, x165_97, x165_100, x165_102, x165_103, x165_104, x165_105, xc165_2 m1.1 (f0 _), m1, i30, x0, x1, true_or, and_self, litZ, ↓reduceIte]) (by decide) (by decide) G (same2 rfl)
    by_cases x3 : x = 3
    · subst x3
      exact PR_ro (dc := 2) (dm := 2) (v := A (40 + v)) (by simp only [x101_0, x101_1, x101_4, x101_8, x101_11, x101_14, x101_15, x101_16, x101_80, x101_81, x101_84, x101_87, x101_88, x101_89, x101_90, x101_91, x101_94, x101_97, x101_98, x101_99, x101_100, x101_101, x101_104, x101_107, x101_108, x101_109, x101_110, x101_111, x101_114, x101_117, x101_118, x101_119, xc101_5 F.1 (e0 _), X0, F, c2, c3, sub_at hv10, x0, x1, x2, true_or, and_self, litZ, ↓reduceIte]) (by simp only [x165_0, x165_1, x165_5, x165_8, x165_11, x165_12, x165_13, x165_76, x165_77, x165_80, x165_82, x165_83, x165_84, x165_85, x165_86, x165_87, x165_90, x165_92, x165_93, x165_94, x165_95, x165_96, x165_97, x165_100, x165_102, x165_103, x165_104, x165_105, x165_106, x165_107, x165_110, x165_112, x165_113, x165_114, x165_115, xc165_2 m1.1 (f0 _), m1, i40, x0, x1, x2, true_or, and_self, litZ, ↓reduceIte]) (by decide) (by decide) G (same2 rfl)
    by_cases x4 : x = 4
    · subst x4
      refine PR_ro (dc := 2) (dm := 2) (v := frF (A (50 + v))) (by simp only [x101_0, x101_1, x101_4, x101_8, x101_11, x101_14, x101_15, x101_16, x101_80, x101_81, x101_84, x101_87, x101_88, x101_89, x101_90, x101_91, x101_94, x101_97, x101_98, x101_99, x101_100, x101_101, x101_104, x101_107, x101_108, x101_109, x101_110, x101_111, x101_114, x101_117, x101_118, x101_119, x101_120, x101_121, x101_124, x101_127, x101_128, x101_129, xc101_5 F.1 (e0 _), X0, F, c2, c3, frR_at hv10, x0, x1, x2, x3, true_or, and_self, litZ, ↓reduceIte]) ?_ (by decide) (by decide) G (same2 rfl)
      unfold frF
      by_cases y : A (50 + v) < 0
      · simp only [x165_0, x165_1, x165_5, x165_8, x165_11, x165_12, x165_13, x165_76, x165_77, x165_80, x165_82, x165_83, x165_84, x165_85, x165_86, x165_87, x165_90, x165_92, x165_93, x165_94, x165_95, x165_96, x165_97, x165_100, x165_102, x165_103, x165_104, x165_105, x165_106, x165_107, x165_110, x165_112, x165_113, x165_114, x165_115, x165_116, x165_117, x165_120, x165_122, x165_123, x165_124, x165_125, x165_128, x165_130, x165_133, x165_134, x165_137, x165_139, x165_140, x165_141, x165_142, xc165_2 m1.1 (f0 _), m1, i50, x0, x1, x2, x3, y, true_or, and_self, litZ, ↓reduceIte]
      · simp only [x165_0, x165_1, x165_5, x165_8, x165_11, x165_12, x165_13, x165_76, x165_77, x165_80, x165_82, x165_83, x165_84, x165_85, x165_86, x165_87, x165_90, x165_92, x165_93, x165_94, x165_95, x165_96, x165_97, x165_100, x165_102, x165_103, x165_104, x165_105, x165_106, x165_107, x165_110, x165_112, x165_113, x165_114, x165_115, x165_116, x165_117, x165_120, x165_122, x165_123, x165_124, x165_125, x165_128, x165_130, x165_133, x165_134, x165_137, x165_139, x165_140, x165_141, x165_142, xc165_2 m1.1 (f0 _), m1, i50, x0, x1, x2, x3, y, true_or, and_self, litZ, ↓reduceIte]
    by_cases x5 : x = 5
    · subst x5
      exact PR_ro (dc := 2) (dm := 2) (v := nI k) (by simp only [x101_0, x101_1, x101_4, x101_8, x101_11, x101_14, x101_15, x101_16, x101_80, x101_81, x101_84, x101_87, x101_88, x101_89, x101_90, x101_91, x101_94, x101_97, x101_98, x101_99, x101_100, x101_101, x101_104, x101_107, x101_108, x101_109, x101_110, x101_111, x101_114, x101_117, x101_118, x101_119, x101_120, x101_121, x101_124, x101_127, x101_128, x101_129, x101_130, x101_131, x101_134, x101_137, x101_138, x101_142, xc101_5 F.1 (e0 _), vk101 (d := 1) (h := h) hk k1, X0, F, c2, c3, krR_at hv10, Option.isSome_some, Option.getD_some, x0, x1, x2, x3, x4, true_or, and_self, litZ, ↓reduceIte]) (by simp only [x165_0, x165_1, x165_5, x165_8, x165_11, x165_12, x165_13, x165_76, x165_77, x165_80, x165_82, x165_83, x165_84, x165_85, x165_86, x165_87, x165_90, x165_92, x165_93, x165_94, x165_95, x165_96, x165_97, x165_100, x165_102, x165_103, x165_104, x165_105, x165_106, x165_107, x165_110, x165_112, x165_113, x165_114, x165_115, x165_116, x165_117, x165_120, x165_122, x165_123, x165_124, x165_125, x165_128, x165_130, x165_133, x165_134, x165_137, x165_139, x165_140, x165_141, x165_142, x165_143, x165_144, x165_147, x165_149, x165_150, x165_151, x165_152, xc165_2 m1.1 (f0 _), m1, i60, hk2, x0, x1, x2, x3, x4, true_or, and_self, litZ, ↓reduceIte]) (by decide) (by decide) G (same2 rfl)
    by_cases x6 : x = 6
    · subst x6
      exact PR_ro (dc := 2) (dm := 2) (v := A (70 + v)) (by simp only [x101_0, x101_1, x101_4, x101_8, x101_11, x101_14, x101_15, x101_16, x101_80, x101_81, x101_84, x101_87, x101_88, x101_89, x101_90, x101_91, x101_94, x101_97, x101_98, x101_99, x101_100, x101_101, x101_104, x101_107, x101_108, x101_109, x101_110, x101_111, x101_114, x101_117, x101_118, x101_119, x101_120, x101_121, x101_124, x101_127, x101_128, x101_129, x101_130, x101_131, x101_134, x101_137, x101_138, x101_142, x101_143, x101_144, x101_147, x101_150, x101_151, x101_152, x101_155, xc101_5 F.1 (e0 _), k1, fxv hk, k4, k5, X0, F, c2, c3, krR_at hv10, Option.isSome_some, Option.getD_some, x0, x1, x2, x3, x4, x5, true_or, and_self, litZ, ↓reduceIte]) (by simp only [x165_0, x165_1, x165_5, x165_8, x165_11, x165_12, x165_13, x165_76, x165_77, x165_80, x165_82, x165_83, x165_84, x165_85, x165_86, x165_87, x165_90, x165_92, x165_93, x165_94, x165_95, x165_96, x165_97, x165_100, x165_102, x165_103, x165_104, x165_105, x165_106, x165_107, x165_110, x165_112, x165_113, x165_114, x165_115, x165_116, x165_117, x165_120, x165_122, x165_123, x165_124, x165_125, x165_128, x165_130, x165_133, x165_134, x165_137, x165_139, x165_140, x165_141, x165_142, x165_143, x165_144, x165_147, x165_149, x165_150, x165_151, x165_152, x165_153, x165_154, x165_157, x165_159, x165_160, x165_161, x165_162, xc165_2 m1.1 (f0 _), m1, i70, x0, x1, x2, x3, x4, x5, true_or, and_self, litZ, ↓reduceIte]) (by decide) (by decide) G (same2 rfl)
    by_cases x7 : x = 7
    · subst x7
      exact PR_ro (dc := 5) (dm := 5) (v := beF A n v) (by simp only [x101_0, x101_1, x101_4, x101_8, x101_11, x101_14, x101_15, x101_16, x101_80, x101_81, x101_84, x101_87, x101_88, x101_89, x101_90, x101_91, x101_94, x101_97, x101_98, x101_99, x101_100, x101_101, x101_104, x101_107, x101_108, x101_109, x101_110, x101_111, x101_114, x101_117, x101_118, x101_119, x101_120, x101_121, x101_124, x101_127, x101_128, x101_129, x101_130, x101_131, x101_134, x101_137, x101_138, x101_142, x101_143, x101_144, x101_147, x101_150, x101_151, x101_152, x101_155, x101_156, x101_157, x101_160, x101_164, xc101_5 F.1 (e0 _), xc101_175 F.1 eB, xc101_161 F.1 eB, X0, x0, x1, x2, x3, x4, x5, x6, and_self, litZ, ↓reduceIte]) (by simp only [x165_0, x165_1, x165_5, x165_8, x165_11, x165_12, x165_13, x165_76, x165_77, x165_80, x165_82, x165_83, x165_84, x165_85, x165_86, x165_87, x165_90, x165_92, x165_93, x165_94, x165_95, x165_96, x165_97, x165_100, x165_102, x165_103, x165_104, x165_105, x165_106, x165_107, x165_110, x165_112, x165_113, x165_114, x165_115, x165_116, x165_117, x165_120, x165_122, x165_123, x165_124, x165_125, x165_128, x165_130, x165_133, x165_134, x165_137, x165_139, x165_140, x165_141, x165_142, x165_143, x165_144, x165_147, x165_149, x165_150, x165_151, x165_152, x165_153, x165_154, x165_157, x165_159, x165_160, x165_161, x165_162, x165_163, x165_164, x165_168, xc165_2 m1.1 (f0 _), xc165_165 m1.1 mB, x0, x1, x2, x3, x4, x5, x6, and_self, litZ, ↓reduceIte]) (by decide) (by decide) G (same2 rfl)
    by_cases x8 : x = 8
    · subst x8
      exact PR_ro (dc := 5) (dm := 5) (v := glF A v (beF A n v)) (by simp only [x101_0, x101_1, x101_4, x101_8, x101_11, x101_14, x101_15, x101_16, x101_80, x101_81, x101_84, x101_87, x101_88, x101_89, x101_90, x101_91, x101_94, x101_97, x101_98, x101_99, x101_100, x101_101, x101_104, x101_107, x101_108, x101_109, x101_110, x101_111, x101_114, x101_117, x101_118, x101_119, x101_120, x101_121, x101_124, x101_127, x101_128, x101_129, x101_130, x101_131, x101_134, x101_137, x101_138, x101_142, x101_143, x101_144, x101_147, x101_150, x101_151, x101_152, x101_155, x101_156, x101_157, x101_160, x101_164, x101_165, x101_166, x101_169, x101_170, x101_171, x101_174, x101_181, xc101_5 F.1 (e0 _), xc101_175 F.1 eB, xc101_161 F.1 eB, xc101_178 F.1 eG, X0, x0, x1, x2, x3, x4, x5, x6, x7, and_self, litZ, ↓reduceIte]) (by simp only [x165_0, x165_1, x165_5, x165_8, x165_11, x165_12, x165_13, x165_76, x165_77, x165_80, x165_82, x165_83, x165_84, x165_85, x165_86, x165_87, x165_90, x165_92, x165_93, x165_94, x165_95, x165_96, x165_97, x165_100, x165_102, x165_103, x165_104, x165_105, x165_106, x165_107, x165_110, x165_112, x165_113, x165_114, x165_115, x165_116, x165_117, x165_120, x165_122, x165_123, x165_124, x165_125, x165_128, x165_130, x165_133, x165_134, x165_137, x165_139, x165_140, x165_141, x165_142, x165_143, x165_144, x165_147, x165_149, x165_150, x165_151, x165_152, x165_153, x165_154, x165_157, x165_159, x165_160, x165_161, x165_162, x165_163, x165_164, x165_168, x165_169, x165_170, x165_174, xc165_2 m1.1 (f0 _), xc165_171 m1.1 mG, x0, x1, x2, x3, x4, x5, x6, x7, and_self, litZ, ↓reduceIte]) (by decide) (by decide) G (same2 rfl)
    by_cases x9 : x = 9
    · subst x9
      have G1 := GX_O (h' := fst h 33 S1) G (OF_fst F S1) (OE_set (k := 8) (by decide))
      have MM2 := G1.2.2.2.2.2.2.2.2.1
      obtain ⟨Z0, hZ0⟩ := stk_self MM2.1
      obtain ⟨Z1, mO⟩ := sp_offer (d := 1) (S := Z0) MM2.1 R Mh hv
      rw [← hZ0] at mO
      have f2 := fun d => sp_misWorker (d := d) (w := nI v) MM2.1 ⟨n, R.1, R.2.1⟩
      rw [b2_t hw] at f2
      exact PR_of (h1 := fst h 33 S1) (h2 := stk (fst h 33 S1) 128 Z1) (dc := 5) (dm := 5) (v := ofF A C ml v) (by simp only [x101_0, x101_1, x101_4, x101_8, x101_11, x101_14, x101_15, x101_16, x101_80, x101_81, x101_84, x101_87, x101_88, x101_89, x101_90, x101_91, x101_94, x101_97, x101_98, x101_99, x101_100, x101_101, x101_104, x101_107, x101_108, x101_109, x101_110, x101_111, x101_114, x101_117, x101_118, x101_119, x101_120, x101_121, x101_124, x101_127, x101_128, x101_129, x101_130, x101_131, x101_134, x101_137, x101_138, x101_142, x101_143, x101_144, x101_147, x101_150, x101_151, x101_152, x101_155, x101_156, x101_157, x101_160, x101_164, x101_165, x101_166, x101_169, x101_170, x101_171, x101_174, x101_181, x101_182, x101_183, x101_186, x101_190, xc101_5 F.1 (e0 _), xc101_187 F.1 eO, X0, x0, x1, x2, x3, x4, x5, x6, x7, x8, and_self, litZ, ↓reduceIte]) (by simp only [x165_0, x165_1, x165_5, x165_8, x165_11, x165_12, x165_13, x165_76, x165_77, x165_80, x165_82, x165_83, x165_84, x165_85, x165_86, x165_87, x165_90, x165_92, x165_93, x165_94, x165_95, x165_96, x165_97, x165_100, x165_102, x165_103, x165_104, x165_105, x165_106, x165_107, x165_110, x165_112, x165_113, x165_114, x165_115, x165_116, x165_117, x165_120, x165_122, x165_123, x165_124, x165_125, x165_128, x165_130, x165_133, x165_134, x165_137, x165_139, x165_140, x165_141, x165_142, x165_143, x165_144, x165_147, x165_149, x165_150, x165_151, x165_152, x165_153, x165_154, x165_157, x165_159, x165_160, x165_161, x165_162, x165_163, x165_164, x165_168, x165_169, x165_170, x165_174, x165_175, x165_176, x165_180, xc165_2 MM2.1.1 (f2 _), xc165_177 MM2.1.1 mO, x0, x1, x2, x3, x4, x5, x6, x7, x8, and_self, litZ, ↓reduceIte]) (by decide) (by decide) (GX_M G1 (MM_stk MM2 Z1) (ME_set (k := 3) (by decide))) (same2 rfl)
    by_cases x10 : x = 10
    · subst x10
      have G1 := GX_O (h' := fst h 33 S2) G (OF_fst F S2) (OE_set (k := 8) (by decide))
      have MM2 := G1.2.2.2.2.2.2.2.2.1
      obtain ⟨Z0, hZ0⟩ := stk_self MM2.1
      obtain ⟨Z1, mO⟩ := sp_wish (d := 1) (S := Z0) MM2.1 R Mh hv
      rw [← hZ0] at mO
      have f2 := fun d => sp_misWorker (d := d) (w := nI v) MM2.1 ⟨n, R.1, R.2.1⟩
      rw [b2_t hw] at f2
      exact PR_of (h1 := fst h 33 S2) (h2 := stk (fst h 33 S2) 128 Z1) (dc := 5) (dm := 5) (v := wiF A C ml v) (by simp only [x101_0, x101_1, x101_4, x101_8, x101_11, x101_14, x101_15, x101_16, x101_80, x101_81, x101_84, x101_87, x101_88, x101_89, x101_90, x101_91, x101_94, x101_97, x101_98, x101_99, x101_100, x101_101, x101_104, x101_107, x101_108, x101_109, x101_110, x101_111, x101_114, x101_117, x101_118, x101_119, x101_120, x101_121, x101_124, x101_127, x101_128, x101_129, x101_130, x101_131, x101_134, x101_137, x101_138, x101_142, x101_143, x101_144, x101_147, x101_150, x101_151, x101_152, x101_155, x101_156, x101_157, x101_160, x101_164, x101_165, x101_166, x101_169, x101_170, x101_171, x101_174, x101_181, x101_182, x101_183, x101_186, x101_190, x101_191, x101_192, x101_195, x101_199, xc101_5 F.1 (e0 _), xc101_196 F.1 eW, X0, x0, x1, x2, x3, x4, x5, x6, x7, x8, x9, and_self, litZ, ↓reduceIte]) (by simp only [x165_0, x165_1, x165_5, x165_8, x165_11, x165_12, x165_13, x165_76, x165_77, x165_80, x165_82, x165_83, x165_84, x165_85, x165_86, x165_87, x165_90, x165_92, x165_93, x165_94, x165_95, x165_96, x165_97, x165_100, x165_102, x165_103, x165_104, x165_105, x165_106, x165_107, x165_110, x165_112, x165_113, x165_114, x165_115, x165_116, x165_117, x165_120, x165_122, x165_123, x165_124, x165_125, x165_128, x165_130, x165_133, x165_134, x165_137, x165_139, x165_140, x165_141, x165_142, x165_143, x165_144, x165_147, x165_149, x165_150, x165_151, x165_152, x165_153, x165_154, x165_157, x165_159, x165_160, x165_161, x165_162, x165_163, x165_164, x165_168, x165_169, x165_170, x165_174, x165_175, x165_176, x165_180, x165_181, x165_182, x165_186, xc165_2 MM2.1.1 (f2 _), xc165_183 MM2.1.1 mO, x0, x1, x2, x3, x4, x5, x6, x7, x8, x9, and_self, litZ, ↓reduceIte]) (by decide) (by decide) (GX_M G1 (MM_stk MM2 Z1) (ME_set (k := 3) (by decide))) (same2 rfl)
    by_cases x11 : x = 11
    · subst x11
      have G1 := GX_O (h' := fst h 33 S3) G (OF_fst F S3) (OE_set (k := 8) (by decide))
      have MM2 := G1.2.2.2.2.2.2.2.2.1
      obtain ⟨Z0, hZ0⟩ := stk_self MM2.1
      obtain ⟨Z1, mO⟩ := sp_does (d := 1) (S := Z0) MM2.1 R Mh hv
      rw [← hZ0] at mO
      have f2 := fun d => sp_misWorker (d := d) (w := nI v) MM2.1 ⟨n, R.1, R.2.1⟩
      rw [b2_t hw] at f2
      exact PR_of (h1 := fst h 33 S3) (h2 := stk (fst h 33 S3) 128 Z1) (dc := 6) (dm := 6) (v := dnF A C ml n v) (by simp only [x101_0, x101_1, x101_4, x101_8, x101_11, x101_14, x101_15, x101_16, x101_80, x101_81, x101_84, x101_87, x101_88, x101_89, x101_90, x101_91, x101_94, x101_97, x101_98, x101_99, x101_100, x101_101, x101_104, x101_107, x101_108, x101_109, x101_110, x101_111, x101_114, x101_117, x101_118, x101_119, x101_120, x101_121, x101_124, x101_127, x101_128, x101_129, x101_130, x101_131, x101_134, x101_137, x101_138, x101_142, x101_143, x101_144, x101_147, x101_150, x101_151, x101_152, x101_155, x101_156, x101_157, x101_160, x101_164, x101_165, x101_166, x101_169, x101_170, x101_171, x101_174, x101_181, x101_182, x101_183, x101_186, x101_190, x101_191, x101_192, x101_195, x101_199, x101_200, x101_201, x101_204, x101_208, x101_209, x101_212, xc101_5 F.1 (e0 _), xc101_205 F.1 eD, X0, x0, x1, x2, x3, x4, x5, x6, x7, x8, x9, x10, and_self, litZ, ↓reduceIte, dnF]) (by simp only [x165_0, x165_1, x165_5, x165_8, x165_11, x165_12, x165_13, x165_76, x165_77, x165_80, x165_82, x165_83, x165_84, x165_85, x165_86, x165_87, x165_90, x165_92, x165_93, x165_94, x165_95, x165_96, x165_97, x165_100, x165_102, x165_103, x165_104, x165_105, x165_106, x165_107, x165_110, x165_112, x165_113, x165_114, x165_115, x165_116, x165_117, x165_120, x165_122, x165_123, x165_124, x165_125, x165_128, x165_130, x165_133, x165_134, x165_137, x165_139, x165_140, x165_141, x165_142, x165_143, x165_144, x165_147, x165_149, x165_150, x165_151, x165_152, x165_153, x165_154, x165_157, x165_159, x165_160, x165_161, x165_162, x165_163, x165_164, x165_168, x165_169, x165_170, x165_174, x165_175, x165_176, x165_180, x165_181, x165_182, x165_186, x165_187, x165_188, x165_192, x165_193, x165_196, xc165_2 MM2.1.1 (f2 _), xc165_189 MM2.1.1 mO, x0, x1, x2, x3, x4, x5, x6, x7, x8, x9, x10, and_self, litZ, ↓reduceIte]) (by decide) (by decide) (GX_M G1 (MM_stk MM2 Z1) (ME_set (k := 3) (by decide))) (same2 rfl)
    · exact PR_ro (dc := 2) (dm := 2) (v := -10001) (by simp only [x101_0, x101_1, x101_4, x101_8, x101_11, x101_14, x101_15, x101_16, x101_80, x101_81, x101_84, x101_87, x101_88, x101_89, x101_90, x101_91, x101_94, x101_97, x101_98, x101_99, x101_100, x101_101, x101_104, x101_107, x101_108, x101_109, x101_110, x101_111, x101_114, x101_117, x101_118, x101_119, x101_120, x101_121, x101_124, x101_127, x101_128, x101_129, x101_130, x101_131, x101_134, x101_137, x101_138, x101_142, x101_143, x101_144, x101_147, x101_150, x101_151, x101_152, x101_155, x101_156, x101_157, x101_160, x101_164, x101_165, x101_166, x101_169, x101_170, x101_171, x101_174, x101_181, x101_182, x101_183, x101_186, x101_190, x101_191, x101_192, x101_195, x101_199, x101_200, x101_201, x101_204, x101_208, x101_209, x101_212, xc101_5 F.1 (e0 _), X0, x0, x1, x2, x3, x4, x5, x6, x7, x8, x9, x10, x11, and_self, litZ, ↓reduceIte]) (by simp only [x165_0, x165_1, x165_5, x165_8, x165_11, x165_12, x165_13, x165_76, x165_77, x165_80, x165_82, x165_83, x165_84, x165_85, x165_86, x165_87, x165_90, x165_92, x165_93, x165_94, x165_95, x165_96, x165_97, x165_100, x165_102, x165_103, x165_104, x165_105, x165_106, x165_107, x165_110, x165_112, x165_113, x165_114, x165_115, x165_116, x165_117, x165_120, x165_122, x165_123, x165_124, x165_125, x165_128, x165_130, x165_133, x165_134, x165_137, x165_139, x165_140, x165_141, x165_142, x165_143, x165_144, x165_147, x165_149, x165_150, x165_151, x165_152, x165_153, x165_154, x165_157, x165_159, x165_160, x165_161, x165_162, x165_163, x165_164, x165_168, x165_169, x165_170, x165_174, x165_175, x165_176, x165_180, x165_181, x165_182, x165_186, x165_187, x165_188, x165_192, x165_193, x165_196, xc165_2 m1.1 (f0 _), x0, x1, x2, x3, x4, x5, x6, x7, x8, x9, x10, x11, and_self, litZ, ↓reduceIte]) (by decide) (by decide) G (same2 rfl)
  · rw [b2_f hw] at e0 f0
    exact PR_ro (dc := 2) (dm := 2) (v := -10001) (by simp only [x101_0, x101_1, x101_4, x101_8, x101_11, x101_14, xc101_5 F.1 (e0 _), X0, and_self, ↓reduceIte]) (by simp only [x165_0, x165_1, x165_5, x165_8, x165_11, xc165_2 m1.1 (f0 _), and_self, ↓reduceIte]) (by decide) (by decide) G (same2 rfl)
/-- is a Knowing of the KIND j of the KIND k? -/
def asB (j k : Nat) : Bool := k == 0 || j == k || (j == 4 && k == 1) || (j == 5 && k == 2) || (j == 6 && k == 3)
theorem sp_isOf {a j k : Nat} (hj : j ≤ 6) (hk : k ≤ 6) (hr : cls (h.1 a) = kc (nI j)) : Rf d 125 0 [.ref a, .int (nI k)] [] h = some (some (.int (if asB j k = true then 1 else 0)), h) := by
  have g1 : ∀ j, j ≤ 6 → ((fIx [(0, 0), (1, 1), (2, 1), (4, 0), (5, 0), (8, 0), (9, 0), (200, 2)] (kc (nI j))).isSome = true ∧ nI ((fIx [(0, 0), (1, 1), (2, 1), (4, 0), (5, 0), (8, 0), (9, 0), (200, 2)] (kc (nI j))).getD 0) = (if asB j 1 = true then 1 else 0)) := by decide +kernel
  have g2 : ∀ j, j ≤ 6 → ((fIx [(0, 0), (1, 0), (2, 0), (4, 0), (5, 1), (8, 1), (9, 0), (200, 5)] (kc (nI j))).isSome = true ∧ nI ((fIx [(0, 0), (1, 0), (2, 0), (4, 0), (5, 1), (8, 1), (9, 0), (200, 5)] (kc (nI j))).getD 0) = (if asB j 2 = true then 1 else 0)) := by decide +kernel
  have g3 : ∀ j, j ≤ 6 → ((fIx [(0, 1), (1, 0), (2, 0), (4, 0), (5, 0), (8, 0), (9, 1), (200, 9)] (kc (nI j))).isSome = true ∧ nI ((fIx [(0, 1), (1, 0), (2, 0), (4, 0), (5, 0), (8, 0), (9, 1), (200, 9)] (kc (nI j))).getD 0) = (if asB j 3 = true then 1 else 0)) := by decide +kernel
  have g4 : ∀ j, j ≤ 6 → ((fIx [(0, 0), (1, 1), (2, 0), (4, 0), (5, 0), (8, 0), (9, 0), (200, 1)] (kc (nI j))).isSome = true ∧ nI ((fIx [(0, 0), (1, 1), (2, 0), (4, 0), (5, 0), (8, 0), (9, 0), (200, 1)] (kc (nI j))).getD 0) = (if asB j 4 = true then 1 else 0)) := by decide +kernel
  have g5 : ∀ j, j ≤ 6 → ((fIx [(0, 0), (1, 0), (2, 0), (4, 0), (5, 0), (8, 1), (9, 0), (200, 8)] (kc (nI j))).isSome = true ∧ nI ((fIx [(0, 0), (1, 0), (2, 0), (4, 0), (5, 0), (8, 1), (9, 0), (200, 8)] (kc (nI j))).getD 0) = (if asB j 5 = true then 1 else 0)) := by decide +kernel
  have g6 : ∀ j, j ≤ 6 → ((fIx [(0, 1), (1, 0), (2, 0), (4, 0), (5, 0), (8, 0), (9, 0), (200, 0)] (kc (nI j))).isSome = true ∧ nI ((fIx [(0, 1), (1, 0), (2, 0), (4, 0), (5, 0), (8, 0), (9, 0), (200, 0)] (kc (nI j))).getD 0) = (if asB j 6 = true then 1 else 0)) := by decide +kernel
  have rz : retI (some .boolean) (if asB j k = true then 1 else 0) = true := by split <;> decide
  match k, hk with
  | 0, _ =>
    have : asB j 0 = true := rfl
    simp only [x125_0, x125_1, x125_40, x125_41, x125_44, x125_45, x125_46, x125_49, x125_50, x125_51, x125_54, x125_55, x125_56, x125_59, x125_60, x125_61, x125_64, x125_65, x125_66, x125_69, x125_70, x125_71, nkk, this, retI_z1, ↓reduceIte]
  | 1, _ => simp only [x125_0, x125_1, x125_40, x125_41, x125_44, x125_45, x125_46, x125_49, x125_50, x125_51, x125_54, x125_55, x125_56, x125_59, x125_60, x125_61, x125_64, x125_65, x125_66, x125_69, x125_70, x125_71, nkk, hr, g1 j hj, rz, ↓reduceIte]
  | 2, _ => simp only [x125_0, x125_1, x125_40, x125_41, x125_44, x125_45, x125_46, x125_49, x125_50, x125_51, x125_54, x125_55, x125_56, x125_59, x125_60, x125_61, x125_64, x125_65, x125_66, x125_69, x125_70, x125_71, nkk, hr, g2 j hj, rz, ↓reduceIte]
  | 3, _ => simp only [x125_0, x125_1, x125_40, x125_41, x125_44, x125_45, x125_46, x125_49, x125_50, x125_51, x125_54, x125_55, x125_56, x125_59, x125_60, x125_61, x125_64, x125_65, x125_66, x125_69, x125_70, x125_71, nkk, hr, g3 j hj, rz, ↓reduceIte]
  | 4, _ => simp only [x125_0, x125_1, x125_40, x125_41, x125_44, x125_45, x125_46, x125_49, x125_50, x125_51, x125_54, x125_55, x125_56, x125_59, x125_60, x125_61, x125_64, x125_65, x125_66, x125_69, x125_70, x125_71, nkk, hr, g4 j hj, rz, ↓reduceIte]
  | 5, _ => simp only [x125_0, x125_1, x125_40, x125_41, x125_44, x125_45, x125_46, x125_49, x125_50, x125_51, x125_54, x125_55, x125_56, x125_59, x125_60, x125_61, x125_64, x125_65, x125_66, x125_69, x125_70, x125_71, nkk, hr, g5 j hj, rz, ↓reduceIte]
  | 6, _ => simp only [x125_0, x125_1, x125_40, x125_41, x125_44, x125_45, x125_46, x125_49, x125_50, x125_51, x125_54, x125_55, x125_56, x125_59, x125_60, x125_61, x125_64, x125_65, x125_66, x125_69, x125_70, x125_71, nkk, hr, g6 j hj, rz, ↓reduceIte]
theorem sp_above {j : Nat} (hj : j ≤ 6) : Rf d 188 0 [.int (nI j)] [] h = some (some (.int (nI (j - 3))), h) := by
  have g : ∀ j, j ≤ 6 → ((nI j < 4 ↔ j < 4) ∧ nI j - 3 = (if j < 4 then nI j - 3 else nI (j - 3)) ∧ (j < 4 → nI (j - 3) = 0)) := by decide +kernel
  obtain ⟨g1, g2, g3⟩ := g j hj
  by_cases y : j < 4
  · simp only [x188_0, x188_1, x188_2, x188_5, x188_6, x188_9, x188_10, x188_11, x188_12, g1, y, ↓reduceIte, g3 y]
  · simp only [x188_0, x188_1, x188_2, x188_5, x188_6, x188_9, x188_10, x188_11, x188_12, g1, y, ↓reduceIte]
    rw [g2, if_neg y]
def exK (j k : Nat) : Nat := if j = k then j else if j < 4 then 0 else if j - 3 = k then k else 0
theorem lp_as {k v : Nat} {w : Value} (hk : k ≤ 6) : ∀ j, j ≤ 6 → Rf (d + 1) 195 30 [.ref o, w, .int (nI k), .int (nI j)] [] h = Rf (d + 1) 195 47 [.ref o, w, .int (nI k), .int (nI (exK j k))] [] h := by
  have ne : ∀ j, j ≤ 6 → (nI j = nI k ↔ j = k) := fun j hj => nI_eq (by omega) (by omega)
  have p0 : ∀ j, j ≤ 6 → ((0 : Int32) < nI j ↔ 0 < j) := by decide +kernel
  have z0 : Rf (d + 1) 195 30 [.ref o, w, .int (nI k), .int (nI 0)] [] h = Rf (d + 1) 195 47 [.ref o, w, .int (nI k), .int (nI 0)] [] h := by
    rw [x195_30]
    simp only [x195_31, x195_32, x195_35, x195_36, x195_39, x195_43, x195_44, ne 0 (by omega), p0 0 (by omega), ↓reduceIte, show ¬ (0 < 0) from by decide]
    split <;> rfl
  have stp1 : ∀ j, j ≤ 6 → 0 < j → ¬ j = k → Rf (d + 1) 195 30 [.ref o, w, .int (nI k), .int (nI j)] [] h = Rf (d + 1) 195 30 [.ref o, w, .int (nI k), .int (nI (j - 3))] [] h := by
    intro j hj h0 hjk
    rw [x195_30]
    simp only [x195_31, x195_32, x195_35, x195_36, x195_39, x195_43, x195_44, xc195_40 (sp_above (d := d) hj), ne j hj, p0 j hj, h0, hjk, ↓reduceIte]
  have stp0 : ∀ j, j ≤ 6 → j = k → Rf (d + 1) 195 30 [.ref o, w, .int (nI k), .int (nI j)] [] h = Rf (d + 1) 195 47 [.ref o, w, .int (nI k), .int (nI j)] [] h := by
    intro j hj hjk
    rw [x195_30]
    simp only [x195_31, x195_32, x195_35, x195_36, x195_39, x195_43, x195_44, ne j hj, hjk, ↓reduceIte]
  intro j hj
  unfold exK
  by_cases hjk : j = k
  · rw [if_pos hjk]; exact stp0 j hj hjk
  · rw [if_neg hjk]
    by_cases h4 : j < 4
    · rw [if_pos h4]
      rcases Nat.eq_zero_or_pos j with y | y
      · subst y; exact z0
      · rw [stp1 j hj y hjk, show j - 3 = 0 by omega]; exact z0
    · rw [if_neg h4, stp1 j hj (by omega) hjk]
      by_cases y : j - 3 = k
      · rw [if_pos y, stp0 _ (by omega) y, y]
      · rw [if_neg y, stp1 (j - 3) (by omega) (by omega) y, show j - 3 - 3 = 0 by omega]
        exact z0
theorem exK_as : ∀ j, j ≤ 6 → ∀ k, k ≤ 6 → (exK j k = k ↔ asB j k = true) ∧ exK j k ≤ 6 := by decide +kernel
theorem pr_as (G : GI h) {w x : Int32} : PR h 124 195 [.ref 32, .int w, .int x, noV] [.ref 128, .int w, .int x, noV] := by
  obtain ⟨A, B, im, rn, T, n, C, cl, ml, q, kn, n2, C2, cl2, ml2, q2, kn2, G⟩ := G
  obtain ⟨F, K, D, R, Q, H, Mh, HRm, DD, l1, l2⟩ := G.2.2.2.1
  have X0 := G.1
  have m1 := G.2.2.2.2.2.2.2.2.1.1
  have e0 := sp_isWorker (d := 1) (w := w) F
  have f0 := sp_misWorker (d := 0) (w := w) m1 ⟨n, R.1, R.2.1⟩
  by_cases hw : ¬ w < 0 ∧ w < A 0
  · rw [b2_t hw] at e0 f0
    obtain ⟨v, hv, rfl⟩ := isW_of R hw
    have hn := R.1
    have hv10 : v < 10 := by omega
    have c2 : inB (nI v) 10 = true := nI_inB (by omega) (by omega)
    have c3 : (nI v).toNatClampNeg = v := nI_clamp (by omega)
    obtain ⟨j, hj, hj2⟩ := kind_of R hv10
    obtain ⟨k1, k2, k3, k4, k5, k6⟩ := K v hv10
    rw [hj2] at k1
    have i60 : (60 : Int32) + nI v = nI (60 + v) ∧ inB (nI (60 + v)) 931 = true ∧ (nI (60 + v)).toNatClampNeg = 60 + v := ixs 60 v (by omega)
    have i70 : (70 : Int32) + nI v = nI (70 + v) ∧ inB (nI (70 + v)) 931 = true ∧ (nI (70 + v)).toNatClampNeg = 70 + v := ixs 70 v (by omega)
    by_cases hx : ¬ x < 0 ∧ ¬ 6 < x
    · obtain ⟨k, hk, rfl⟩ := nI_of2 (M := 6) (n := 6) (by decide) hx.1 (Int32.not_lt.mp hx.2)
      have e1 := sp_isOf (d := 1) (h := h) hj hk k1
      have f1 := lp_as (d := 1) (h := h) (o := 128) (v := v) (w := .int (nI v)) hk j hj
      obtain ⟨g1, g2⟩ := exK_as j hj k hk
      have g3 : nI (exK j k) = nI k ↔ exK j k = k := nI_eq (by omega) (by omega)
      refine PR_ro (dc := 2) (dm := 2) (v := if asB j k = true then A (70 + v) else -6) ?_ ?_ (by decide) (by decide) G (same2 rfl)
      · cases hb : asB j k
        · rw [hb] at e1
          simp only [Bool.false_eq_true, ↓reduceIte] at e1
          simp only [x124_0, x124_1, x124_4, x124_8, x124_11, x124_12, x124_17, x124_20, x124_21, x124_22, x124_23, x124_26, x124_29, x124_30, x124_31, x124_32, x124_33, x124_37, x124_40, x124_41, x124_44, x124_47, x124_49, xc124_5 F.1 e0, xc124_14 (sp_within (d := 1)), xc124_34 e1, X0, F, c2, c3, krR_at hv10, Option.isSome_some, Option.getD_some, b2_0, hx, not_true_eq_false, not_false_eq_true, and_self, litZ, ↓reduceIte, Bool.false_eq_true]
        · rw [hb] at e1
          simp only [↓reduceIte] at e1
          simp only [x124_0, x124_1, x124_4, x124_8, x124_11, x124_12, x124_17, x124_20, x124_21, x124_22, x124_23, x124_26, x124_29, x124_30, x124_31, x124_32, x124_33, x124_37, x124_40, x124_41, x124_44, x124_47, x124_49, xc124_5 F.1 e0, xc124_14 (sp_within (d := 1)), xc124_34 e1, X0, F, c2, c3, krR_at hv10, Option.isSome_some, Option.getD_some, b2_0, hx, k1, fxv hj, k4, k5, not_true_eq_false, not_false_eq_true, and_self, litZ, ↓reduceIte]
      · have f2 : Rf 2 195 0 [.ref 128, .int (nI v), .int (nI k), noV] [] h = Rf 2 195 30 [.ref 128, .int (nI v), .int (nI k), .int (nI j)] [] h := by
          simp only [x195_0, x195_1, x195_5, x195_8, x195_9, x195_10, x195_15, x195_18, x195_19, x195_20, x195_21, x195_24, x195_26, x195_27, x195_28, x195_29, xc195_2 m1.1 f0, xc195_12 (sp_mwithin (d := 1)), m1, i60, hj2, b2_0, hx, true_or, not_true_eq_false, not_false_eq_true, and_self, litZ, ↓reduceIte]
        rw [f2, f1]
        cases hb : asB j k
        · have y : ¬ exK j k = k := fun z => by rw [g1.mp z] at hb; cases hb
          simp only [x195_47, x195_48, x195_49, x195_52, x195_53, x195_56, x195_58, x195_59, x195_60, x195_61, x195_64, x195_66, m1, g3, y, ↓reduceIte, Bool.false_eq_true]
        · have y : exK j k = k := g1.mpr hb
          simp only [x195_47, x195_48, x195_49, x195_52, x195_53, x195_56, x195_58, x195_59, x195_60, x195_61, x195_64, x195_66, m1, g3, y, i70, true_or, and_self, ↓reduceIte]
    · exact PR_ro (dc := 2) (dm := 2) (v := -1) (by simp only [x124_0, x124_1, x124_4, x124_8, x124_11, x124_12, x124_17, x124_20, x124_21, x124_22, x124_23, x124_26, x124_29, x124_30, x124_31, x124_32, x124_33, x124_37, x124_40, x124_41, x124_44, x124_47, x124_49, xc124_5 F.1 e0, xc124_14 (sp_within (d := 1)), X0, b2_0, hx, not_false_eq_true, and_self, litZ, ↓reduceIte]) (by simp only [x195_0, x195_1, x195_5, x195_8, x195_9, x195_10, x195_15, x195_18, x195_19, x195_20, xc195_2 m1.1 f0, xc195_12 (sp_mwithin (d := 1)), b2_0, hx, not_false_eq_true, and_self, litZ, ↓reduceIte]) (by decide) (by decide) G (same2 rfl)
  · rw [b2_f hw] at e0 f0
    exact PR_ro (dc := 2) (dm := 2) (v := -1) (by simp only [x124_0, x124_1, x124_4, x124_8, x124_11, x124_12, x124_17, x124_20, x124_21, x124_22, x124_23, x124_26, x124_29, x124_30, x124_31, x124_32, x124_33, x124_37, x124_40, x124_41, x124_44, x124_47, x124_49, xc124_5 F.1 e0, X0, and_self, ↓reduceIte]) (by simp only [x195_0, x195_1, x195_5, x195_8, x195_9, x195_10, x195_15, x195_18, x195_19, x195_20, xc195_2 m1.1 f0, and_self, ↓reduceIte]) (by decide) (by decide) G (same2 rfl)
end OFS
