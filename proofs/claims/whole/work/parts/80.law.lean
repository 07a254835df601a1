-- deps: 66.start2
/-! THE LAW: call by call. -/
def SC (h : AHp) (L : Nat) (xs : Nat → Int32) : Prop := aT (h.1 31) = 10 ∧ aN (h.1 31) = L ∧ aF (h.1 31) = xs ∧ cls (h.1 32) = 11 ∧ cls (h.1 128) = 12 ∧ 136 ≤ h.2.1
def NX (h h2 : AHp) : Prop := GI h2 ∧ h2.2.1 ≤ h.2.1 + 6 ∧ h2.2.2 ≤ h.2.2 + 300 ∧ sgH h2 ≤ sgH h + 1 ∧ FZ h h2
section LW
variable {h h2 : AHp} {L i : Nat} {xs : Nat → Int32}
theorem GI_32 (G : GI h) : cls (h.1 32) = 11 := by
  obtain ⟨A, B, im, rn, T, n, C, cl, ml, q, kn, n2, C2, cl2, ml2, q2, kn2, G⟩ := G
  exact G.1.1
theorem SC_1 (S : SC h L xs) (F : FZ h h2) : aT (h2.1 31) = 10 ∧ aN (h2.1 31) = L ∧ aF (h2.1 31) = xs ∧ cls (h2.1 128) = 12 := by
  obtain ⟨s1, s2, s3, s4, s5, s6⟩ := S
  have e := F.2.1 31 (by omega) (Or.inl s1)
  rw [e]
  exact ⟨s1, s2, s3, F.2.2 128 (by omega) s5⟩
theorem SC_2 (S : SC h L xs) (F : FZ h h2) (G : GI h2) : SC h2 L xs := by
  obtain ⟨a, b, c, e⟩ := SC_1 S F
  exact ⟨a, b, c, GI_32 G, e, Nat.le_trans S.2.2.2.2.2 F.1⟩
theorem rd (hL : L ≤ 320) {k : Nat} (hk : i + k < L) : nI i + nI k = nI (i + k) ∧ inB (nI (i + k)) L = true ∧ (nI (i + k)).toNatClampNeg = i + k := ⟨nI_add i k, nI_inB hk (by omega), nI_clamp (by omega)⟩
theorem rd1 (hL : L ≤ 320) (hk : i + 4 < L) : (nI i + 1 = nI (i + 1) ∧ inB (nI (i + 1)) L = true ∧ (nI (i + 1)).toNatClampNeg = i + 1) ∧ (nI i + 2 = nI (i + 2) ∧ inB (nI (i + 2)) L = true ∧ (nI (i + 2)).toNatClampNeg = i + 2) ∧ (nI i + 3 = nI (i + 3) ∧ inB (nI (i + 3)) L = true ∧ (nI (i + 3)).toNatClampNeg = i + 3) ∧ (nI i + 4 = nI (i + 4) ∧ inB (nI (i + 4)) L = true ∧ (nI (i + 4)).toNatClampNeg = i + 4) := ⟨rd hL (k := 1) (by omega), rd hL (k := 2) (by omega), rd hL (k := 3) (by omega), rd hL (k := 4) (by omega)⟩
theorem lw_0 (S : SC h L xs) (hL : L ≤ 320) (hi : i + 4 < L) (P : PR h 95 133 [.ref 32, .int (xs (i + 1))] [.ref 128, .int (xs (i + 1))]) : ∃ h2, Rf 1000 217 168 [.ref 31, .ref 32, .ref 128, .int (nI i)] [] h = Rf 1000 217 1008 [.ref 31, .ref 32, .ref 128, .int (nI i)] [] h2 ∧ NX h h2 := by
  obtain ⟨v, h1, h2, e1, e2, g, b1, b2, b3⟩ := P
  have F1 := Rf_fz e1
  have F2 := Rf_fz e2
  have S1 := SC_1 S F1
  have k1 := Rf_up (show 900 ≤ 999 by decide) e1
  have k2 := Rf_up (show 900 ≤ 999 by decide) e2
  have r := rd1 hL hi
  unfold SC at S
  refine ⟨h2, ?_, g, b1, b2, b3, FZ_tr F1 F2⟩
  simp only [x217_168, x217_169, x217_170, x217_171, x217_172, x217_173, x217_177, x217_178, x217_179, x217_180, x217_181, x217_182, x217_186, xc217_174 S.2.2.2.1 k1, xc217_183 S1.2.2.2 k2, S, S1, r, true_or, or_true, and_self, eq_self, ↓reduceIte]
theorem lw_1 (S : SC h L xs) (hL : L ≤ 320) (hi : i + 4 < L) (P : PR h 96 145 [.ref 32, noV, noV] [.ref 128, noV]) : ∃ h2, Rf 1000 217 191 [.ref 31, .ref 32, .ref 128, .int (nI i)] [] h = Rf 1000 217 1008 [.ref 31, .ref 32, .ref 128, .int (nI i)] [] h2 ∧ NX h h2 := by
  obtain ⟨v, h1, h2, e1, e2, g, b1, b2, b3⟩ := P
  have F1 := Rf_fz e1
  have F2 := Rf_fz e2
  have S1 := SC_1 S F1
  have k1 := Rf_up (show 900 ≤ 999 by decide) e1
  have k2 := Rf_up (show 900 ≤ 999 by decide) e2
  have r := rd1 hL hi
  unfold SC at S
  refine ⟨h2, ?_, g, b1, b2, b3, FZ_tr F1 F2⟩
  simp only [x217_191, x217_195, x217_199, xc217_192 S.2.2.2.1 k1, xc217_196 S1.2.2.2 k2, S, S1, r, true_or, or_true, and_self, eq_self, ↓reduceIte]
theorem lw_2 (S : SC h L xs) (hL : L ≤ 320) (hi : i + 4 < L) (P : PR h 97 156 [.ref 32, .int (xs (i + 1))] [.ref 128, .int (xs (i + 1))]) : ∃ h2, Rf 1000 217 204 [.ref 31, .ref 32, .ref 128, .int (nI i)] [] h = Rf 1000 217 1008 [.ref 31, .ref 32, .ref 128, .int (nI i)] [] h2 ∧ NX h h2 := by
  obtain ⟨v, h1, h2, e1, e2, g, b1, b2, b3⟩ := P
  have F1 := Rf_fz e1
  have F2 := Rf_fz e2
  have S1 := SC_1 S F1
  have k1 := Rf_up (show 900 ≤ 999 by decide) e1
  have k2 := Rf_up (show 900 ≤ 999 by decide) e2
  have r := rd1 hL hi
  unfold SC at S
  refine ⟨h2, ?_, g, b1, b2, b3, FZ_tr F1 F2⟩
  simp only [x217_204, x217_205, x217_206, x217_207, x217_208, x217_209, x217_213, x217_214, x217_215, x217_216, x217_217, x217_218, x217_222, xc217_210 S.2.2.2.1 k1, xc217_219 S1.2.2.2 k2, S, S1, r, true_or, or_true, and_self, eq_self, ↓reduceIte]
theorem lw_3 (S : SC h L xs) (hL : L ≤ 320) (hi : i + 4 < L) (P : PR h 98 158 [.ref 32, .int (xs (i + 1)), .int (xs (i + 2)), .int (xs (i + 3)), .int (xs (i + 4))] [.ref 128, .int (xs (i + 1)), .int (xs (i + 2)), .int (xs (i + 3)), .int (xs (i + 4)), noV]) : ∃ h2, Rf 1000 217 227 [.ref 31, .ref 32, .ref 128, .int (nI i)] [] h = Rf 1000 217 1008 [.ref 31, .ref 32, .ref 128, .int (nI i)] [] h2 ∧ NX h h2 := by
  obtain ⟨v, h1, h2, e1, e2, g, b1, b2, b3⟩ := P
  have F1 := Rf_fz e1
  have F2 := Rf_fz e2
  have S1 := SC_1 S F1
  have k1 := Rf_up (show 900 ≤ 999 by decide) e1
  have k2 := Rf_up (show 900 ≤ 999 by decide) e2
  have r := rd1 hL hi
  unfold SC at S
  refine ⟨h2, ?_, g, b1, b2, b3, FZ_tr F1 F2⟩
  simp only [x217_227, x217_228, x217_229, x217_230, x217_231, x217_232, x217_233, x217_234, x217_235, x217_236, x217_237, x217_238, x217_239, x217_240, x217_241, x217_242, x217_243, x217_244, x217_245, x217_246, x217_247, x217_251, x217_252, x217_253, x217_254, x217_255, x217_256, x217_257, x217_258, x217_259, x217_260, x217_261, x217_262, x217_263, x217_264, x217_265, x217_266, x217_267, x217_268, x217_269, x217_270, x217_271, x217_275, xc217_248 S.2.2.2.1 k1, xc217_272 S1.2.2.2 k2, S, S1, r, true_or, or_true, and_self, eq_self, ↓reduceIte]
theorem lw_4 (S : SC h L xs) (hL : L ≤ 320) (hi : i + 4 < L) (P : PR h 99 159 [.ref 32, .int (xs (i + 1)), .int (xs (i + 2)), .int (xs (i + 3))] [.ref 128, .int (xs (i + 1)), .int (xs (i + 2)), .int (xs (i + 3)), noV]) : ∃ h2, Rf 1000 217 280 [.ref 31, .ref 32, .ref 128, .int (nI i)] [] h = Rf 1000 217 1008 [.ref 31, .ref 32, .ref 128, .int (nI i)] [] h2 ∧ NX h h2 := by
  obtain ⟨v, h1, h2, e1, e2, g, b1, b2, b3⟩ := P
  have F1 := Rf_fz e1
  have F2 := Rf_fz e2
  have S1 := SC_1 S F1
  have k1 := Rf_up (show 900 ≤ 999 by decide) e1
  have k2 := Rf_up (show 900 ≤ 999 by decide) e2
  have r := rd1 hL hi
  unfold SC at S
  refine ⟨h2, ?_, g, b1, b2, b3, FZ_tr F1 F2⟩
  simp only [x217_280, x217_281, x217_282, x217_283, x217_284, x217_285, x217_286, x217_287, x217_288, x217_289, x217_290, x217_291, x217_292, x217_293, x217_294, x217_295, x217_299, x217_300, x217_301, x217_302, x217_303, x217_304, x217_305, x217_306, x217_307, x217_308, x217_309, x217_310, x217_311, x217_312, x217_313, x217_314, x217_318, xc217_296 S.2.2.2.1 k1, xc217_315 S1.2.2.2 k2, S, S1, r, true_or, or_true, and_self, eq_self, ↓reduceIte]
theorem lw_5 (S : SC h L xs) (hL : L ≤ 320) (hi : i + 4 < L) (P : PR h 100 160 [.ref 32, .int (xs (i + 1)), .int (xs (i + 2)), noV] [.ref 128, .int (xs (i + 1)), .int (xs (i + 2)), noV]) : ∃ h2, Rf 1000 217 323 [.ref 31, .ref 32, .ref 128, .int (nI i)] [] h = Rf 1000 217 1008 [.ref 31, .ref 32, .ref 128, .int (nI i)] [] h2 ∧ NX h h2 := by
  obtain ⟨v, h1, h2, e1, e2, g, b1, b2, b3⟩ := P
  have F1 := Rf_fz e1
  have F2 := Rf_fz e2
  have S1 := SC_1 S F1
  have k1 := Rf_up (show 900 ≤ 999 by decide) e1
  have k2 := Rf_up (show 900 ≤ 999 by decide) e2
  have r := rd1 hL hi
  unfold SC at S
  refine ⟨h2, ?_, g, b1, b2, b3, FZ_tr F1 F2⟩
  simp only [x217_323, x217_324, x217_325, x217_326, x217_327, x217_328, x217_329, x217_330, x217_331, x217_332, x217_333, x217_337, x217_338, x217_339, x217_340, x217_341, x217_342, x217_343, x217_344, x217_345, x217_346, x217_347, x217_351, xc217_334 S.2.2.2.1 k1, xc217_348 S1.2.2.2 k2, S, S1, r, true_or, or_true, and_self, eq_self, ↓reduceIte]
theorem lw_6 (S : SC h L xs) (hL : L ≤ 320) (hi : i + 4 < L) (P : PR h 101 165 [.ref 32, .int (xs (i + 1)), .int (xs (i + 2))] [.ref 128, .int (xs (i + 1)), .int (xs (i + 2))]) : ∃ h2, Rf 1000 217 356 [.ref 31, .ref 32, .ref 128, .int (nI i)] [] h = Rf 1000 217 1008 [.ref 31, .ref 32, .ref 128, .int (nI i)] [] h2 ∧ NX h h2 := by
  obtain ⟨v, h1, h2, e1, e2, g, b1, b2, b3⟩ := P
  have F1 := Rf_fz e1
  have F2 := Rf_fz e2
  have S1 := SC_1 S F1
  have k1 := Rf_up (show 900 ≤ 999 by decide) e1
  have k2 := Rf_up (show 900 ≤ 999 by decide) e2
  have r := rd1 hL hi
  unfold SC at S
  refine ⟨h2, ?_, g, b1, b2, b3, FZ_tr F1 F2⟩
  simp only [x217_356, x217_357, x217_358, x217_359, x217_360, x217_361, x217_362, x217_363, x217_364, x217_365, x217_366, x217_370, x217_371, x217_372, x217_373, x217_374, x217_375, x217_376, x217_377, x217_378, x217_379, x217_380, x217_384, xc217_367 S.2.2.2.1 k1, xc217_381 S1.2.2.2 k2, S, S1, r, true_or, or_true, and_self, eq_self, ↓reduceIte]
theorem lw_7 (S : SC h L xs) (hL : L ≤ 320) (hi : i + 4 < L) (P : PR h 102 166 [.ref 32, .int (xs (i + 1)), .int (xs (i + 2)), .int (xs (i + 3)), noV, noV] [.ref 128, .int (xs (i + 1)), .int (xs (i + 2)), .int (xs (i + 3)), noV, noV]) : ∃ h2, Rf 1000 217 389 [.ref 31, .ref 32, .ref 128, .int (nI i)] [] h = Rf 1000 217 1008 [.ref 31, .ref 32, .ref 128, .int (nI i)] [] h2 ∧ NX h h2 := by
  obtain ⟨v, h1, h2, e1, e2, g, b1, b2, b3⟩ := P
  have F1 := Rf_fz e1
  have F2 := Rf_fz e2
  have S1 := SC_1 S F1
  have k1 := Rf_up (show 900 ≤ 999 by decide) e1
  have k2 := Rf_up (show 900 ≤ 999 by decide) e2
  have r := rd1 hL hi
  unfold SC at S
  refine ⟨h2, ?_, g, b1, b2, b3, FZ_tr F1 F2⟩
  simp only [x217_389, x217_390, x217_391, x217_392, x217_393, x217_394, x217_395, x217_396, x217_397, x217_398, x217_399, x217_400, x217_401, x217_402, x217_403, x217_404, x217_408, x217_409, x217_410, x217_411, x217_412, x217_413, x217_414, x217_415, x217_416, x217_417, x217_418, x217_419, x217_420, x217_421, x217_422, x217_423, x217_427, xc217_405 S.2.2.2.1 k1, xc217_424 S1.2.2.2 k2, S, S1, r, true_or, or_true, and_self, eq_self, ↓reduceIte]
theorem lw_8 (S : SC h L xs) (hL : L ≤ 320) (hi : i + 4 < L) (P : PR h 103 167 [.ref 32, .int (xs (i + 1)), noV] [.ref 128, .int (xs (i + 1)), noV]) : ∃ h2, Rf 1000 217 432 [.ref 31, .ref 32, .ref 128, .int (nI i)] [] h = Rf 1000 217 1008 [.ref 31, .ref 32, .ref 128, .int (nI i)] [] h2 ∧ NX h h2 := by
  obtain ⟨v, h1, h2, e1, e2, g, b1, b2, b3⟩ := P
  have F1 := Rf_fz e1
  have F2 := Rf_fz e2
  have S1 := SC_1 S F1
  have k1 := Rf_up (show 900 ≤ 999 by decide) e1
  have k2 := Rf_up (show 900 ≤ 999 by decide) e2
  have r := rd1 hL hi
  unfold SC at S
  refine ⟨h2, ?_, g, b1, b2, b3, FZ_tr F1 F2⟩
  simp only [x217_432, x217_433, x217_434, x217_435, x217_436, x217_437, x217_441, x217_442, x217_443, x217_444, x217_445, x217_446, x217_450, xc217_438 S.2.2.2.1 k1, xc217_447 S1.2.2.2 k2, S, S1, r, true_or, or_true, and_self, eq_self, ↓reduceIte]
theorem lw_9 (S : SC h L xs) (hL : L ≤ 320) (hi : i + 4 < L) (P : PR h 104 169 [.ref 32] [.ref 128]) : ∃ h2, Rf 1000 217 455 [.ref 31, .ref 32, .ref 128, .int (nI i)] [] h = Rf 1000 217 1008 [.ref 31, .ref 32, .ref 128, .int (nI i)] [] h2 ∧ NX h h2 := by
  obtain ⟨v, h1, h2, e1, e2, g, b1, b2, b3⟩ := P
  have F1 := Rf_fz e1
  have F2 := Rf_fz e2
  have S1 := SC_1 S F1
  have k1 := Rf_up (show 900 ≤ 999 by decide) e1
  have k2 := Rf_up (show 900 ≤ 999 by decide) e2
  have r := rd1 hL hi
  unfold SC at S
  refine ⟨h2, ?_, g, b1, b2, b3, FZ_tr F1 F2⟩
  simp only [x217_455, x217_459, x217_463, xc217_456 S.2.2.2.1 k1, xc217_460 S1.2.2.2 k2, S, S1, r, true_or, or_true, and_self, eq_self, ↓reduceIte]
theorem lw_10 (S : SC h L xs) (hL : L ≤ 320) (hi : i + 4 < L) (P : PR h 105 172 [.ref 32, .int (xs (i + 1)), .int (xs (i + 2)), .int (xs (i + 3)), noV] [.ref 128, .int (xs (i + 1)), .int (xs (i + 2)), .int (xs (i + 3)), noV, noV]) : ∃ h2, Rf 1000 217 468 [.ref 31, .ref 32, .ref 128, .int (nI i)] [] h = Rf 1000 217 1008 [.ref 31, .ref 32, .ref 128, .int (nI i)] [] h2 ∧ NX h h2 := by
  obtain ⟨v, h1, h2, e1, e2, g, b1, b2, b3⟩ := P
  have F1 := Rf_fz e1
  have F2 := Rf_fz e2
  have S1 := SC_1 S F1
  have k1 := Rf_up (show 900 ≤ 999 by decide) e1
  have k2 := Rf_up (show 900 ≤ 999 by decide) e2
  have r := rd1 hL hi
  unfold SC at S
  refine ⟨h2, ?_, g, b1, b2, b3, FZ_tr F1 F2⟩
  simp only [x217_468, x217_469, x217_470, x217_471, x217_472, x217_473, x217_474, x217_475, x217_476, x217_477, x217_478, x217_479, x217_480, x217_481, x217_482, x217_483, x217_487, x217_488, x217_489, x217_490, x217_491, x217_492, x217_493, x217_494, x217_495, x217_496, x217_497, x217_498, x217_499, x217_500, x217_501, x217_502, x217_506, xc217_484 S.2.2.2.1 k1, xc217_503 S1.2.2.2 k2, S, S1, r, true_or, or_true, and_self, eq_self, ↓reduceIte]
theorem lw_11 (S : SC h L xs) (hL : L ≤ 320) (hi : i + 4 < L) (P : PR h 106 173 [.ref 32, .int (xs (i + 1)), noV, noV, noV, noV] [.ref 128, .int (xs (i + 1)), noV, noV]) : ∃ h2, Rf 1000 217 511 [.ref 31, .ref 32, .ref 128, .int (nI i)] [] h = Rf 1000 217 1008 [.ref 31, .ref 32, .ref 128, .int (nI i)] [] h2 ∧ NX h h2 := by
  obtain ⟨v, h1, h2, e1, e2, g, b1, b2, b3⟩ := P
  have F1 := Rf_fz e1
  have F2 := Rf_fz e2
  have S1 := SC_1 S F1
  have k1 := Rf_up (show 900 ≤ 999 by decide) e1
  have k2 := Rf_up (show 900 ≤ 999 by decide) e2
  have r := rd1 hL hi
  unfold SC at S
  refine ⟨h2, ?_, g, b1, b2, b3, FZ_tr F1 F2⟩
  simp only [x217_511, x217_512, x217_513, x217_514, x217_515, x217_516, x217_520, x217_521, x217_522, x217_523, x217_524, x217_525, x217_529, xc217_517 S.2.2.2.1 k1, xc217_526 S1.2.2.2 k2, S, S1, r, true_or, or_true, and_self, eq_self, ↓reduceIte]
theorem lw_12 (S : SC h L xs) (hL : L ≤ 320) (hi : i + 4 < L) (P : PR h 108 174 [.ref 32, .int (xs (i + 1))] [.ref 128, .int (xs (i + 1)), noV, noV, noV, noV, noV]) : ∃ h2, Rf 1000 217 534 [.ref 31, .ref 32, .ref 128, .int (nI i)] [] h = Rf 1000 217 1008 [.ref 31, .ref 32, .ref 128, .int (nI i)] [] h2 ∧ NX h h2 := by
  obtain ⟨v, h1, h2, e1, e2, g, b1, b2, b3⟩ := P
  have F1 := Rf_fz e1
  have F2 := Rf_fz e2
  have S1 := SC_1 S F1
  have k1 := Rf_up (show 900 ≤ 999 by decide) e1
  have k2 := Rf_up (show 900 ≤ 999 by decide) e2
  have r := rd1 hL hi
  unfold SC at S
  refine ⟨h2, ?_, g, b1, b2, b3, FZ_tr F1 F2⟩
  simp only [x217_534, x217_535, x217_536, x217_537, x217_538, x217_539, x217_543, x217_544, x217_545, x217_546, x217_547, x217_548, x217_552, xc217_540 S.2.2.2.1 k1, xc217_549 S1.2.2.2 k2, S, S1, r, true_or, or_true, and_self, eq_self, ↓reduceIte]
theorem lw_13 (S : SC h L xs) (hL : L ≤ 320) (hi : i + 4 < L) (P : PR h 109 175 [.ref 32, .int (xs (i + 1)), .int (xs (i + 2))] [.ref 128, .int (xs (i + 1)), .int (xs (i + 2)), noV, noV, noV]) : ∃ h2, Rf 1000 217 557 [.ref 31, .ref 32, .ref 128, .int (nI i)] [] h = Rf 1000 217 1008 [.ref 31, .ref 32, .ref 128, .int (nI i)] [] h2 ∧ NX h h2 := by
  obtain ⟨v, h1, h2, e1, e2, g, b1, b2, b3⟩ := P
  have F1 := Rf_fz e1
  have F2 := Rf_fz e2
  have S1 := SC_1 S F1
  have k1 := Rf_up (show 900 ≤ 999 by decide) e1
  have k2 := Rf_up (show 900 ≤ 999 by decide) e2
  have r := rd1 hL hi
  unfold SC at S
  refine ⟨h2, ?_, g, b1, b2, b3, FZ_tr F1 F2⟩
  simp only [x217_557, x217_558, x217_559, x217_560, x217_561, x217_562, x217_563, x217_564, x217_565, x217_566, x217_567, x217_571, x217_572, x217_573, x217_574, x217_575, x217_576, x217_577, x217_578, x217_579, x217_580, x217_581, x217_585, xc217_568 S.2.2.2.1 k1, xc217_582 S1.2.2.2 k2, S, S1, r, true_or, or_true, and_self, eq_self, ↓reduceIte]
theorem lw_14 (S : SC h L xs) (hL : L ≤ 320) (hi : i + 4 < L) (P : PR h 110 176 [.ref 32, .int (xs (i + 1)), .int (xs (i + 2)), .int (xs (i + 3))] [.ref 128, .int (xs (i + 1)), .int (xs (i + 2)), .int (xs (i + 3)), noV, noV, noV, noV, noV]) : ∃ h2, Rf 1000 217 590 [.ref 31, .ref 32, .ref 128, .int (nI i)] [] h = Rf 1000 217 1008 [.ref 31, .ref 32, .ref 128, .int (nI i)] [] h2 ∧ NX h h2 := by
  obtain ⟨v, h1, h2, e1, e2, g, b1, b2, b3⟩ := P
  have F1 := Rf_fz e1
  have F2 := Rf_fz e2
  have S1 := SC_1 S F1
  have k1 := Rf_up (show 900 ≤ 999 by decide) e1
  have k2 := Rf_up (show 900 ≤ 999 by decide) e2
  have r := rd1 hL hi
  unfold SC at S
  refine ⟨h2, ?_, g, b1, b2, b3, FZ_tr F1 F2⟩
  simp only [x217_590, x217_591, x217_592, x217_593, x217_594, x217_595, x217_596, x217_597, x217_598, x217_599, x217_600, x217_601, x217_602, x217_603, x217_604, x217_605, x217_609, x217_610, x217_611, x217_612, x217_613, x217_614, x217_615, x217_616, x217_617, x217_618, x217_619, x217_620, x217_621, x217_622, x217_623, x217_624, x217_628, xc217_606 S.2.2.2.1 k1, xc217_625 S1.2.2.2 k2, S, S1, r, true_or, or_true, and_self, eq_self, ↓reduceIte]
theorem lw_15 (S : SC h L xs) (hL : L ≤ 320) (hi : i + 4 < L) (P : PR h 111 177 [.ref 32, .int (xs (i + 1)), noV] [.ref 128, .int (xs (i + 1)), noV]) : ∃ h2, Rf 1000 217 633 [.ref 31, .ref 32, .ref 128, .int (nI i)] [] h = Rf 1000 217 1008 [.ref 31, .ref 32, .ref 128, .int (nI i)] [] h2 ∧ NX h h2 := by
  obtain ⟨v, h1, h2, e1, e2, g, b1, b2, b3⟩ := P
  have F1 := Rf_fz e1
  have F2 := Rf_fz e2
  have S1 := SC_1 S F1
  have k1 := Rf_up (show 900 ≤ 999 by decide) e1
  have k2 := Rf_up (show 900 ≤ 999 by decide) e2
  have r := rd1 hL hi
  unfold SC at S
  refine ⟨h2, ?_, g, b1, b2, b3, FZ_tr F1 F2⟩
  simp only [x217_633, x217_634, x217_635, x217_636, x217_637, x217_638, x217_642, x217_643, x217_644, x217_645, x217_646, x217_647, x217_651, xc217_639 S.2.2.2.1 k1, xc217_648 S1.2.2.2 k2, S, S1, r, true_or, or_true, and_self, eq_self, ↓reduceIte]
theorem lw_16 (S : SC h L xs) (hL : L ≤ 320) (hi : i + 4 < L) (P : PR h 112 179 [.ref 32, .int (xs (i + 1)), noV] [.ref 128, .int (xs (i + 1)), noV, noV]) : ∃ h2, Rf 1000 217 656 [.ref 31, .ref 32, .ref 128, .int (nI i)] [] h = Rf 1000 217 1008 [.ref 31, .ref 32, .ref 128, .int (nI i)] [] h2 ∧ NX h h2 := by
  obtain ⟨v, h1, h2, e1, e2, g, b1, b2, b3⟩ := P
  have F1 := Rf_fz e1
  have F2 := Rf_fz e2
  have S1 := SC_1 S F1
  have k1 := Rf_up (show 900 ≤ 999 by decide) e1
  have k2 := Rf_up (show 900 ≤ 999 by decide) e2
  have r := rd1 hL hi
  unfold SC at S
  refine ⟨h2, ?_, g, b1, b2, b3, FZ_tr F1 F2⟩
  simp only [x217_656, x217_657, x217_658, x217_659, x217_660, x217_661, x217_665, x217_666, x217_667, x217_668, x217_669, x217_670, x217_674, xc217_662 S.2.2.2.1 k1, xc217_671 S1.2.2.2 k2, S, S1, r, true_or, or_true, and_self, eq_self, ↓reduceIte]
theorem lw_17 (S : SC h L xs) (hL : L ≤ 320) (hi : i + 4 < L) (P : PR h 113 180 [.ref 32, .int (xs (i + 1)), noV] [.ref 128, .int (xs (i + 1)), noV, noV, noV, noV, noV]) : ∃ h2, Rf 1000 217 679 [.ref 31, .ref 32, .ref 128, .int (nI i)] [] h = Rf 1000 217 1008 [.ref 31, .ref 32, .ref 128, .int (nI i)] [] h2 ∧ NX h h2 := by
  obtain ⟨v, h1, h2, e1, e2, g, b1, b2, b3⟩ := P
  have F1 := Rf_fz e1
  have F2 := Rf_fz e2
  have S1 := SC_1 S F1
  have k1 := Rf_up (show 900 ≤ 999 by decide) e1
  have k2 := Rf_up (show 900 ≤ 999 by decide) e2
  have r := rd1 hL hi
  unfold SC at S
  refine ⟨h2, ?_, g, b1, b2, b3, FZ_tr F1 F2⟩
  simp only [x217_679, x217_680, x217_681, x217_682, x217_683, x217_684, x217_688, x217_689, x217_690, x217_691, x217_692, x217_693, x217_697, xc217_685 S.2.2.2.1 k1, xc217_694 S1.2.2.2 k2, S, S1, r, true_or, or_true, and_self, eq_self, ↓reduceIte]
theorem lw_18 (S : SC h L xs) (hL : L ≤ 320) (hi : i + 4 < L) (P : PR h 114 181 [.ref 32, .int (xs (i + 1)), .int (xs (i + 2)), .int (xs (i + 3))] [.ref 128, .int (xs (i + 1)), .int (xs (i + 2)), .int (xs (i + 3)), noV]) : ∃ h2, Rf 1000 217 702 [.ref 31, .ref 32, .ref 128, .int (nI i)] [] h = Rf 1000 217 1008 [.ref 31, .ref 32, .ref 128, .int (nI i)] [] h2 ∧ NX h h2 := by
  obtain ⟨v, h1, h2, e1, e2, g, b1, b2, b3⟩ := P
  have F1 := Rf_fz e1
  have F2 := Rf_fz e2
  have S1 := SC_1 S F1
  have k1 := Rf_up (show 900 ≤ 999 by decide) e1
  have k2 := Rf_up (show 900 ≤ 999 by decide) e2
  have r := rd1 hL hi
  unfold SC at S
  refine ⟨h2, ?_, g, b1, b2, b3, FZ_tr F1 F2⟩
  simp only [x217_702, x217_703, x217_704, x217_705, x217_706, x217_707, x217_708, x217_709, x217_710, x217_711, x217_712, x217_713, x217_714, x217_715, x217_716, x217_717, x217_721, x217_722, x217_723, x217_724, x217_725, x217_726, x217_727, x217_728, x217_729, x217_730, x217_731, x217_732, x217_733, x217_734, x217_735, x217_736, x217_740, xc217_718 S.2.2.2.1 k1, xc217_737 S1.2.2.2 k2, S, S1, r, true_or, or_true, and_self, eq_self, ↓reduceIte]
theorem lw_19 (S : SC h L xs) (hL : L ≤ 320) (hi : i + 4 < L) (P : PR h 115 182 [.ref 32, noV] [.ref 128, noV]) : ∃ h2, Rf 1000 217 745 [.ref 31, .ref 32, .ref 128, .int (nI i)] [] h = Rf 1000 217 1008 [.ref 31, .ref 32, .ref 128, .int (nI i)] [] h2 ∧ NX h h2 := by
  obtain ⟨v, h1, h2, e1, e2, g, b1, b2, b3⟩ := P
  have F1 := Rf_fz e1
  have F2 := Rf_fz e2
  have S1 := SC_1 S F1
  have k1 := Rf_up (show 900 ≤ 999 by decide) e1
  have k2 := Rf_up (show 900 ≤ 999 by decide) e2
  have r := rd1 hL hi
  unfold SC at S
  refine ⟨h2, ?_, g, b1, b2, b3, FZ_tr F1 F2⟩
  simp only [x217_745, x217_749, x217_753, xc217_746 S.2.2.2.1 k1, xc217_750 S1.2.2.2 k2, S, S1, r, true_or, or_true, and_self, eq_self, ↓reduceIte]
theorem lw_20 (S : SC h L xs) (hL : L ≤ 320) (hi : i + 4 < L) (P : PR h 116 184 [.ref 32, .int (xs (i + 1)), .int (xs (i + 2))] [.ref 128, .int (xs (i + 1)), .int (xs (i + 2))]) : ∃ h2, Rf 1000 217 758 [.ref 31, .ref 32, .ref 128, .int (nI i)] [] h = Rf 1000 217 1008 [.ref 31, .ref 32, .ref 128, .int (nI i)] [] h2 ∧ NX h h2 := by
  obtain ⟨v, h1, h2, e1, e2, g, b1, b2, b3⟩ := P
  have F1 := Rf_fz e1
  have F2 := Rf_fz e2
  have S1 := SC_1 S F1
  have k1 := Rf_up (show 900 ≤ 999 by decide) e1
  have k2 := Rf_up (show 900 ≤ 999 by decide) e2
  have r := rd1 hL hi
  unfold SC at S
  refine ⟨h2, ?_, g, b1, b2, b3, FZ_tr F1 F2⟩
  simp only [x217_758, x217_759, x217_760, x217_761, x217_762, x217_763, x217_764, x217_765, x217_766, x217_767, x217_768, x217_772, x217_773, x217_774, x217_775, x217_776, x217_777, x217_778, x217_779, x217_780, x217_781, x217_782, x217_786, xc217_769 S.2.2.2.1 k1, xc217_783 S1.2.2.2 k2, S, S1, r, true_or, or_true, and_self, eq_self, ↓reduceIte]
theorem lw_21 (S : SC h L xs) (hL : L ≤ 320) (hi : i + 4 < L) (P : PR h 117 185 [.ref 32, .int (xs (i + 1))] [.ref 128, .int (xs (i + 1)), noV, noV, noV]) : ∃ h2, Rf 1000 217 791 [.ref 31, .ref 32, .ref 128, .int (nI i)] [] h = Rf 1000 217 1008 [.ref 31, .ref 32, .ref 128, .int (nI i)] [] h2 ∧ NX h h2 := by
  obtain ⟨v, h1, h2, e1, e2, g, b1, b2, b3⟩ := P
  have F1 := Rf_fz e1
  have F2 := Rf_fz e2
  have S1 := SC_1 S F1
  have k1 := Rf_up (show 900 ≤ 999 by decide) e1
  have k2 := Rf_up (show 900 ≤ 999 by decide) e2
  have r := rd1 hL hi
  unfold SC at S
  refine ⟨h2, ?_, g, b1, b2, b3, FZ_tr F1 F2⟩
  simp only [x217_791, x217_792, x217_793, x217_794, x217_795, x217_796, x217_800, x217_801, x217_802, x217_803, x217_804, x217_805, x217_809, xc217_797 S.2.2.2.1 k1, xc217_806 S1.2.2.2 k2, S, S1, r, true_or, or_true, and_self, eq_self, ↓reduceIte]
theorem lw_22 (S : SC h L xs) (hL : L ≤ 320) (hi : i + 4 < L) (P : PR h 118 186 [.ref 32, .int (xs (i + 1))] [.ref 128, .int (xs (i + 1))]) : ∃ h2, Rf 1000 217 814 [.ref 31, .ref 32, .ref 128, .int (nI i)] [] h = Rf 1000 217 1008 [.ref 31, .ref 32, .ref 128, .int (nI i)] [] h2 ∧ NX h h2 := by
  obtain ⟨v, h1, h2, e1, e2, g, b1, b2, b3⟩ := P
  have F1 := Rf_fz e1
  have F2 := Rf_fz e2
  have S1 := SC_1 S F1
  have k1 := Rf_up (show 900 ≤ 999 by decide) e1
  have k2 := Rf_up (show 900 ≤ 999 by decide) e2
  have r := rd1 hL hi
  unfold SC at S
  refine ⟨h2, ?_, g, b1, b2, b3, FZ_tr F1 F2⟩
  simp only [x217_814, x217_815, x217_816, x217_817, x217_818, x217_819, x217_823, x217_824, x217_825, x217_826, x217_827, x217_828, x217_832, xc217_820 S.2.2.2.1 k1, xc217_829 S1.2.2.2 k2, S, S1, r, true_or, or_true, and_self, eq_self, ↓reduceIte]
theorem lw_23 (S : SC h L xs) (hL : L ≤ 320) (hi : i + 4 < L) (P : PR h 119 187 [.ref 32, .int (xs (i + 1)), noV] [.ref 128, .int (xs (i + 1)), noV, noV, noV, noV]) : ∃ h2, Rf 1000 217 837 [.ref 31, .ref 32, .ref 128, .int (nI i)] [] h = Rf 1000 217 1008 [.ref 31, .ref 32, .ref 128, .int (nI i)] [] h2 ∧ NX h h2 := by
  obtain ⟨v, h1, h2, e1, e2, g, b1, b2, b3⟩ := P
  have F1 := Rf_fz e1
  have F2 := Rf_fz e2
  have S1 := SC_1 S F1
  have k1 := Rf_up (show 900 ≤ 999 by decide) e1
  have k2 := Rf_up (show 900 ≤ 999 by decide) e2
  have r := rd1 hL hi
  unfold SC at S
  refine ⟨h2, ?_, g, b1, b2, b3, FZ_tr F1 F2⟩
  simp only [x217_837, x217_838, x217_839, x217_840, x217_841, x217_842, x217_846, x217_847, x217_848, x217_849, x217_850, x217_851, x217_855, xc217_843 S.2.2.2.1 k1, xc217_852 S1.2.2.2 k2, S, S1, r, true_or, or_true, and_self, eq_self, ↓reduceIte]
theorem lw_24 (S : SC h L xs) (hL : L ≤ 320) (hi : i + 4 < L) (P : PR h 122 193 [.ref 32, .int (xs (i + 1)), .int (xs (i + 2)), .int (xs (i + 3)), noV] [.ref 128, .int (xs (i + 1)), .int (xs (i + 2)), .int (xs (i + 3)), noV]) : ∃ h2, Rf 1000 217 860 [.ref 31, .ref 32, .ref 128, .int (nI i)] [] h = Rf 1000 217 1008 [.ref 31, .ref 32, .ref 128, .int (nI i)] [] h2 ∧ NX h h2 := by
  obtain ⟨v, h1, h2, e1, e2, g, b1, b2, b3⟩ := P
  have F1 := Rf_fz e1
  have F2 := Rf_fz e2
  have S1 := SC_1 S F1
  have k1 := Rf_up (show 900 ≤ 999 by decide) e1
  have k2 := Rf_up (show 900 ≤ 999 by decide) e2
  have r := rd1 hL hi
  unfold SC at S
  refine ⟨h2, ?_, g, b1, b2, b3, FZ_tr F1 F2⟩
  simp only [x217_860, x217_861, x217_862, x217_863, x217_864, x217_865, x217_866, x217_867, x217_868, x217_869, x217_870, x217_871, x217_872, x217_873, x217_874, x217_875, x217_879, x217_880, x217_881, x217_882, x217_883, x217_884, x217_885, x217_886, x217_887, x217_888, x217_889, x217_890, x217_891, x217_892, x217_893, x217_894, x217_898, xc217_876 S.2.2.2.1 k1, xc217_895 S1.2.2.2 k2, S, S1, r, true_or, or_true, and_self, eq_self, ↓reduceIte]
theorem lw_25 (S : SC h L xs) (hL : L ≤ 320) (hi : i + 4 < L) (P : PR h 123 194 [.ref 32, .int (xs (i + 1))] [.ref 128, .int (xs (i + 1))]) : ∃ h2, Rf 1000 217 903 [.ref 31, .ref 32, .ref 128, .int (nI i)] [] h = Rf 1000 217 1008 [.ref 31, .ref 32, .ref 128, .int (nI i)] [] h2 ∧ NX h h2 := by
  obtain ⟨v, h1, h2, e1, e2, g, b1, b2, b3⟩ := P
  have F1 := Rf_fz e1
  have F2 := Rf_fz e2
  have S1 := SC_1 S F1
  have k1 := Rf_up (show 900 ≤ 999 by decide) e1
  have k2 := Rf_up (show 900 ≤ 999 by decide) e2
  have r := rd1 hL hi
  unfold SC at S
  refine ⟨h2, ?_, g, b1, b2, b3, FZ_tr F1 F2⟩
  simp only [x217_903, x217_904, x217_905, x217_906, x217_907, x217_908, x217_912, x217_913, x217_914, x217_915, x217_916, x217_917, x217_921, xc217_909 S.2.2.2.1 k1, xc217_918 S1.2.2.2 k2, S, S1, r, true_or, or_true, and_self, eq_self, ↓reduceIte]
theorem lw_26 (S : SC h L xs) (hL : L ≤ 320) (hi : i + 4 < L) (P : PR h 124 195 [.ref 32, .int (xs (i + 1)), .int (xs (i + 2)), noV] [.ref 128, .int (xs (i + 1)), .int (xs (i + 2)), noV]) : ∃ h2, Rf 1000 217 926 [.ref 31, .ref 32, .ref 128, .int (nI i)] [] h = Rf 1000 217 1008 [.ref 31, .ref 32, .ref 128, .int (nI i)] [] h2 ∧ NX h h2 := by
  obtain ⟨v, h1, h2, e1, e2, g, b1, b2, b3⟩ := P
  have F1 := Rf_fz e1
  have F2 := Rf_fz e2
  have S1 := SC_1 S F1
  have k1 := Rf_up (show 900 ≤ 999 by decide) e1
  have k2 := Rf_up (show 900 ≤ 999 by decide) e2
  have r := rd1 hL hi
  unfold SC at S
  refine ⟨h2, ?_, g, b1, b2, b3, FZ_tr F1 F2⟩
  simp only [x217_926, x217_927, x217_928, x217_929, x217_930, x217_931, x217_932, x217_933, x217_934, x217_935, x217_936, x217_940, x217_941, x217_942, x217_943, x217_944, x217_945, x217_946, x217_947, x217_948, x217_949, x217_950, x217_954, xc217_937 S.2.2.2.1 k1, xc217_951 S1.2.2.2 k2, S, S1, r, true_or, or_true, and_self, eq_self, ↓reduceIte]
theorem lw_27 (S : SC h L xs) (hL : L ≤ 320) (hi : i + 4 < L) (P : PR h 126 196 [.ref 32] [.ref 128, noV]) : ∃ h2, Rf 1000 217 959 [.ref 31, .ref 32, .ref 128, .int (nI i)] [] h = Rf 1000 217 1008 [.ref 31, .ref 32, .ref 128, .int (nI i)] [] h2 ∧ NX h h2 := by
  obtain ⟨v, h1, h2, e1, e2, g, b1, b2, b3⟩ := P
  have F1 := Rf_fz e1
  have F2 := Rf_fz e2
  have S1 := SC_1 S F1
  have k1 := Rf_up (show 900 ≤ 999 by decide) e1
  have k2 := Rf_up (show 900 ≤ 999 by decide) e2
  have r := rd1 hL hi
  unfold SC at S
  refine ⟨h2, ?_, g, b1, b2, b3, FZ_tr F1 F2⟩
  simp only [x217_959, x217_963, x217_967, xc217_960 S.2.2.2.1 k1, xc217_964 S1.2.2.2 k2, S, S1, r, true_or, or_true, and_self, eq_self, ↓reduceIte]
theorem lw_28 (S : SC h L xs) (hL : L ≤ 320) (hi : i + 4 < L) (P : PR h 127 197 [.ref 32] [.ref 128, noV]) : ∃ h2, Rf 1000 217 972 [.ref 31, .ref 32, .ref 128, .int (nI i)] [] h = Rf 1000 217 1008 [.ref 31, .ref 32, .ref 128, .int (nI i)] [] h2 ∧ NX h h2 := by
  obtain ⟨v, h1, h2, e1, e2, g, b1, b2, b3⟩ := P
  have F1 := Rf_fz e1
  have F2 := Rf_fz e2
  have S1 := SC_1 S F1
  have k1 := Rf_up (show 900 ≤ 999 by decide) e1
  have k2 := Rf_up (show 900 ≤ 999 by decide) e2
  have r := rd1 hL hi
  unfold SC at S
  refine ⟨h2, ?_, g, b1, b2, b3, FZ_tr F1 F2⟩
  simp only [x217_972, x217_976, x217_980, xc217_973 S.2.2.2.1 k1, xc217_977 S1.2.2.2 k2, S, S1, r, true_or, or_true, and_self, eq_self, ↓reduceIte]
theorem lw_29 (S : SC h L xs) (hL : L ≤ 320) (hi : i + 4 < L) (P : PR h 128 198 [.ref 32, .int (xs (i + 1))] [.ref 128, .int (xs (i + 1))]) : ∃ h2, Rf 1000 217 985 [.ref 31, .ref 32, .ref 128, .int (nI i)] [] h = Rf 1000 217 1008 [.ref 31, .ref 32, .ref 128, .int (nI i)] [] h2 ∧ NX h h2 := by
  obtain ⟨v, h1, h2, e1, e2, g, b1, b2, b3⟩ := P
  have F1 := Rf_fz e1
  have F2 := Rf_fz e2
  have S1 := SC_1 S F1
  have k1 := Rf_up (show 900 ≤ 999 by decide) e1
  have k2 := Rf_up (show 900 ≤ 999 by decide) e2
  have r := rd1 hL hi
  unfold SC at S
  refine ⟨h2, ?_, g, b1, b2, b3, FZ_tr F1 F2⟩
  simp only [x217_985, x217_986, x217_987, x217_988, x217_989, x217_990, x217_994, x217_995, x217_996, x217_997, x217_998, x217_999, x217_1003, xc217_991 S.2.2.2.1 k1, xc217_1000 S1.2.2.2 k2, S, S1, r, true_or, or_true, and_self, eq_self, ↓reduceIte]
end LW
