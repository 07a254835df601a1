-- deps: 61.frozen 09.world
/-! THE CONSTANT TEXTS. -/
def LO (h : AHp) : Prop := ∀ p, p < 15 → h.1 p = .inr (13, [.ref (15 + p), .int 0]) ∧ h.1 (15 + p) = .inl (11, (sby p).length, .inl (fun j => (sby p).getD j 0))
theorem LO_fz {h h' : AHp} (L : LO h) (F : FZ h h') (n : 32 ≤ h.2.1) : LO h' := fun p hp => by
  obtain ⟨a, b⟩ := L p hp
  refine ⟨(F.2.1 p (by omega) (by rw [a]; exact Or.inr (Or.inr rfl))).trans a, (F.2.1 (15 + p) (by omega) (by rw [b]; exact Or.inr (Or.inl rfl))).trans b⟩
theorem S13 (q : Nat) : cls (.inr (13, [.ref q, .int 0])) = 13 ∧ oKr (.inr (13, [.ref q, .int 0])) 0 = true ∧ oR (.inr (13, [.ref q, .int 0])) 0 = q ∧ oKi (.inr (13, [.ref q, .int 0])) 1 = true ∧ oN (.inr (13, [.ref q, .int 0])) 1 = 0 := ⟨rfl, rfl, rfl, rfl, rfl⟩
theorem S11 {n : Nat} {f : Nat → Int32} : aT (.inl (11, n, .inl f)) = 11 ∧ aN (.inl (11, n, .inl f)) = n ∧ aF (.inl (11, n, .inl f)) = f := ⟨rfl, rfl, rfl⟩
theorem shr0 (x : Int32) : x >>> ((0 : Int32) &&& 31) = x := by
  rw [show ((0 : Int32) &&& 31) = 0 from by decide]
  exact Int32.shiftRight_zero
theorem retb0 : retI (some .byte) 0 = true := by decide
theorem sby_ok : ∀ p, p < 15 → ∀ i, i < 10 → i < (sby p).length → ((((sby p).getD i 0) &&& 255).toUInt32 % 65536).toInt32 = (sby p).getD i 0 ∧ retI (some .char) ((sby p).getD i 0) = true := by decide +kernel
theorem sby_len : ∀ p, p < 15 → 0 < (sby p).length ∧ (sby p).length ≤ 10 := by decide +kernel
def ixF (f : Nat → Int32) (c : Int32) : Nat → Nat → Int32
  | _, 0 => -1
  | w, k + 1 => if f w = c then nI w else ixF f c (w + 1) k
section TX
variable {d p : Nat} {h : AHp}
theorem sp_coder (L : LO h) (hp : p < 15) : Rf d 207 0 [.ref p] [] h = some (some (.int 0), h) := by
  obtain ⟨a, b⟩ := L p hp
  simp only [x207_0, x207_3, x207_6, x207_7, x207_10, x207_13, x207_14, a, S13, litZ, retb0, and_self, ↓reduceIte]
theorem sp_isLatin1 (L : LO h) (hp : p < 15) : Rf d 208 0 [.ref p] [] h = some (some (.int 1), h) := by
  obtain ⟨a, b⟩ := L p hp
  simp only [x208_0, x208_3, x208_6, x208_7, x208_10, x208_13, x208_14, x208_17, x208_18, a, S13, litZ, retI_z1, and_self, ↓reduceIte]
theorem sp_length (L : LO h) (hp : p < 15) : Rf (d + 1) 203 0 [.ref p] [] h = some (some (.int (nI (sby p).length)), h) := by
  obtain ⟨a, b⟩ := L p hp
  have c : cls (h.1 p) = 13 := by rw [a]; rfl
  have e := sp_coder (d := d) L hp
  simp only [x203_0, x203_1, x203_4, x203_5, x203_9, x203_10, xc203_6 c e, a, b, S13, S11, shr0, true_or, or_true, and_self, ↓reduceIte]
theorem sp_precheck {i n : Nat} (hi : i < n) (hn : n ≤ 100) {v : Value} : Rf d 216 0 [.int (nI i), .int (nI n), v] [] h = some (some (.int (nI i)), h) := by
  have c1 : ¬ nI i < 0 := nI_pos (by omega)
  have c2 : nI i < nI n := nI_lt hi (by omega)
  simp only [x216_0, x216_1, x216_4, x216_5, x216_6, x216_9, x216_10, x216_11, x216_16, x216_17, c1, c2, ↓reduceIte]
theorem sp_checkIndex {i n : Nat} (hi : i < n) (hn : n ≤ 100) : Rf (d + 1) 209 0 [.int (nI i), .int (nI n)] [] h = some (none, h) := by
  simp only [x209_0, x209_1, x209_2, x209_8, x209_9, xc209_5 (sp_precheck (d := d) hi hn)]
theorem sp_charAtL (L : LO h) (hp : p < 15) {i : Nat} (hi : i < (sby p).length) : Rf (d + 2) 210 0 [.ref (15 + p), .int (nI i)] [] h = some (some (.int ((sby p).getD i 0)), h) := by
  obtain ⟨a, b⟩ := L p hp
  have hl := (sby_len p hp).2
  obtain ⟨k1, k2⟩ := sby_ok p hp i (by omega) hi
  have c2 : inB (nI i) (sby p).length = true := nI_inB hi (by omega)
  have c3 : (nI i).toNatClampNeg = i := nI_clamp (by omega)
  have e := sp_checkIndex (d := d) (h := h) (i := i) (n := (sby p).length) hi (by omega)
  simp only [x210_0, x210_1, x210_2, x210_6, x210_7, x210_8, x210_9, x210_12, x210_13, x210_14, xc210_3 e, b, S11, c2, c3, k1, k2, true_or, or_true, and_self, ↓reduceIte]
theorem sp_charAt (L : LO h) (hp : p < 15) {i : Nat} (hi : i < (sby p).length) : Rf (d + 3) 204 0 [.ref p, .int (nI i)] [] h = some (some (.int ((sby p).getD i 0)), h) := by
  obtain ⟨a, b⟩ := L p hp
  have hl := (sby_len p hp).2
  have c : cls (h.1 p) = 13 := by rw [a]; rfl
  obtain ⟨k1, k2⟩ := sby_ok p hp i (by omega) hi
  simp only [x204_0, x204_4, x204_7, x204_8, x204_11, x204_15, x204_16, x204_17, x204_20, xc204_1 c (sp_isLatin1 (d := d + 2) L hp), xc204_12 (sp_charAtL (d := d) L hp hi), a, S13, litZ, k2, and_self, ↓reduceIte]
theorem lp_ixc (L : LO h) (hp : p < 15) {c : Int32} {v1 v2 : Value} : ∀ (k w : Nat), w + k = (sby p).length → Rf d 213 7 [.ref (15 + p), v1, v2, .int (nI (sby p).length), .int c, .int (nI w)] [] h = some (some (.int (ixF (fun j => (sby p).getD j 0) c w k)), h) := by
  obtain ⟨a, b⟩ := L p hp
  have hl := (sby_len p hp).2
  intro k
  induction k with
  | zero =>
    intro w hw
    have c1 : ¬ nI w < nI (sby p).length := nI_nlt (by omega) (by omega)
    simp only [x213_0, x213_1, x213_2, x213_4, x213_5, x213_7, x213_9, x213_10, x213_13, x213_14, x213_16, x213_17, x213_19, x213_22, x213_24, x213_25, x213_28, x213_31, x213_32, c1, ↓reduceIte, ixF]
  | succ k ih =>
    intro w hw
    have c1 : nI w < nI (sby p).length := nI_lt (by omega) (by omega)
    have c2 : inB (nI w) (sby p).length = true := nI_inB (by omega) (by omega)
    have c3 : (nI w).toNatClampNeg = w := nI_clamp (by omega)
    have e := ih (w + 1) (by omega)
    rw [x213_7]
    by_cases y : (sby p).getD w 0 = c
    · simp only [x213_9, x213_10, x213_13, x213_14, x213_16, x213_17, x213_19, x213_22, x213_24, x213_25, x213_28, x213_31, x213_32, b, S11, c1, c2, c3, y, true_or, or_true, and_self, ↓reduceIte, ixF]
    · simp only [x213_9, x213_10, x213_13, x213_14, x213_16, x213_17, x213_19, x213_22, x213_24, x213_25, x213_28, x213_31, x213_32, b, S11, c1, c2, c3, y, nI_1, true_or, or_true, and_self, ↓reduceIte, ixF]
      exact e
theorem sp_canEncode {c : Nat} (hc : c ≤ 127) : Rf d 211 0 [.int (nI c)] [] h = some (some (.int 1), h) := by
  have c1 : ¬ nI c < 0 := nI_pos (by omega)
  have c2 : ¬ (255 : Int32) < nI c := nI_nlt (a := 255) (b := c) (by omega) (by omega)
  simp only [x211_0, x211_1, x211_4, x211_5, x211_8, x211_11, x211_12, x211_15, x211_16, c1, c2, retI_z1, ↓reduceIte]
theorem sp_ixL (L : LO h) (hp : p < 15) {c : Nat} (hc : c ≤ 127) : Rf (d + 1) 212 0 [.ref (15 + p), .int (nI c), .int 0, .int (nI (sby p).length)] [] h = some (some (.int (ixF (fun j => (sby p).getD j 0) (nI c) 0 (sby p).length)), h) := by
  obtain ⟨a, b⟩ := L p hp
  obtain ⟨hl0, hl⟩ := sby_len p hp
  have c1 : (0 : Int32) < nI (sby p).length := nI_lt (a := 0) (by omega) (by omega)
  have c2 : ¬ nI (sby p).length < nI (sby p).length := fun z => Int32.lt_irrefl z
  have e := lp_ixc (d := d) (c := nI c) (v1 := .int (nI c)) (v2 := .int 0) L hp (sby p).length 0 (by omega)
  rw [nI_0] at e
  have e2 : Rf d 213 0 [.ref (15 + p), .int (nI c), .int 0, .int (nI (sby p).length), noV, noV] [] h = some (some (.int (ixF (fun j => (sby p).getD j 0) (nI c) 0 (sby p).length)), h) := by
    simp only [x213_0, x213_1, x213_2, x213_4, x213_5, (byt c hc).1]
    exact e
  simp only [x212_0, x212_4, x212_7, x212_8, x212_9, x212_10, x212_14, x212_15, x212_16, x212_17, x212_21, x212_22, x212_23, x212_24, x212_27, x212_28, x212_29, x212_30, x212_31, x212_32, x212_36, xc212_1 (sp_canEncode (d := d) hc), xc212_11 (sp_max (d := d)), xc212_18 (sp_min (d := d)), xc212_33 e2, b, S11, mx, mn, ite_self, c1, c2, litZ, true_or, or_true, and_self, ↓reduceIte]
theorem sp_ix2 (L : LO h) (hp : p < 15) {c : Nat} (hc : c ≤ 127) : Rf (d + 2) 206 0 [.ref p, .int (nI c), .int 0] [] h = some (some (.int (ixF (fun j => (sby p).getD j 0) (nI c) 0 (sby p).length)), h) := by
  obtain ⟨a, b⟩ := L p hp
  have k : cls (h.1 p) = 13 := by rw [a]; rfl
  simp only [x206_0, x206_4, x206_7, x206_8, x206_11, x206_12, x206_13, x206_20, x206_36, xc206_1 k (sp_isLatin1 (d := d + 1) L hp), xc206_14 k (sp_length (d := d) L hp), xc206_17 (sp_ixL (d := d) L hp hc), a, S13, litZ, and_self, ↓reduceIte]
theorem sp_indexOf (L : LO h) (hp : p < 15) {c : Nat} (hc : c ≤ 127) : Rf (d + 3) 205 0 [.ref p, .int (nI c)] [] h = some (some (.int (ixF (fun j => (sby p).getD j 0) (nI c) 0 (sby p).length)), h) := by
  obtain ⟨a, b⟩ := L p hp
  have k : cls (h.1 p) = 13 := by rw [a]; rfl
  simp only [x205_0, x205_1, x205_2, x205_6, xc205_3 k (sp_ix2 (d := d) L hp hc)]
end TX
