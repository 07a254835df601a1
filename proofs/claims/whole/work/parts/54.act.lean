-- deps: 53.work
/-! AN ACT. -/
/-- how many bodies ran, and which: one more -/
def bg (s : Nat × (Nat → Int32)) (b : Int32) : Nat × (Nat → Int32) := (s.1 + 1, upd s.2 s.1 b)
theorem bg_1 {s : Nat × (Nat → Int32)} {b : Int32} : (bg s b).1 = s.1 + 1 := rfl
def hV (k : Nat) (i x : Int32) : Int32 := match k with
  | 5 => (x + i) ^^^ i
  | 1 => x * 3 + i
  | 4 => x * 3 + i
  | _ => x + i
def hT (k : Nat) (s : Nat × (Nat → Int32)) : Nat × (Nat → Int32) := match k with
  | 5 => bg (bg s 51) 1
  | 1 => bg (bg s 11) 1
  | 4 => bg (bg s 11) 1
  | _ => bg s 1
def aV (j k : Nat) (i v x : Int32) : Int32 := match j with
  | 2 => -(hV k i x - v)
  | 5 => -(hV k i x - v)
  | 6 => hV k i x - v + v
  | _ => hV k i x - v
def aT1 (j k : Nat) (s : Nat × (Nat → Int32)) : Nat × (Nat → Int32) := match j with
  | 2 => hT k (bg (bg s 21) 2)
  | 5 => hT k (bg (bg s 21) 2)
  | 6 => hT k (bg (bg s 61) 2)
  | _ => hT k (bg s 2)
def eV (j k : Nat) (i v x : Int32) : Int32 := match j with
  | 3 => (aV k k i v x * 2) ^^^ 7
  | 6 => (aV k k i v x * 2) ^^^ 7
  | 4 => aV k k i v (x - 1) * 2 + hV k i 2
  | _ => aV k k i v x * 2
def eT (j k : Nat) (s : Nat × (Nat → Int32)) : Nat × (Nat → Int32) := match j with
  | 3 => aT1 k k (bg (bg s 31) 3)
  | 6 => aT1 k k (bg (bg s 31) 3)
  | 4 => hT k (aT1 k k (bg (bg s 41) 3))
  | _ => aT1 k k (bg s 3)
theorem hT_le (k : Nat) (s : Nat × (Nat → Int32)) : (hT k s).1 ≤ s.1 + 2 := by
  unfold hT
  split <;> simp [bg]
theorem aT_le (j k : Nat) (s : Nat × (Nat → Int32)) : (aT1 j k s).1 ≤ s.1 + 4 := by
  unfold aT1
  split <;> exact Nat.le_trans (hT_le _ _) (by simp [bg])
theorem eT_le (j k : Nat) (s : Nat × (Nat → Int32)) : (eT j k s).1 ≤ s.1 + 8 := by
  unfold eT
  split
  · exact Nat.le_trans (aT_le _ _ _) (by simp [bg])
  · exact Nat.le_trans (aT_le _ _ _) (by simp [bg])
  · exact Nat.le_trans (hT_le _ _) (Nat.le_trans (Nat.add_le_add_right (aT_le _ _ _) 2) (by simp [bg]))
  · exact Nat.le_trans (aT_le _ _ _) (by simp [bg])
theorem l06 : ¬ (0 : Int32) = 1 ∧ ¬ (0 : Int32) = 2 ∧ ¬ (0 : Int32) = 3 ∧ ¬ (0 : Int32) = 4 ∧ ¬ (0 : Int32) = 5 ∧ ¬ (0 : Int32) = 6 ∧ ¬ (1 : Int32) = 0 ∧ ¬ (1 : Int32) = 2 ∧ ¬ (1 : Int32) = 3 ∧ ¬ (1 : Int32) = 4 ∧ ¬ (1 : Int32) = 5 ∧ ¬ (1 : Int32) = 6 ∧ ¬ (2 : Int32) = 0 ∧ ¬ (2 : Int32) = 1 ∧ ¬ (2 : Int32) = 3 ∧ ¬ (2 : Int32) = 4 ∧ ¬ (2 : Int32) = 5 ∧ ¬ (2 : Int32) = 6 ∧ ¬ (3 : Int32) = 0 ∧ ¬ (3 : Int32) = 1 ∧ ¬ (3 : Int32) = 2 ∧ ¬ (3 : Int32) = 4 ∧ ¬ (3 : Int32) = 5 ∧ ¬ (3 : Int32) = 6 ∧ ¬ (4 : Int32) = 0 ∧ ¬ (4 : Int32) = 1 ∧ ¬ (4 : Int32) = 2 ∧ ¬ (4 : Int32) = 3 ∧ ¬ (4 : Int32) = 5 ∧ ¬ (4 : Int32) = 6 ∧ ¬ (5 : Int32) = 0 ∧ ¬ (5 : Int32) = 1 ∧ ¬ (5 : Int32) = 2 ∧ ¬ (5 : Int32) = 3 ∧ ¬ (5 : Int32) = 4 ∧ ¬ (5 : Int32) = 6 ∧ ¬ (6 : Int32) = 0 ∧ ¬ (6 : Int32) = 1 ∧ ¬ (6 : Int32) = 2 ∧ ¬ (6 : Int32) = 3 ∧ ¬ (6 : Int32) = 4 ∧ ¬ (6 : Int32) = 5 ∧ ¬ (0 : Int32) < 0 ∧ (0 : Int32) < 1 ∧ (0 : Int32) < 2 ∧ (0 : Int32) < 3 ∧ (0 : Int32) < 4 ∧ (0 : Int32) < 5 ∧ (0 : Int32) < 6 := by
  repeat' apply And.intro
  all_goals decide
theorem nI_06 : nI 0 = 0 ∧ nI 1 = 1 ∧ nI 2 = 2 ∧ nI 3 = 3 ∧ nI 4 = 4 ∧ nI 5 = 5 ∧ nI 6 = 6 := by decide +kernel
/-- the class's trace -/
def ts (h : AHp) (s : Nat × (Nat → Int32)) : AHp := hset (hset h 127 (.inl (0, 20, .inl s.2))) 126 (oSet (h.1 126) 1 (.int (nI s.1)))
abbrev TB (h : AHp) : Prop := cls (h.1 126) = 10 ∧ oL (h.1 126) = 2 ∧ oKr (h.1 126) 0 = true ∧ oR (h.1 126) 0 = 127
theorem oSet_twice {c : va_E} {k : Nat} {v v2 : Value} : oSet (oSet c k v) k v2 = oSet c k v2 := by
  cases c with
  | inl x => rfl
  | inr o => simp [oSet, List.set_set]
section TC
variable {d p k : Nat} {h : AHp} {s : Nat × (Nat → Int32)} {i v x b : Int32}
theorem ts_at {p : Nat} (h1 : ¬ p = 126) (h2 : ¬ p = 127) : (ts h s).1 p = h.1 p := by
  rw [ts, hset_at, if_neg h1, hset_at, if_neg h2]
theorem ts_6 : (ts h s).1 126 = oSet (h.1 126) 1 (.int (nI s.1)) := by rw [ts, hset_at, if_pos rfl]
theorem ts_7 : (ts h s).1 127 = .inl (0, 20, .inl s.2) := by rw [ts, hset_at, if_neg (by decide), hset_at, if_pos rfl]
theorem ts_c (Z : TB h) (s : Nat × (Nat → Int32)) : cls ((ts h s).1 126) = 10 := by rw [ts_6, cls_set]; exact Z.1
theorem ts_set {r : Int32} {U : Nat → Int32} {n : Nat} (hr : r = nI n) : hset (hset (ts h s) 127 (.inl (0, 20, .inl U))) 126 (oSet (oSet (h.1 126) 1 (.int (nI s.1))) 1 (.int r)) = ts h (n, U) := by
  subst hr
  rw [oSet_twice]
  unfold ts hset
  refine Prod.ext (funext fun q => ?_) rfl
  simp only
  by_cases h1 : q = 126
  · simp only [h1, ↓reduceIte]
  · by_cases h2 : q = 127
    · subst h2; simp
    · simp only [h1, h2, ↓reduceIte]
theorem sp_began (Z : TB h) (hs : s.1 < 20) : Rf d 93 0 [.ref 126, .int b] [] (ts h s) = some (none, ts h (bg s b)) := by
  have c0 : ¬ nI s.1 < 0 := nI_pos (by omega)
  have c1 : nI s.1 < 20 := nI_lt (a := s.1) (b := 20) hs (by omega)
  have c2 : inB (nI s.1) 20 = true := nI_inB hs (by omega)
  have c3 : (nI s.1).toNatClampNeg = s.1 := nI_clamp (by omega)
  have l1 : 1 < oL (h.1 126) := by rw [Z.2.1]; decide
  simp only [x93_0, x93_1, x93_4, x93_7, x93_8, x93_11, x93_13, x93_16, x93_17, x93_20, x93_21, x93_24, x93_25, x93_26, x93_27, x93_28, x93_31, x93_32, x93_33, x93_36, ts_6, ts_7, cls_set, oL_set, oN_eq l1, oKi_eq l1, oKr_ne (show ¬ 0 = 1 by decide), oR_ne (show ¬ 0 = 1 by decide), Z, c0, c1, c2, c3, aT_i, aN_i, aF_i, hset_at, Nat.reduceEqDiff, and_self, ↓reduceIte]
  rw [ts_set (n := s.1 + 1) (nI_1 _)]
  rfl
def KC (h : AHp) (p k : Nat) (i v : Int32) : Prop := cls (h.1 p) = kc (nI k) ∧ oKi (h.1 p) 0 = true ∧ oN (h.1 p) 0 = i ∧ oKi (h.1 p) 1 = true ∧ oN (h.1 p) 1 = v ∧ ¬ p = 126 ∧ ¬ p = 127
theorem KC_ts (K : KC h p k i v) (s : Nat × (Nat → Int32)) : cls ((ts h s).1 p) = kc (nI k) ∧ oKi ((ts h s).1 p) 0 = true ∧ oN ((ts h s).1 p) 0 = i ∧ oKi ((ts h s).1 p) 1 = true ∧ oN ((ts h s).1 p) 1 = v := by
  obtain ⟨a, b, c, e, f, g1, g2⟩ := K
  rw [ts_at g1 g2]
  exact ⟨a, b, c, e, f⟩
theorem kcx : ∀ k, k ≤ 6 → fIx [(0, 0), (1, 0), (2, 0), (4, 0), (5, 0), (8, 0), (9, 0)] (kc (nI k)) = some 0 ∧ fIx [(0, 1), (1, 1), (2, 1), (4, 1), (5, 1), (8, 1), (9, 1)] (kc (nI k)) = some 1 ∧ kc (nI k) < 13 := by decide +kernel
theorem kh0 (hk : k ≤ 6) (Z : TB h) (K : KC h p k i v) (hs : s.1 < 20) : Rf (d + 1) 32 0 [.ref p, .ref 126, .int x] [] (ts h s) = some (some (.int (x + i)), ts h (bg s 1)) := by
  obtain ⟨f1, f2, f3⟩ := kcx k hk
  simp only [x32_0, x32_1, x32_5, x32_6, x32_7, x32_10, x32_11, xc32_2 (ts_c Z s) (sp_began (d := d) Z hs), KC_ts K, f1, and_self, ↓reduceIte]
theorem kh2 (hk : k = 1 ∨ k = 4) (Z : TB h) (K : KC h p k i v) (hs : s.1 < 18) : Rf (d + 2) 11 0 [.ref p, .ref 126, .int x] [] (ts h s) = some (some (.int (x * 3 + i)), ts h (bg (bg s 11) 1)) := by
  have hk6 : k ≤ 6 := by omega
  obtain ⟨f1, f2, f3⟩ := kcx k hk6
  have c3 : ∀ s, cls ((ts h s).1 p) < 13 := fun s => by rw [(KC_ts K s).1]; exact f3
  simp only [x11_0, x11_1, x11_6, x11_7, x11_8, x11_9, x11_10, x11_14, xc11_3 (ts_c Z s) (sp_began (d := d + 1) Z (by omega)), xc11_11 (c3 _) (kh0 (s := bg s 11) (d := d) hk6 Z K (by rw [bg_1]; omega))]
theorem kh8 (hk : k = 5) (Z : TB h) (K : KC h p k i v) (hs : s.1 < 18) : Rf (d + 2) 87 0 [.ref p, .ref 126, .int x] [] (ts h s) = some (some (.int ((x + i) ^^^ i)), ts h (bg (bg s 51) 1)) := by
  subst hk
  have c3 : ∀ s, cls ((ts h s).1 p) < 13 := fun s => by rw [(KC_ts K s).1]; decide
  simp only [x87_0, x87_1, x87_6, x87_7, x87_8, x87_12, x87_13, x87_16, x87_17, xc87_3 (ts_c Z s) (sp_began (d := d + 1) Z (by omega)), xc87_9 (c3 _) (kh0 (s := bg s 51) (d := d) (by decide) Z K (by rw [bg_1]; omega)), KC_ts K, show kc (nI 5) = 8 from by decide, and_self, ↓reduceIte]
theorem vh_33 (hk : k ≤ 6) (Z : TB h) (K : KC h p k i v) (hs : s.1 < 18) {a0 a1 a2 : Value} : Rf (d + 3) 33 8 [a0, a1, a2] [.int x, .ref 126, .ref p] (ts h s) = Rf (d + 3) 33 11 [a0, a1, a2] [.int (hV k i x)] (ts h (hT k s)) := by
  have hr := (KC_ts K s).1
  match k, hk with
  | 0, _ => exact xc33_8_4 (hr.trans (by decide)) (kh0 (d := d + 1) (by decide) Z K (by omega))
  | 1, _ => exact xc33_8_2 (hr.trans (by decide)) (kh2 (d := d) (by decide) Z K hs)
  | 2, _ => exact xc33_8_5 (hr.trans (by decide)) (kh0 (d := d + 1) (by decide) Z K (by omega))
  | 3, _ => exact xc33_8_9 (hr.trans (by decide)) (kh0 (d := d + 1) (by decide) Z K (by omega))
  | 4, _ => exact xc33_8_1 (hr.trans (by decide)) (kh2 (d := d) (by decide) Z K hs)
  | 5, _ => exact xc33_8_8 (hr.trans (by decide)) (kh8 (d := d) (by decide) Z K hs)
  | 6, _ => exact xc33_8_0 (hr.trans (by decide)) (kh0 (d := d + 1) (by decide) Z K (by omega))
theorem vh_122 (hk : k ≤ 6) (Z : TB h) (K : KC h p k i v) (hs : s.1 < 18) {a0 a1 a2 a3 a4 : Value} : Rf (d + 3) 122 67 [a0, a1, a2, a3, a4] [.int x, .ref 126, .ref p] (ts h s) = Rf (d + 3) 122 70 [a0, a1, a2, a3, a4] [.int (hV k i x)] (ts h (hT k s)) := by
  have hr := (KC_ts K s).1
  match k, hk with
  | 0, _ => exact xc122_67_4 (hr.trans (by decide)) (kh0 (d := d + 1) (by decide) Z K (by omega))
  | 1, _ => exact xc122_67_2 (hr.trans (by decide)) (kh2 (d := d) (by decide) Z K hs)
  | 2, _ => exact xc122_67_5 (hr.trans (by decide)) (kh0 (d := d + 1) (by decide) Z K (by omega))
  | 3, _ => exact xc122_67_9 (hr.trans (by decide)) (kh0 (d := d + 1) (by decide) Z K (by omega))
  | 4, _ => exact xc122_67_1 (hr.trans (by decide)) (kh2 (d := d) (by decide) Z K hs)
  | 5, _ => exact xc122_67_8 (hr.trans (by decide)) (kh8 (d := d) (by decide) Z K hs)
  | 6, _ => exact xc122_67_0 (hr.trans (by decide)) (kh0 (d := d + 1) (by decide) Z K (by omega))
theorem ka0 (hk : k ≤ 6) (Z : TB h) (K : KC h p k i v) (hs : s.1 < 17) : Rf (d + 3) 33 0 [.ref p, .ref 126, .int x] [] (ts h s) = some (some (.int (hV k i x - v)), ts h (hT k (bg s 2))) := by
  obtain ⟨f1, f2, f3⟩ := kcx k hk
  simp only [x33_0, x33_1, x33_5, x33_6, x33_7, x33_11, x33_12, x33_15, x33_16, xc33_2 (ts_c Z s) (sp_began (d := d + 2) Z (by omega)), vh_33 (d := d) hk Z K (s := bg s 2) (by rw [bg_1]; omega), KC_ts K, f2, and_self, ↓reduceIte]
theorem ka5 (hk : k = 2 ∨ k = 5) (Z : TB h) (K : KC h p k i v) (hs : s.1 < 16) : Rf (d + 4) 38 0 [.ref p, .ref 126, .int x] [] (ts h s) = some (some (.int (-(hV k i x - v))), ts h (hT k (bg (bg s 21) 2))) := by
  have hk6 : k ≤ 6 := by omega
  have c3 : ∀ s, cls ((ts h s).1 p) < 13 := fun s => by rw [(KC_ts K s).1]; exact (kcx k hk6).2.2
  simp only [x38_0, x38_1, x38_6, x38_7, x38_8, x38_12, x38_13, xc38_3 (ts_c Z s) (sp_began (d := d + 3) Z (by omega)), xc38_9 (c3 _) (ka0 (s := bg s 21) (d := d) hk6 Z K (by rw [bg_1]; omega))]
theorem ka6 (hk : k = 6) (Z : TB h) (K : KC h p k i v) (hs : s.1 < 16) : Rf (d + 4) 3 0 [.ref p, .ref 126, .int x] [] (ts h s) = some (some (.int (hV k i x - v + v)), ts h (hT k (bg (bg s 61) 2))) := by
  subst hk
  have c3 : ∀ s, cls ((ts h s).1 p) < 13 := fun s => by rw [(KC_ts K s).1]; decide
  simp only [x3_0, x3_1, x3_6, x3_7, x3_8, x3_12, x3_13, x3_16, x3_17, xc3_3 (ts_c Z s) (sp_began (d := d + 3) Z (by omega)), xc3_9 (c3 _) (ka0 (s := bg s 61) (d := d) (by decide) Z K (by rw [bg_1]; omega)), KC_ts K, show kc (nI 6) = 0 from by decide, and_self, ↓reduceIte]
theorem va_34 (hk : k ≤ 6) (Z : TB h) (K : KC h p k i v) (hs : s.1 < 16) {a0 a1 a2 : Value} : Rf (d + 5) 34 8 [a0, a1, a2] [.int x, .ref 126, .ref p] (ts h s) = Rf (d + 5) 34 11 [a0, a1, a2] [.int (aV k k i v x)] (ts h (aT1 k k s)) := by
  have hr := (KC_ts K s).1
  match k, hk with
  | 0, _ => exact xc34_8_4 (hr.trans (by decide)) (ka0 (d := d + 1) (by decide) Z K (by omega))
  | 1, _ => exact xc34_8_2 (hr.trans (by decide)) (ka0 (d := d + 1) (by decide) Z K (by omega))
  | 2, _ => exact xc34_8_5 (hr.trans (by decide)) (ka5 (d := d) (by decide) Z K hs)
  | 3, _ => exact xc34_8_9 (hr.trans (by decide)) (ka0 (d := d + 1) (by decide) Z K (by omega))
  | 4, _ => exact xc34_8_1 (hr.trans (by decide)) (ka0 (d := d + 1) (by decide) Z K (by omega))
  | 5, _ => exact xc34_8_8 (hr.trans (by decide)) (ka5 (d := d) (by decide) Z K hs)
  | 6, _ => exact xc34_8_0 (hr.trans (by decide)) (ka6 (d := d) (by decide) Z K hs)
theorem va_122 (hk : k ≤ 6) (Z : TB h) (K : KC h p k i v) (hs : s.1 < 16) {a0 a1 a2 a3 a4 : Value} : Rf (d + 5) 122 78 [a0, a1, a2, a3, a4] [.int x, .ref 126, .ref p] (ts h s) = Rf (d + 5) 122 81 [a0, a1, a2, a3, a4] [.int (aV k k i v x)] (ts h (aT1 k k s)) := by
  have hr := (KC_ts K s).1
  match k, hk with
  | 0, _ => exact xc122_78_4 (hr.trans (by decide)) (ka0 (d := d + 1) (by decide) Z K (by omega))
  | 1, _ => exact xc122_78_2 (hr.trans (by decide)) (ka0 (d := d + 1) (by decide) Z K (by omega))
  | 2, _ => exact xc122_78_5 (hr.trans (by decide)) (ka5 (d := d) (by decide) Z K hs)
  | 3, _ => exact xc122_78_9 (hr.trans (by decide)) (ka0 (d := d + 1) (by decide) Z K (by omega))
  | 4, _ => exact xc122_78_1 (hr.trans (by decide)) (ka0 (d := d + 1) (by decide) Z K (by omega))
  | 5, _ => exact xc122_78_8 (hr.trans (by decide)) (ka5 (d := d) (by decide) Z K hs)
  | 6, _ => exact xc122_78_0 (hr.trans (by decide)) (ka6 (d := d) (by decide) Z K hs)
theorem kt0 (hk : k ≤ 6) (Z : TB h) (K : KC h p k i v) (hs : s.1 < 15) : Rf (d + 5) 34 0 [.ref p, .ref 126, .int x] [] (ts h s) = some (some (.int (aV k k i v x * 2)), ts h (aT1 k k (bg s 3))) := by
  simp only [x34_0, x34_1, x34_5, x34_6, x34_7, x34_11, x34_12, x34_13, xc34_2 (ts_c Z s) (sp_began (d := d + 4) Z (by omega)), va_34 (d := d) hk Z K (s := bg s 3) (by rw [bg_1]; omega)]
theorem kt9 (hk : k = 3 ∨ k = 6) (Z : TB h) (K : KC h p k i v) (hs : s.1 < 14) : Rf (d + 6) 91 0 [.ref p, .ref 126, .int x] [] (ts h s) = some (some (.int ((aV k k i v x * 2) ^^^ 7)), ts h (aT1 k k (bg (bg s 31) 3))) := by
  have hk6 : k ≤ 6 := by omega
  have c3 : ∀ s, cls ((ts h s).1 p) < 13 := fun s => by rw [(KC_ts K s).1]; exact (kcx k hk6).2.2
  simp only [x91_0, x91_1, x91_6, x91_7, x91_8, x91_12, x91_14, x91_15, xc91_3 (ts_c Z s) (sp_began (d := d + 5) Z (by omega)), xc91_9 (c3 _) (kt0 (s := bg s 31) (d := d) hk6 Z K (by rw [bg_1]; omega))]
theorem kt4 (hk : k = 4) (Z : TB h) (K : KC h p k i v) (hs : s.1 < 10) : Rf (d + 6) 7 0 [.ref p, .ref 126, .int x] [] (ts h s) = some (some (.int (aV k k i v (x - 1) * 2 + hV k i 2)), ts h (hT k (aT1 k k (bg (bg s 41) 3)))) := by
  subst hk
  have c3 : ∀ s, cls ((ts h s).1 p) < 13 := fun s => by rw [(KC_ts K s).1]; decide
  have c1 : ∀ s, cls ((ts h s).1 p) = 1 := fun s => by rw [(KC_ts K s).1]; decide
  have b1 : (aT1 4 4 (bg (bg s 41) 3)).1 < 18 := by
    have := aT_le 4 4 (bg (bg s 41) 3)
    simp only [bg_1] at this
    omega
  have e2 := kh2 (d := d + 3) (by decide) Z K (x := 2) b1
  simp only [x7_0, x7_1, x7_6, x7_7, x7_8, x7_9, x7_10, x7_14, x7_15, x7_16, x7_20, x7_21, xc7_3 (ts_c Z s) (sp_began (d := d + 5) Z (by omega)), xc7_11 (c3 _) (kt0 (s := bg s 41) (d := d) (by decide) Z K (by rw [bg_1]; omega)), xc7_17 (c1 _) e2]
  rfl
theorem vt_122 (hk : k ≤ 6) (Z : TB h) (K : KC h p k i v) (hs : s.1 < 10) {a0 a1 a2 a3 a4 : Value} : Rf (d + 7) 122 89 [a0, a1, a2, a3, a4] [.int x, .ref 126, .ref p] (ts h s) = Rf (d + 7) 122 92 [a0, a1, a2, a3, a4] [.int (eV k k i v x)] (ts h (eT k k s)) := by
  have hr := (KC_ts K s).1
  match k, hk with
  | 0, _ => exact xc122_89_4 (hr.trans (by decide)) (kt0 (d := d + 1) (by decide) Z K (by omega))
  | 1, _ => exact xc122_89_2 (hr.trans (by decide)) (kt0 (d := d + 1) (by decide) Z K (by omega))
  | 2, _ => exact xc122_89_5 (hr.trans (by decide)) (kt0 (d := d + 1) (by decide) Z K (by omega))
  | 3, _ => exact xc122_89_9 (hr.trans (by decide)) (kt9 (d := d) (by decide) Z K (by omega))
  | 4, _ => exact xc122_89_1 (hr.trans (by decide)) (kt4 (d := d) rfl Z K hs)
  | 5, _ => exact xc122_89_8 (hr.trans (by decide)) (kt0 (d := d + 1) (by decide) Z K (by omega))
  | 6, _ => exact xc122_89_0 (hr.trans (by decide)) (kt9 (d := d) (by decide) Z K (by omega))
theorem ts_0 {rn : Int32} {T : Nat → Int32} (Z : TR h rn T) : hset h 126 (oSet (h.1 126) 1 (.int 0)) = ts h (0, T) := by
  have e7 := cell_eq (c := h.1 127) (t := 0) Z.2.2.2.2.2.2.1 (by decide)
  rw [Z.2.2.2.2.2.2.2.1, Z.2.2.2.2.2.2.2.2] at e7
  unfold ts
  rw [hset_self e7]
  rfl
end TC
