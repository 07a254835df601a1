-- deps: 30.base 23.x_office 21.x_kn
/-! THE OFFICE. Its fields and rows are pieces of the whole row A; its own: who sits where, the friends, the Knowings. -/
def sitK (A : Nat → Int32) (x : Int32) : Nat → Nat → Int32
  | _, 0 => -1
  | w, k + 1 => if A (10 + w) = x then nI w else sitK A x (w + 1) k
def sit (A : Nat → Int32) (x : Int32) : Int32 := sitK A x 0 (A 0).toNatClampNeg
def wat (A : Nat → Int32) : Nat → Int32 := fun d => if d < 10 then sit A (nI d) else 0
theorem wat_at {d : Nat} (h : d < 10) (A : Nat → Int32) : wat A d = sit A (nI d) := if_pos h
def frF (x : Int32) : Int32 := if x < 0 then -5 else x
def frR (A : Nat → Int32) : Nat → Int32 := fun j => if j < 10 then frF (A (50 + j)) else 0
theorem frR_at {j : Nat} (h : j < 10) (A : Nat → Int32) : frR A j = frF (A (50 + j)) := if_pos h
def krR (kn : Nat → Nat) : Nat → Option Nat := fun j => if j < 10 then some (kn j) else none
theorem krR_at {j : Nat} (h : j < 10) (kn : Nat → Nat) : krR kn j = some (kn j) := if_pos h
/-- the class of a KIND -/
def kc (x : Int32) : Nat := if x = 1 then 2 else if x = 2 then 5 else if x = 3 then 9 else if x = 4 then 1 else if x = 5 then 8 else if x = 6 then 0 else 4
abbrev OF (h : AHp) (o : Nat) (A : Nat → Int32) (q : Nat) (kn : Nat → Nat) : Prop :=
  cls (h.1 o) = 6 ∧ oL (h.1 o) = 15 ∧ oKi (h.1 o) 0 = true ∧ oN (h.1 o) 0 = A 0 ∧ oKr (h.1 o) 1 = true ∧ oR (h.1 o) 1 = o + 1 ∧ oKr (h.1 o) 2 = true ∧ oR (h.1 o) 2 = o + 2 ∧ oKr (h.1 o) 3 = true ∧ oR (h.1 o) 3 = o + 3 ∧ oKr (h.1 o) 4 = true ∧ oR (h.1 o) 4 = o + 4 ∧ oKr (h.1 o) 5 = true ∧ oR (h.1 o) 5 = o + 5 ∧ oKr (h.1 o) 6 = true ∧ oR (h.1 o) 6 = o + 6 ∧ oKr (h.1 o) 7 = true ∧ oR (h.1 o) 7 = o + 7 ∧
  oKi (h.1 o) 8 = true ∧ oN (h.1 o) 8 = A 5 ∧ oKi (h.1 o) 9 = true ∧ oN (h.1 o) 9 = A 6 ∧ oKi (h.1 o) 10 = true ∧ oN (h.1 o) 10 = A 1 ∧ oKr (h.1 o) 11 = true ∧ oR (h.1 o) 11 = q ∧ oKr (h.1 o) 12 = true ∧ oR (h.1 o) 12 = o + 8 ∧ oKr (h.1 o) 13 = true ∧ oR (h.1 o) 13 = o + 9 ∧ oKr (h.1 o) 14 = true ∧ oR (h.1 o) 14 = o + 10 ∧
  aT (h.1 (o + 1)) = 0 ∧ aN (h.1 (o + 1)) = 10 ∧ aF (h.1 (o + 1)) = sub A 10 10 ∧ aT (h.1 (o + 2)) = 0 ∧ aN (h.1 (o + 2)) = 10 ∧ aF (h.1 (o + 2)) = wat A ∧ aT (h.1 (o + 3)) = 0 ∧ aN (h.1 (o + 3)) = 10 ∧ aF (h.1 (o + 3)) = sub A 20 10 ∧ aT (h.1 (o + 4)) = 0 ∧ aN (h.1 (o + 4)) = 10 ∧ aF (h.1 (o + 4)) = sub A 30 10 ∧ aT (h.1 (o + 5)) = 0 ∧ aN (h.1 (o + 5)) = 10 ∧ aF (h.1 (o + 5)) = sub A 40 10 ∧ aT (h.1 (o + 6)) = 0 ∧ aN (h.1 (o + 6)) = 10 ∧ aF (h.1 (o + 6)) = frR A ∧ aTq (h.1 (o + 7)) = 3 ∧ aN (h.1 (o + 7)) = 10 ∧ aG (h.1 (o + 7)) = krR kn ∧
  aT (h.1 (o + 8)) = 0 ∧ aN (h.1 (o + 8)) = 6 ∧ aT (h.1 (o + 9)) = 0 ∧ aN (h.1 (o + 9)) = 10 ∧ aT (h.1 (o + 10)) = 2 ∧ aN (h.1 (o + 10)) = 10
/-- the Knowings -/
def KN (h : AHp) (A : Nat → Int32) (kn : Nat → Nat) : Prop := ∀ j, j < 10 → cls (h.1 (kn j)) = kc (A (60 + j)) ∧ oKi (h.1 (kn j)) 0 = true ∧ oN (h.1 (kn j)) 0 = nI j ∧ oKi (h.1 (kn j)) 1 = true ∧ oN (h.1 (kn j)) 1 = A (70 + j) ∧ isKn (h.1 (kn j)) = true
/-- the numbers of A that hold at any time -/
def RG (A : Nat → Int32) (n : Nat) : Prop := n ≤ 10 ∧ A 0 = nI n ∧
  (∀ w, w < n → (∃ k, k ≤ 9 ∧ A (10 + w) = nI k) ∧ (∃ k, k ≤ 999 ∧ A (20 + w) = nI k) ∧ (∃ k, k ≤ 999 ∧ A (30 + w) = nI k) ∧ (A (40 + w) = 0 ∨ A (40 + w) = 1) ∧ (A (50 + w) = -1 ∨ ∃ k, k < n ∧ k ≠ w ∧ A (50 + w) = nI k)) ∧
  (∀ w, w < 10 → (∃ k, k ≤ 6 ∧ A (60 + w) = nI k) ∧ (∃ k, k ≤ 9 ∧ A (70 + w) = nI k)) ∧
  (∀ w v, w < n → v < n → A (10 + w) = A (10 + v) → w = v) ∧ (∃ k, k ≤ 3 ∧ A 5 = nI k) ∧ (∃ k, k ≤ 200 ∧ A 6 = nI k)
section OFF
variable {d o q n : Nat} {kn : Nat → Nat} {A : Nat → Int32} {h : AHp}
theorem sp_isWorker {w : Int32} (F : OF h o A q kn) : Rf d 42 0 [.ref o, .int w] [] h = some (some (.int (b2 (¬ w < 0 ∧ w < A 0))), h) := by
  simp only [x42_0, x42_1, x42_4, x42_5, x42_6, x42_9, x42_12, x42_13, x42_16, x42_17, F, retI_z0, retI_z1, ↓reduceIte, and_self]
  unfold b2
  repeat' split
  all_goals simp_all
theorem isW_of {w : Int32} (R : RG A n) (hw : ¬ w < 0 ∧ w < A 0) : ∃ k, k < n ∧ w = nI k := by
  obtain ⟨j, hj, rfl⟩ := nI_of hw.1
  have h1 := hw.2
  rw [R.2.1] at h1
  have hn := R.1
  exact ⟨j, (nI_ltI hj (by omega)).mp h1, rfl⟩
theorem isW_in {k : Nat} (R : RG A n) (hk : k < n) : ¬ nI k < 0 ∧ nI k < A 0 := by
  have hn := R.1
  exact ⟨nI_pos (by omega), by rw [R.2.1]; exact nI_lt hk (by omega)⟩
/-- all PAY, of the first k behind w -/
def pyF (A : Nat → Int32) : Int32 → Nat → Nat → Int32 := lpF (fun a w => a + A (20 + w))
def pays (A : Nat → Int32) : Int32 := pyF A 0 0 (A 0).toNatClampNeg
theorem A0c (R : RG A n) : (A 0).toNatClampNeg = n := by
  have hn := R.1
  rw [R.2.1]; exact nI_clamp (by omega)
theorem lp_allPay (F : OF h o A q kn) (R : RG A n) : ∀ (k w : Nat) (a : Int32), w + k = n → Rf d 50 4 [.ref o, .int a, .int (nI w)] [] h = some (some (.int (pyF A a w k)), h) := by
  have hn := R.1
  have h0 := R.2.1
  intro k
  induction k with
  | zero =>
    intro w a hw
    have c1 : ¬ nI w < nI n := nI_nlt (by omega) (by omega)
    simp only [x50_0, x50_1, x50_2, x50_3, x50_4, x50_5, x50_6, x50_9, x50_12, x50_13, x50_14, x50_17, x50_18, x50_19, x50_20, x50_21, x50_24, x50_27, x50_28, F, h0, c1, and_self, ↓reduceIte, pyF, lpF]
  | succ k ih =>
    intro w a hw
    have c1 : nI w < nI n := nI_lt (by omega) (by omega)
    have c2 : inB (nI w) 10 = true := nI_inB (by omega) (by omega)
    have c3 : (nI w).toNatClampNeg = w := nI_clamp (by omega)
    have e1 := ih (w + 1) (a + A (20 + w)) (by omega)
    rw [x50_4]
    simp only [x50_5, x50_6, x50_9, x50_12, x50_13, x50_14, x50_17, x50_18, x50_19, x50_20, x50_21, x50_24, x50_27, x50_28, F, h0, c1, c2, c3, sub_at (show w < 10 by omega), nI_1, true_or, and_self, ↓reduceIte]
    exact e1
theorem sp_allPay (F : OF h o A q kn) (R : RG A n) : Rf d 50 0 [.ref o, noV, noV] [] h = some (some (.int (pays A)), h) := by
  have e := lp_allPay (d := d) F R n 0 0 (by omega)
  rw [nI_0] at e
  simp only [x50_0, x50_1, x50_2, x50_3, pays, A0c R]
  exact e
def mean (A : Nat → Int32) : Int32 := if A 0 = 0 then 0 else pays A / A 0
theorem sp_meanOfAll (F : OF h o A q kn) (R : RG A n) : Rf (d + 1) 51 0 [.ref o] [] h = some (some (.int (mean A)), h) := by
  have e := sp_allPay (d := d) F R
  simp only [x51_0, x51_1, x51_4, x51_7, x51_8, x51_11, x51_15, x51_16, x51_19, x51_20, xc51_12 F.1 e, F, and_self, ↓reduceIte, mean]
  by_cases c : A 0 = 0
  · simp only [c, ↓reduceIte]
  · simp only [c, ↓reduceIte, not_false_eq_true]
/-- the first WORKER at the DESK d or ahead of it (d counts from 1), -1 if none -/
def ahK (A : Nat → Int32) : Nat → Int32
  | 0 => -1
  | d + 1 => if sit A (nI d) = -1 then ahK A d else sit A (nI d)
def bhK (A : Nat → Int32) : Nat → Nat → Int32
  | _, 0 => -1
  | d, k + 1 => if sit A (nI d) = -1 then bhK A (d + 1) k else sit A (nI d)
theorem sub1 (x : Int32) : x - 1 = x + -1 := Int32.sub_eq_add_neg ..
theorem lp_ahead (F : OF h o A q kn) {v : Value} : ∀ (e : Nat), e ≤ 10 → Rf d 46 9 [.ref o, v, .int (nI e + -1)] [] h = some (some (.int (ahK A e)), h) := by
  intro e
  induction e with
  | zero =>
    intro _
    rw [nI_0, show (0 : Int32) + -1 = -1 from by decide]
    simp only [x46_0, x46_1, x46_4, x46_5, x46_6, x46_7, x46_8, x46_9, x46_10, x46_13, x46_14, x46_17, x46_18, x46_19, x46_20, x46_23, x46_24, x46_27, x46_28, x46_29, x46_30, x46_33, x46_36, x46_37, ahK, show (-1 : Int32) < 0 from by decide, ↓reduceIte]
  | succ e ih =>
    intro he
    have c1 : ¬ nI e < 0 := nI_pos (by omega)
    have c2 : inB (nI e) 10 = true := nI_inB (by omega) (by omega)
    have c3 : (nI e).toNatClampNeg = e := nI_clamp (by omega)
    have e1 := ih (by omega)
    rw [pk_m1]
    rw [x46_9]
    simp only [x46_10, x46_13, x46_14, x46_17, x46_18, x46_19, x46_20, x46_23, x46_24, x46_27, x46_28, x46_29, x46_30, x46_33, x46_36, x46_37, F, c1, c2, c3, wat_at (show e < 10 by omega), true_or, and_self, ↓reduceIte, ahK]
    split
    · exact e1
    · rfl
def ahead (A : Nat → Int32) (w : Nat) : Int32 := ahK A (A (10 + w)).toNatClampNeg
def behind (A : Nat → Int32) (w : Nat) : Int32 := bhK A ((A (10 + w)).toNatClampNeg + 1) (9 - (A (10 + w)).toNatClampNeg)
theorem desk_of (R : RG A n) {w : Nat} (hw : w < n) : ∃ k, k ≤ 9 ∧ A (10 + w) = nI k ∧ (A (10 + w)).toNatClampNeg = k := by
  obtain ⟨k, hk, e⟩ := (R.2.2.1 w hw).1
  exact ⟨k, hk, e, by rw [e]; exact nI_clamp (by omega)⟩
theorem sp_ahead (F : OF h o A q kn) (R : RG A n) {w : Nat} (hw : w < n) : Rf d 46 0 [.ref o, .int (nI w), noV] [] h = some (some (.int (ahead A w)), h) := by
  have hn := R.1
  obtain ⟨k, hk, e1, e2⟩ := desk_of R hw
  have c2 : inB (nI w) 10 = true := nI_inB (by omega) (by omega)
  have c3 : (nI w).toNatClampNeg = w := nI_clamp (by omega)
  simp only [x46_0, x46_1, x46_4, x46_5, x46_6, x46_7, x46_8, F, c2, c3, sub_at (show w < 10 by omega), true_or, and_self, ↓reduceIte, e1, sub1]
  rw [lp_ahead F k (by omega), ahead, e2]
theorem lp_behind (F : OF h o A q kn) {v : Value} : ∀ (k e : Nat), e + k = 10 → Rf d 47 9 [.ref o, v, .int (nI e)] [] h = some (some (.int (bhK A e k)), h) := by
  intro k
  induction k with
  | zero =>
    intro e he
    have c1 : ¬ nI e < 10 := nI_nlt (a := e) (b := 10) (by omega) (by omega)
    simp only [x47_0, x47_1, x47_4, x47_5, x47_6, x47_7, x47_8, x47_9, x47_10, x47_12, x47_15, x47_16, x47_19, x47_20, x47_21, x47_22, x47_25, x47_26, x47_29, x47_30, x47_31, x47_32, x47_35, x47_38, x47_39, c1, ↓reduceIte, bhK]
  | succ k ih =>
    intro e he
    have c1 : nI e < 10 := nI_lt (a := e) (b := 10) (by omega) (by omega)
    have c2 : inB (nI e) 10 = true := nI_inB (by omega) (by omega)
    have c3 : (nI e).toNatClampNeg = e := nI_clamp (by omega)
    have e1 := ih (e + 1) (by omega)
    rw [x47_9]
    simp only [x47_10, x47_12, x47_15, x47_16, x47_19, x47_20, x47_21, x47_22, x47_25, x47_26, x47_29, x47_30, x47_31, x47_32, x47_35, x47_38, x47_39, F, c1, c2, c3, wat_at (show e < 10 by omega), nI_1, true_or, and_self, ↓reduceIte, bhK]
    split
    · exact e1
    · rfl
theorem sp_behind (F : OF h o A q kn) (R : RG A n) {w : Nat} (hw : w < n) : Rf d 47 0 [.ref o, .int (nI w), noV] [] h = some (some (.int (behind A w)), h) := by
  have hn := R.1
  obtain ⟨k, hk, e1, e2⟩ := desk_of R hw
  have c2 : inB (nI w) 10 = true := nI_inB (by omega) (by omega)
  have c3 : (nI w).toNatClampNeg = w := nI_clamp (by omega)
  simp only [x47_0, x47_1, x47_4, x47_5, x47_6, x47_7, x47_8, F, c2, c3, sub_at (show w < 10 by omega), true_or, and_self, ↓reduceIte, e1, nI_1]
  rw [lp_behind F (9 - k) (k + 1) (by omega), behind, e2]
theorem sp_payOf (F : OF h o A q kn) (R : RG A n) {w : Nat} (hw : w < n) : Rf (d + 1) 48 0 [.ref o, .int (nI w)] [] h = some (some (.int (A (20 + w))), h) := by
  have hn := R.1
  have c2 : inB (nI w) 10 = true := nI_inB (by omega) (by omega)
  have c3 : (nI w).toNatClampNeg = w := nI_clamp (by omega)
  have e := sp_isWorker (d := d) (w := nI w) F
  rw [b2_t (isW_in R hw)] at e
  simp only [x48_0, x48_1, x48_5, x48_8, x48_9, x48_12, x48_13, x48_14, x48_17, x48_18, xc48_2 F.1 e, F, c2, c3, sub_at (show w < 10 by omega), true_or, and_self, ↓reduceIte, show ¬ (1 : Int32) = 0 from by decide]
theorem sp_friendOf (F : OF h o A q kn) (R : RG A n) {w : Nat} (hw : w < n) : Rf (d + 1) 49 0 [.ref o, .int (nI w)] [] h = some (some (.int (frF (A (50 + w)))), h) := by
  have hn := R.1
  have c2 : inB (nI w) 10 = true := nI_inB (by omega) (by omega)
  have c3 : (nI w).toNatClampNeg = w := nI_clamp (by omega)
  have e := sp_isWorker (d := d) (w := nI w) F
  rw [b2_t (isW_in R hw)] at e
  simp only [x49_0, x49_1, x49_5, x49_8, x49_9, x49_12, x49_13, x49_14, x49_17, x49_19, xc49_2 F.1 e, F, c2, c3, frR_at (show w < 10 by omega), true_or, and_self, ↓reduceIte, show ¬ (1 : Int32) = 0 from by decide]
end OFF
