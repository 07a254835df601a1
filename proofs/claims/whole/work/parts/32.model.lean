-- deps: 31.office 26.x_model2 22.x_house 29.bits
/-! THE MODEL'S ROW, and THE HOUSES' CLAUSES, evaluated. -/
abbrev MF (h : AHp) (o : Nat) (A B : Nat → Int32) : Prop :=
  cls (h.1 o) = 12 ∧ oL (h.1 o) = 12 ∧ oKr (h.1 o) 0 = true ∧ oR (h.1 o) 0 = o + 1 ∧ oKr (h.1 o) 1 = true ∧ oR (h.1 o) 1 = o + 2 ∧ oKi (h.1 o) 2 = true ∧ oKi (h.1 o) 3 = true ∧ oKi (h.1 o) 4 = true ∧ oKi (h.1 o) 5 = true ∧ oKr (h.1 o) 6 = true ∧ oR (h.1 o) 6 = o + 3 ∧ oKr (h.1 o) 7 = true ∧ oR (h.1 o) 7 = o + 4 ∧ oKr (h.1 o) 8 = true ∧ oR (h.1 o) 8 = o + 5 ∧ oKr (h.1 o) 9 = true ∧ oR (h.1 o) 9 = o + 6 ∧ oKi (h.1 o) 10 = true ∧ oKr (h.1 o) 11 = true ∧ oR (h.1 o) 11 = o + 7 ∧
  aT (h.1 (o + 1)) = 0 ∧ aN (h.1 (o + 1)) = 931 ∧ aF (h.1 (o + 1)) = A ∧ aT (h.1 (o + 2)) = 0 ∧ aN (h.1 (o + 2)) = 931 ∧ aF (h.1 (o + 2)) = B ∧ aT (h.1 (o + 3)) = 0 ∧ aN (h.1 (o + 3)) = 101 ∧ aT (h.1 (o + 4)) = 0 ∧ aN (h.1 (o + 4)) = 10 ∧ aT (h.1 (o + 5)) = 0 ∧ aN (h.1 (o + 5)) = 10 ∧ aT (h.1 (o + 6)) = 0 ∧ aN (h.1 (o + 6)) = 22 ∧ aT (h.1 (o + 7)) = 0 ∧ aN (h.1 (o + 7)) = 20
/-- the room that b + w lies in -/
theorem ix (b w : Nat) (N : Nat) (h : b + w < N) (hN : N < 2 ^ 31) : nI b + nI w = nI (b + w) ∧ inB (nI (b + w)) N = true ∧ (nI (b + w)).toNatClampNeg = b + w := ⟨nI_add b w, nI_inB h hN, nI_clamp (by omega)⟩
theorem ixL : inB 0 931 = true ∧ inB 1 931 = true ∧ inB 2 931 = true ∧ inB 3 931 = true ∧ inB 4 931 = true ∧ inB 5 931 = true ∧ inB 6 931 = true ∧ inB 7 931 = true ∧ inB 20 931 = true ∧ (0 : Int32).toNatClampNeg = 0 ∧ (1 : Int32).toNatClampNeg = 1 ∧ (2 : Int32).toNatClampNeg = 2 ∧ (3 : Int32).toNatClampNeg = 3 ∧ (4 : Int32).toNatClampNeg = 4 ∧ (5 : Int32).toNatClampNeg = 5 ∧ (6 : Int32).toNatClampNeg = 6 ∧ (7 : Int32).toNatClampNeg = 7 ∧ (20 : Int32).toNatClampNeg = 20 := by decide +kernel
/-- does the TEST t hold of the facts f? -/
def tst (f : Nat → Int32) (c : Nat) : Bool := if c / 100 % 3 = 0 then decide (f (c / 300 % 6) < nI (c % 100)) else if c / 100 % 3 = 1 then decide (f (c / 300 % 6) = nI (c % 100)) else decide (nI (c % 100) < f (c / 300 % 6))
/-- one sign of the code, on a stack -/
def stT (f : Nat → Int32) (t : Int32) (st : List Bool) : List Bool := if t = -1 then (match st with
    | a :: r => (!a) :: r
    | [] => []) else if t = -2 then (match st with
    | a :: b :: r => (b && a) :: r
    | _ => []) else if t = -3 then (match st with
    | a :: b :: r => (b || a) :: r
    | _ => []) else tst f t.toNatClampNeg :: st
def evB (f C : Nat → Int32) : List Bool → Nat → Nat → List Bool
  | st, _, 0 => st
  | st, i, k + 1 => evB f C (stT f (C i) st) (i + 1) k
theorem evB_congr {f g C : Nat → Int32} (h : ∀ j, j < 6 → f j = g j) : ∀ (k i : Nat) (st : List Bool), evB f C st i k = evB g C st i k := by
  have e : ∀ (t : Int32) (st : List Bool), stT f t st = stT g t st := by
    intro t st
    unfold stT tst
    rw [h _ (Nat.mod_lt _ (by decide))]
  intro k
  induction k with
  | zero => intro i st; rfl
  | succ k ih => intro i st; simp only [evB, e, ih]
/-- how many stand on the stack behind a sign -/
def dp1 (t : Int32) (d : Nat) : Option Nat := if t = -1 then (if 1 ≤ d then some d else none) else if t = -2 ∨ t = -3 then (if 2 ≤ d then some (d - 1) else none) else if (¬ t < 0 ∧ t < 1800) ∧ d < 20 then some (d + 1) else none
def rnD (C : Nat → Int32) : Nat → Nat → Nat → Option Nat
  | _, 0, d => some d
  | i, k + 1, d => match dp1 (C i) d with
    | some e => rnD C (i + 1) k e
    | none => none
theorem rnD_step {C : Nat → Int32} {i k e : Nat} {f : Nat → Int32} {st : List Bool} (h : rnD C i (k + 1) st.length = some e) : rnD C (i + 1) k (stT f (C i) st).length = some e ∧ (st.length < 20 ∨ C i < 0) ∧ (C i = -1 → 1 ≤ st.length) ∧ (C i = -2 ∨ C i = -3 → 2 ≤ st.length) ∧ (C i = -1 ∨ C i = -2 ∨ C i = -3 ∨ (¬ C i < 0 ∧ C i < 1800)) := by
  unfold rnD at h
  cases hd : dp1 (C i) st.length with
  | none => rw [hd] at h; cases h
  | some e1 =>
    rw [hd] at h
    simp only at h
    unfold dp1 at hd
    by_cases h1 : C i = -1
    · rw [if_pos h1] at hd
      split at hd
      · next hl =>
        cases hd
        refine ⟨?_, Or.inr (by rw [h1]; decide), fun _ => hl, fun z => by rw [h1] at z; exact absurd z (by decide), Or.inl h1⟩
        have : (stT f (C i) st).length = st.length := by
          unfold stT
          rw [if_pos h1]
          cases st with
          | nil => rfl
          | cons a r => rfl
        rw [this]
        exact h
      · cases hd
    · rw [if_neg h1] at hd
      by_cases h2 : C i = -2 ∨ C i = -3
      · rw [if_pos h2] at hd
        split at hd
        · next hl =>
          cases hd
          refine ⟨?_, Or.inr (by rcases h2 with z | z <;> rw [z] <;> decide), fun z => absurd z h1, fun _ => hl, ?_⟩
          · have : (stT f (C i) st).length = st.length - 1 := by
              unfold stT
              rw [if_neg h1]
              match st, hl with
              | a :: b :: r, _ =>
                rcases h2 with z | z
                · rw [if_pos z]; rfl
                · rw [if_neg (by rw [z]; decide), if_pos z]; rfl
            rw [this]
            exact h
          · rcases h2 with z | z
            · exact Or.inr (Or.inl z)
            · exact Or.inr (Or.inr (Or.inl z))
        · cases hd
      · rw [if_neg h2] at hd
        split at hd
        · next hl =>
          cases hd
          refine ⟨?_, Or.inl hl.2, fun z => absurd z h1, fun z => absurd z h2, Or.inr (Or.inr (Or.inr hl.1))⟩
          have : (stT f (C i) st).length = st.length + 1 := by
            unfold stT
            rw [if_neg h1, if_neg (fun z => h2 (Or.inl z)), if_neg (fun z => h2 (Or.inr z))]
            rfl
          rw [this]
          exact h
        · cases hd
/-- the bits' arithmetic -/
def BR (x : Int32) (st : List Bool) : Prop := ∀ i b, st[i]? = some b → bt x i = b
theorem bt_1 : ∀ i, i < 32 → bt 1 i = decide (i = 0) := by decide +kernel
theorem bt_m2 : ∀ i, i < 32 → bt (-2) i = decide (1 ≤ i) := by decide +kernel
theorem ushr1 (x : Int32) (i : Nat) : bt ((x.toUInt32 >>> ((1 : Int32).toUInt32 &&& Int32.toUInt32 31)).toInt32) i = bt x (1 + i) := b_ushr 1 (by decide) x i
theorem shl1 (x : Int32) {i : Nat} (hi : i < 32) : bt (x <<< ((1 : Int32) &&& 31)) i = (decide (1 ≤ i) && bt x (i - 1)) := b_shl 1 (by decide) x hi
theorem lt_of {st : List Bool} {i : Nat} {b : Bool} (h : st[i]? = some b) (hl : st.length ≤ 20) : i < 32 := by
  have := (List.getElem?_eq_some_iff.mp h).1
  omega
theorem BR_not {x : Int32} {a : Bool} {r : List Bool} (h : BR x (a :: r)) (hl : (a :: r).length ≤ 20) : BR (x ^^^ 1) ((!a) :: r) := by
  intro i b hb
  have hi := lt_of hb (by simpa using hl)
  rw [b_xor, bt_1 i hi]
  cases i with
  | zero =>
    have h0 := h 0 a rfl
    cases hb
    simp [h0]
  | succ i =>
    have h1 := h (i + 1) b hb
    simp [h1]
theorem BR_and {x : Int32} {a c : Bool} {r : List Bool} (h : BR x (a :: c :: r)) (hl : (a :: c :: r).length ≤ 20) : BR ((x.toUInt32 >>> ((1 : Int32).toUInt32 &&& Int32.toUInt32 31)).toInt32 &&& (x ||| -2)) ((c && a) :: r) := by
  intro i b hb
  have hi := lt_of hb (by simp at hl ⊢; omega)
  rw [b_and, b_or, ushr1, bt_m2 i hi]
  cases i with
  | zero =>
    have h0 := h 0 a rfl
    have h1 := h 1 c rfl
    cases hb
    simp [h0, h1]
  | succ i =>
    have h1 := h (i + 1 + 1) b hb
    rw [Nat.add_comm 1]
    simp [h1]
theorem BR_or {x : Int32} {a c : Bool} {r : List Bool} (h : BR x (a :: c :: r)) (hl : (a :: c :: r).length ≤ 20) : BR ((x.toUInt32 >>> ((1 : Int32).toUInt32 &&& Int32.toUInt32 31)).toInt32 ||| (x &&& 1)) ((c || a) :: r) := by
  intro i b hb
  have hi := lt_of hb (by simp at hl ⊢; omega)
  rw [b_or, b_and, ushr1, bt_1 i hi]
  cases i with
  | zero =>
    have h0 := h 0 a rfl
    have h1 := h 1 c rfl
    cases hb
    simp [h0, h1]
  | succ i =>
    have h1 := h (i + 1 + 1) b hb
    rw [Nat.add_comm 1]
    simp [h1]
theorem BR_psh {x : Int32} {a : Bool} {r : List Bool} (h : BR x r) (hl : r.length < 20) : BR ((x <<< ((1 : Int32) &&& 31)) ||| (if a = true then 1 else 0)) (a :: r) := by
  intro i b hb
  have hi := lt_of hb (by simp; omega)
  rw [b_or, shl1 x hi]
  cases i with
  | zero =>
    cases hb
    cases a
    · simp [b_0]
    · simp [bt_1 0 (by decide)]
  | succ i =>
    have h1 := h i b hb
    have e : bt (if a = true then (1 : Int32) else 0) (i + 1) = false := by
      cases a
      · simp [b_0]
      · simp [bt_1 (i + 1) hi]
    rw [e]
    simp [h1]
theorem BR_top {x : Int32} {a : Bool} {r : List Bool} (h : BR x (a :: r)) : x &&& 1 = if a = true then 1 else 0 := by
  apply b_ext
  intro i hi
  rw [b_and, bt_1 i hi]
  have h0 := h 0 a rfl
  by_cases e : i = 0
  · subst e
    cases a
    · simp [h0, b_0]
    · simp [h0, bt_1 0 hi]
  · cases a
    · simp [e, b_0]
    · simp [e, bt_1 i hi]
