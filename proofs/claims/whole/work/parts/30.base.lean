-- deps: 08.steps 19.df 20.x_jdk 25.x_main 26.x_model1
/-! WHAT THE METHODS COME TO, on the plain machine. -/
theorem run_dep : ∀ (n d m pc : Nat) (ls st : List Value) (h : AHp) (r : Option Value × AHp), run n d m pc ls st h = some r → run n (d + 1) m pc ls st h = some r := by
  intro n
  induction n with
  | zero => intro d m pc ls st h r e; cases e
  | succ n ih =>
    intro d m pc ls st h r e
    cases hs : stp m pc ls st h with
    | none => rw [run, hs] at e; cases e
    | some o =>
      rw [run, hs] at e ⊢
      rcases o with ⟨pc', ls', st', h'⟩ | q | ⟨c, as, pc', ls', st', h'⟩
      · exact ih _ _ _ _ _ _ _ e
      · exact e
      · cases d with
        | zero => cases e
        | succ d =>
          simp only at e ⊢
          cases h2 : run n d c 0 (padL c as) [] h' with
          | none => rw [h2] at e; cases e
          | some r2 =>
            rw [h2] at e
            rw [ih _ _ _ _ _ _ _ h2]
            exact ih _ _ _ _ _ _ _ e
theorem Rf_dep {d m pc : Nat} {ls st : List Value} {h : AHp} {r : Option Value × AHp} (e : Rf d m pc ls st h = some r) : Rf (d + 1) m pc ls st h = some r := by
  obtain ⟨n, hn⟩ := Rf_ex e
  exact Rf_of (run_dep _ _ _ _ _ _ _ _ hn)
/-- what comes to an end in d calls' depth does so in more -/
theorem Rf_up {d e m pc : Nat} {ls st : List Value} {h : AHp} {r : Option Value × AHp} (hd : d ≤ e) (q : Rf d m pc ls st h = some r) : Rf e m pc ls st h = some r := by
  induction hd with
  | refl => exact q
  | step _ ih => exact Rf_dep ih
theorem hset_at {h : AHp} {p q : Nat} {c : va_E} : (hset h p c).1 q = if q = p then c else h.1 q := rfl
theorem hset_2 {h : AHp} {p : Nat} {c : va_E} : (hset h p c).2 = h.2 := rfl
theorem hnew_at {h : AHp} {q k : Nat} {c : va_E} : (hnew h c k).1 q = if q = h.2.1 then c else h.1 q := rfl
theorem hset_hset {h : AHp} {p : Nat} {c c2 : va_E} : hset (hset h p c) p c2 = hset h p c2 := by
  unfold hset
  refine Prod.ext (funext fun q => ?_) rfl
  simp only
  split <;> rfl
theorem aT_i {t n : Nat} {f : Nat → Int32} : aT (.inl (t, n, .inl f)) = t := rfl
theorem aN_i {t n : Nat} {f : Nat → Int32} : aN (.inl (t, n, .inl f)) = n := rfl
theorem aF_i {t n : Nat} {f : Nat → Int32} : aF (.inl (t, n, .inl f)) = f := rfl
theorem aT_q {t n : Nat} {f : Nat → Option Nat} : aTq (.inl (t, n, .inr (.inr (.inr (.inr f))))) = t := rfl
theorem aN_q {t n : Nat} {f : Nat → Option Nat} : aN (.inl (t, n, .inr (.inr (.inr (.inr f))))) = n := rfl
theorem aG_q {t n : Nat} {f : Nat → Option Nat} : aG (.inl (t, n, .inr (.inr (.inr (.inr f))))) = f := rfl
theorem cls_set {c : va_E} {k : Nat} {v : Value} : cls (oSet c k v) = cls c := by cases c <;> rfl
theorem oL_set {c : va_E} {k : Nat} {v : Value} : oL (oSet c k v) = oL c := by
  cases c with
  | inl x => rfl
  | inr o => simp [oL, oSet]
theorem oG_ne {c : va_E} {k j : Nat} {v : Value} (h : ¬ j = k) : oN (oSet c k v) j = oN c j ∧ oKi (oSet c k v) j = oKi c j ∧ oR (oSet c k v) j = oR c j ∧ oKr (oSet c k v) j = oKr c j := by
  cases c with
  | inl x => exact ⟨rfl, rfl, rfl, rfl⟩
  | inr o =>
    have e : (o.2.set k v)[j]? = o.2[j]? := List.getElem?_set_ne (Ne.symm h)
    simp only [oN, oKi, oR, oKr, oSet, e, and_self]
theorem oN_ne {c : va_E} {k j : Nat} {v : Value} (h : ¬ j = k) : oN (oSet c k v) j = oN c j := (oG_ne h).1
theorem oKi_ne {c : va_E} {k j : Nat} {v : Value} (h : ¬ j = k) : oKi (oSet c k v) j = oKi c j := (oG_ne h).2.1
theorem oR_ne {c : va_E} {k j : Nat} {v : Value} (h : ¬ j = k) : oR (oSet c k v) j = oR c j := (oG_ne h).2.2.1
theorem oKr_ne {c : va_E} {k j : Nat} {v : Value} (h : ¬ j = k) : oKr (oSet c k v) j = oKr c j := (oG_ne h).2.2.2
theorem oG_get {c : va_E} {k : Nat} {v : Value} (h : k < oL c) : ∃ o, c = .inr o ∧ (o.2.set k v)[k]? = some v := by
  cases c with
  | inl x => exact absurd h (Nat.not_lt_zero _)
  | inr o => exact ⟨o, rfl, List.getElem?_set_self h⟩
theorem oN_eq {c : va_E} {k : Nat} {x : Int32} (h : k < oL c) : oN (oSet c k (.int x)) k = x := by
  obtain ⟨o, rfl, e⟩ := oG_get (v := .int x) h
  simp only [oN, oSet, e]
theorem oKi_eq {c : va_E} {k : Nat} {x : Int32} (h : k < oL c) : oKi (oSet c k (.int x)) k = true := by
  obtain ⟨o, rfl, e⟩ := oG_get (v := .int x) h
  simp only [oKi, oSet, e]
theorem oR_eq {c : va_E} {k : Nat} {x : Nat} (h : k < oL c) : oR (oSet c k (.ref x)) k = x := by
  obtain ⟨o, rfl, e⟩ := oG_get (v := .ref x) h
  simp only [oR, oSet, e]
theorem oKr_eq {c : va_E} {k : Nat} {x : Nat} (h : k < oL c) : oKr (oSet c k (.ref x)) k = true := by
  obtain ⟨o, rfl, e⟩ := oG_get (v := .ref x) h
  simp only [oKr, oSet, e]
/-- a piece of the whole row -/
def sub (A : Nat → Int32) (b n : Nat) : Nat → Int32 := fun j => if j < n then A (b + j) else 0
theorem sub_at {j n : Nat} (h : j < n) (A : Nat → Int32) (b : Nat) : sub A b n j = A (b + j) := if_pos h
theorem sub_in {A : Nat → Int32} {b n i : Nat} {x : Int32} (h : i < n) : upd (sub A b n) i x = sub (upd A (b + i) x) b n := by
  funext j
  simp only [upd, sub]
  by_cases hj : j = i
  · subst hj
    simp [h]
  · have e : ¬ b + j = b + i := by omega
    simp [hj, e]
theorem sub_out {A : Nat → Int32} {b n k : Nat} {x : Int32} (h : k < b ∨ b + n ≤ k) : sub (upd A k x) b n = sub A b n := by
  funext j
  simp only [upd, sub]
  by_cases hj : j < n
  · have e : ¬ b + j = k := by omega
    simp [e]
  · simp [hj]
theorem upd_at {A : Nat → Int32} {k j : Nat} {x : Int32} : upd A k x j = if j = k then x else A j := rfl
theorem nI_inB {k n : Nat} (h : k < n) (hn : n < 2 ^ 31) : inB (nI k) n = true := by
  have h1 := nI_pos (n := k) (by omega)
  have h2 := nI_clamp (n := k) (by omega)
  simp [inB, h1, h2, h]
theorem inB_of {x : Int32} {k n : Nat} (e : x = nI k) (h : k < n) (hn : n < 2 ^ 31) : inB x n = true ∧ x.toNatClampNeg = k := by
  subst e
  exact ⟨nI_inB h hn, nI_clamp (by omega)⟩
/-- a truth value -/
def b2 (c : Prop) [Decidable c] : Int32 := if c then 1 else 0
theorem b2_0 {c : Prop} [Decidable c] : (b2 c = 0) = ¬ c := by
  unfold b2
  split
  · next h => simp [h]
  · next h => simp [h]
theorem b2_t {c : Prop} [Decidable c] (h : c) : b2 c = 1 := if_pos h
theorem b2_f {c : Prop} [Decidable c] (h : ¬ c) : b2 c = 0 := if_neg h
/-- a loop's numbers -/
def lpF {α : Type} (g : α → Nat → α) : α → Nat → Nat → α
  | a, _, 0 => a
  | a, w, k + 1 => lpF g (g a w) (w + 1) k
def mn (a b : Int32) : Int32 := if b < a then b else a
def mx (a b : Int32) : Int32 := if a < b then b else a
def ab (a : Int32) : Int32 := if a < 0 then -a else a
theorem sp_max {d : Nat} {a b : Int32} {h : AHp} : Rf d 201 0 [.int a, .int b] [] h = some (some (.int (mx a b)), h) := by
  simp only [x201_0, x201_1, x201_2, x201_5, x201_6, x201_9, x201_10, mx]
  split <;> rfl
theorem sp_min {d : Nat} {a b : Int32} {h : AHp} : Rf d 202 0 [.int a, .int b] [] h = some (some (.int (mn a b)), h) := by
  simp only [x202_0, x202_1, x202_2, x202_5, x202_6, x202_9, x202_10, mn]
  split <;> rfl
theorem sp_abs {d : Nat} {a : Int32} {h : AHp} : Rf d 200 0 [.int a] [] h = some (some (.int (ab a)), h) := by
  simp only [x200_0, x200_1, x200_4, x200_5, x200_6, x200_9, x200_10, ab]
  split <;> rfl
theorem sp_within {d : Nat} {a b : Int32} {h : AHp} : Rf d 129 0 [.int a, .int b] [] h = some (some (.int (b2 (¬ a < 0 ∧ ¬ b < a))), h) := by
  simp only [x129_0, x129_1, x129_4, x129_5, x129_6, x129_9, x129_10, x129_13, x129_14, retI_z0, retI_z1, ↓reduceIte]
  unfold b2
  repeat' split
  all_goals simp_all
theorem sp_mwithin {d : Nat} {a b c : Int32} {h : AHp} : Rf d 131 0 [.int a, .int b, .int c] [] h = some (some (.int (b2 (¬ a < b ∧ ¬ c < a))), h) := by
  simp only [x131_0, x131_1, x131_2, x131_5, x131_6, x131_7, x131_10, x131_11, x131_14, x131_15, retI_z0, retI_z1, ↓reduceIte]
  unfold b2
  repeat' split
  all_goals simp_all
