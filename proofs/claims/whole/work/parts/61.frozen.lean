-- deps: 60.best
/-! WHAT NOBODY CHANGES: texts, their bytes, the script. -/
def fz (c : va_E) : Prop := aT c = 10 ∨ aT c = 11 ∨ cls c = 13
def FZ (h h' : AHp) : Prop := h.2.1 ≤ h'.2.1 ∧ (∀ p, p < h.2.1 → fz (h.1 p) → h'.1 p = h.1 p) ∧ ∀ p, p < h.2.1 → cls (h.1 p) = 12 → cls (h'.1 p) = 12
theorem FZ_rf {h : AHp} : FZ h h := ⟨Nat.le_refl _, fun _ _ _ => rfl, fun _ _ e => e⟩
theorem FZ_tr {h h1 h2 : AHp} (a : FZ h h1) (b : FZ h1 h2) : FZ h h2 := ⟨Nat.le_trans a.1 b.1, fun p hp hf => by
  have e := a.2.1 p hp hf
  rw [← e] at hf
  exact (b.2.1 p (Nat.lt_of_lt_of_le hp a.1) hf).trans e, fun p hp hc => b.2.2 p (Nat.lt_of_lt_of_le hp a.1) (a.2.2 p hp hc)⟩
theorem FZ_set {h : AHp} {q : Nat} {c : va_E} (hq : ¬ fz (h.1 q) ∧ (cls (h.1 q) = 12 → cls c = 12)) : FZ h (hset h q c) := ⟨Nat.le_refl _, fun p _ hf => by
  rw [hset_at, if_neg]
  intro e
  subst e
  exact hq.1 hf, fun p _ hc => by
  rw [hset_at]
  split
  · next e => subst e; exact hq.2 hc
  · exact hc⟩
theorem FZ_new {h : AHp} {c : va_E} {k : Nat} : FZ h (hnew h c k) := ⟨Nat.le_succ _, fun p hp _ => by
  rw [hnew_at, if_neg (by omega)], fun p hp hc => by
  rw [hnew_at, if_neg (by omega)]
  exact hc⟩
def outH (o : (Nat × List Value × List Value × AHp) ⊕ (Option Value × AHp) ⊕ (Nat × List Value × Nat × List Value × List Value × AHp)) : AHp := match o with
  | .inl x => x.2.2.2
  | .inr (.inl x) => x.2
  | .inr (.inr x) => x.2.2.2.2.2
theorem go_fz {h g : AHp} {pc : Nat} {ls st : List Value} {o} (hs : goOn pc ls st g = some o) (hf : FZ h g) : FZ h (outH o) := by
  cases hs
  exact hf
theorem cl_lt {ci : Nat} {r : vw_C} (e : clA[ci]? = some r) : ci < 13 := (List.getElem?_eq_some_iff.mp e).1
theorem fPut_fz {m : Nat} {c c' : va_E} {info : List (Nat × Nat)} {v : Value} (e : fPut m c info v = some c') : ¬ fz c ∧ (cls c = 12 → cls c' = 12) := by
  unfold fPut at e
  split at e
  · next o =>
    split at e
    · next k hk =>
      split at e
      · next hc =>
        have hm := hc.2
        unfold fMay at hm
        split at hm
        · next r hr =>
          have := cl_lt hr
          refine ⟨?_, fun h12 => by cases e; exact h12⟩
          rintro (a | a | a)
          · exact absurd a (by show ¬ 97 = 10; decide)
          · exact absurd a (by show ¬ 97 = 11; decide)
          · have a' : o.1 = 13 := a
            omega
        · cases hm
      · cases e
    · cases e
  · cases e
theorem cls_l {x : Nat × Nat × ((Nat → Int32) ⊕ _)} : cls (.inl x) = 99 := rfl
theorem pI_fz {c c' : va_E} {i x : Int32} (e : aPutI c i x = some c') : ¬ fz c ∧ (cls c = 12 → cls c' = 12) := by
  unfold aPutI at e
  split at e
  · next t n f =>
    split at e
    · next hc =>
      refine ⟨?_, fun z => absurd z (by show ¬ 99 = 12; decide)⟩
      rintro (a | a | a)
      · exact absurd (hc.1.symm.trans a) (show ¬ ((0 : Nat) = 10) by decide)
      · exact absurd (hc.1.symm.trans a) (show ¬ ((0 : Nat) = 11) by decide)
      · exact absurd a (by show ¬ 99 = 13; decide)
    · cases e
  · cases e
theorem pB_fz {c c' : va_E} {i x : Int32} (e : aPutB c i x = some c') : ¬ fz c ∧ (cls c = 12 → cls c' = 12) := by
  unfold aPutB at e
  split at e
  · next t n f =>
    have : t = 1 ∨ t = 2 := by
      split at e
      · next hc => exact Or.inl hc.1
      · split at e
        · next hc => exact Or.inr hc.1
        · cases e
    refine ⟨?_, fun z => absurd z (by show ¬ 99 = 12; decide)⟩
    rintro (a | a | a)
    · rcases this with y | y
      · exact absurd (y.symm.trans a) (show ¬ ((1 : Nat) = 10) by decide)
      · exact absurd (y.symm.trans a) (show ¬ ((2 : Nat) = 10) by decide)
    · rcases this with y | y
      · exact absurd (y.symm.trans a) (show ¬ ((1 : Nat) = 11) by decide)
      · exact absurd (y.symm.trans a) (show ¬ ((2 : Nat) = 11) by decide)
    · exact absurd a (by show ¬ 99 = 13; decide)
  · cases e
theorem pQ_fz {c c' : va_E} {i : Int32} {v : Nat} (e : aPutQ c i v = some c') : ¬ fz c ∧ (cls c = 12 → cls c' = 12) := by
  unfold aPutQ at e
  split at e
  · next t n f =>
    refine ⟨?_, fun z => absurd z (by show ¬ 99 = 12; decide)⟩
    rintro (a | a | a)
    · exact absurd a (by show ¬ 98 = 10; decide)
    · exact absurd a (by show ¬ 98 = 11; decide)
    · exact absurd a (by show ¬ 99 = 13; decide)
  · cases e
theorem cp_fz {s t c' : va_E} {sp dp n : Int32} (e : copyC s t sp dp n = some c') : ¬ fz t ∧ (cls t = 12 → cls c' = 12) := by
  unfold copyC at e
  split at e
  · next t1 n1 f t2 n2 g =>
    split at e
    · next hc =>
      refine ⟨?_, fun z => absurd z (by show ¬ 99 = 12; decide)⟩
      rintro (a | a | a)
      · have y := hc.2.1
        rw [hc.1.trans a] at y
        exact absurd y (show ¬ ((10 : Nat) < 2) by decide)
      · have y := hc.2.1
        rw [hc.1.trans a] at y
        exact absurd y (show ¬ ((11 : Nat) < 2) by decide)
      · exact absurd a (by show ¬ 99 = 13; decide)
    · cases e
  · cases e
theorem stpI_fz {m pc : Nat} {ins : Instr} {len : Nat} {info : List (Nat × Nat)} {ls st : List Value} {h : AHp} {o} (hs : stpI m pc ins len info ls st h = some o) : FZ h (outH o) := by
  cases ins
  all_goals first
    | (simp only [stpI] at hs; cases hs; done)
    | (simp only [stpI, loadI, loadA, storeI, storeA, opI1, opI2, opD2, br1, br2, inS, inV, inP, ends, calls] at hs
       repeat' split at hs
       all_goals first
         | (cases hs; done)
         | (cases hs; exact FZ_rf)
         | exact go_fz hs FZ_rf
         | exact go_fz hs FZ_new
         | (next e => exact go_fz hs (FZ_set (fPut_fz e)))
         | (next e => exact go_fz hs (FZ_set (pI_fz e)))
         | (next e => exact go_fz hs (FZ_set (pB_fz e)))
         | (next e => exact go_fz hs (FZ_set (pQ_fz e)))
         | (next e _ => exact go_fz hs (FZ_set (cp_fz e))))
theorem run_fz : ∀ (n d m pc : Nat) (ls st : List Value) (h : AHp) (r : Option Value × AHp), run n d m pc ls st h = some r → FZ h r.2 := by
  intro n
  induction n with
  | zero => intro d m pc ls st h r e; cases e
  | succ n ih =>
    intro d m pc ls st h r e
    cases hs : stp m pc ls st h with
    | none => rw [run, hs] at e; cases e
    | some o =>
      have hf : FZ h (outH o) := by
        unfold stp at hs
        split at hs
        · exact stpI_fz hs
        · cases hs
      rw [run, hs] at e
      rcases o with ⟨pc', ls', st', h'⟩ | q | ⟨c, as, pc', ls', st', h'⟩
      · exact FZ_tr hf (ih _ _ _ _ _ _ _ e)
      · cases e; exact hf
      · cases d with
        | zero => cases e
        | succ d =>
          simp only at e
          cases h2 : run n d c 0 (padL c as) [] h' with
          | none => rw [h2] at e; cases e
          | some r2 =>
            rw [h2] at e
            exact FZ_tr hf (FZ_tr (ih _ _ _ _ _ _ _ h2) (ih _ _ _ _ _ _ _ e))
theorem Rf_fz {d m pc : Nat} {ls st : List Value} {h : AHp} {r : Option Value × AHp} (e : Rf d m pc ls st h = some r) : FZ h r.2 := by
  obtain ⟨n, hn⟩ := Rf_ex e
  exact run_fz n d m pc ls st h r hn
