/-! THE START: what the Statement gives there is what the plain machine's cells need. -/
def h0A (L : Nat) (xs : Nat → Int32) : AHp := (roC L xs, 32, 0)
def strT (i : Nat) : Term := match strA[i]? with
  | some q => .string q.1 q.2.1
  | none => .string "" 0
def strV (i : Nat) : Term := .field (strT i) "java/lang/String" "value" "[B"
def flat0 : List Cond := flatC (Jvm.Cond.and given_1 narrow_1)
theorem fl_x : (List.range 15).all (fun i => decide (Cond.exactly (strT i) "java/lang/String" ∈ flat0) && decide (Cond.eq (.field (strT i) "java/lang/String" "coder" "B") (.int 0) ∈ flat0) && decide (Cond.arrayOf (strV i) .byte ∈ flat0) && decide (Cond.eq (.length (strV i)) (.int (Int32.ofNat (sby i).length)) ∈ flat0) && decide ((sby i).length < 100)) = true := by decide +kernel
theorem fl_b : (List.range 15).all (fun i => (List.range (sby i).length).all (fun j => decide (Cond.eq (.elem (strV i) (.int (Int32.ofNat j))) (.int ((sby i).getD j 0)) ∈ flat0))) = true := by decide +kernel
theorem fl_r : (List.range 15).all (fun i => match strA[i]? with
  | some q => decide (Cond.stringRef q.1 q.2.1 q.2.2.1 ∈ lw_tbl)
  | none => false) = true := by decide +kernel
theorem fl_y : castY.all (fun q => decide (Cond.castable q.1 q.2 ∈ lw_tbl)) = true := by decide +kernel
theorem fl_n : castN.all (fun q => decide (Cond.not (Cond.castable q.1 q.2) ∈ flat0)) = true := by decide +kernel
theorem fl_m : nestA.all (fun q => decide (Cond.methodLinkNest q.1 q.2.1 q.2.2.1 q.2.2.2 ∈ lw_tbl)) = true := by decide +kernel
theorem fl_i : clA.all (fun q => decide (Cond.instantiable q.1 q.2.2 ∈ lw_tbl)) = true := by decide +kernel
theorem fl_s : decide (Cond.laysStatic "java/lang/String" "COMPACT_STRINGS" "Z" ∈ lw_tbl) && decide (Cond.laysStatic "jdk/internal/util/Preconditions" "SIOOBE_FORMATTER" "Ljava/util/function/BiFunction;" ∈ lw_tbl) && decide (Cond.initialized "java/lang/String" ∈ lw_tbl) && decide (Cond.initialized "jdk/internal/util/Preconditions" ∈ lw_tbl) && decide (Cond.arrayClass .int ∈ lw_tbl) && decide (Cond.arrayClass .byte ∈ lw_tbl) && decide (Cond.arrayClass .boolean ∈ lw_tbl) && decide (Cond.arrayOver (.object RX4) ∈ lw_tbl) && decide (Cond.eq (.static "java/lang/String" "COMPACT_STRINGS" "Z") (.int 1) ∈ flat0) && decide (Cond.isRef (.static "jdk/internal/util/Preconditions" "SIOOBE_FORMATTER" "Ljava/util/function/BiFunction;") ∈ flat0) = true := by decide +kernel
theorem arr0 {args : Array Value} {s : State} {ty : FieldType} (h : (Cond.arrayClass ty).before args s = true) (ht : ty = .int ∨ ty = .byte ∨ ty = .boolean) : ∃ cA, ArrOfT s cA ty ∧ va_RA s cA ty := by
  obtain ⟨c, k, comp, h1, h2, h3⟩ := Cond.arrayClass_spec h
  refine ⟨c, fun n z => ⟨(fun k h => by cases h), k, h2, comp, h3⟩, ?_⟩
  rcases ht with rfl | rfl | rfl
  · exact h1
  · exact h1
  · exact h1
theorem arr1 {args : Array Value} {s : State} {C : String} (h : (Cond.arrayOver (.object C)).before args s = true) : ∃ cA, ArrOfT s cA (.object C) ∧ va_RA s cA (.object C) := by
  obtain ⟨comp, c, k, h1, -, h2, h3, h4⟩ := Cond.arrayOver_spec h
  exact ⟨c, fun n z => ⟨(fun k h => by cases h), k, h2, comp, h3⟩, k, comp, h2, h3, h1, h4⟩
theorem h0_Cn {b : Nat} {ro : Nat → Nat} {D : va_G} {tyC : Nat → Nat} {L : Nat} {xs : Nat → Int32} {H : Heap} (hb : H.size = b) : Cn b ro D tyC L xs (h0A L xs) H := by
  refine ⟨fun k q h => by simp [conc, h0A] at h, hb, Nat.le_refl 32, fun p hp => ?_, fun p h1 h2 => ?_, fun p hp => rfl⟩
  · have hp' : 32 ≤ p := hp
    show roC L xs p = noC
    unfold roC
    rw [if_neg (by omega), if_neg (by omega), if_neg (by omega)]
  · have : p < 32 := h2
    omega
theorem ev0 {p : Program} {s : State} {m : MethodId} {meth : Method} {c : Code} {b L : Nat} {xs : Nat → Int32} (C0 : lw_At p s m meth c b L xs) : ∃ (ro : Nat → Nat) (D : va_G) (tyC : Nat → Nat), ro 31 = b ∧ Ev s.heap.size ro D tyC L xs s := by
  obtain ⟨hx, hb, hr, hml, hown, hts, hX, hbl, hlocks, hgv⟩ := C0
  have hfl : ∀ c ∈ flat0, c.before #[Value.ref b] s = true := flat_of_before _ hgv
  have hA : ∀ a : Nat, a < s.heap.size → ¬ (fun q : Nat => s.heap.size ≤ q) a := fun a h => Nat.not_le.mpr h
  have hs := fl_s
  simp only [Bool.and_eq_true, decide_eq_true_eq] at hs
  obtain ⟨⟨⟨⟨⟨⟨⟨⟨⟨s1, s2⟩, s3⟩, s4⟩, s5⟩, s6⟩, s7⟩, s8⟩, s9⟩, s10⟩ := hs
  have hk : ∀ i : Nat, ∃ q : ClassId × (Nat → Nat), ∀ r, clA[i]? = some r → u_Kn s r.1 r.2.1 r.2.2 q.1 q.2 := by
    intro i
    cases hr : clA[i]? with
    | none => exact ⟨(0, fun _ => 0), fun r h => by cases h⟩
    | some r =>
      obtain ⟨cC, iS, h⟩ := u_known (C := r.1) (T := r.2.1) (N := r.2.2) (n := r.2.2) (ws := lwG) (fun w hw => hts w (lwG_good hw).1) (uw_all i r hr) (hts _ (of_decide_eq_true (List.all_eq_true.mp fl_i _ (List.mem_of_getElem? hr))))
      exact ⟨(cC, iS), fun r' h' => by cases h'; exact h⟩
  obtain ⟨DD, hD⟩ := Classical.axiomOfChoice hk
  have hstr : ∀ i : Nat, ∃ q : Nat × Nat, i < 15 → va_O "java/lang/String" q.1 (fun q : Nat => s.heap.size ≤ q) s s.heap ∧ va_OF "java/lang/String" "value" "[B" (.ref q.2) q.1 (fun q : Nat => s.heap.size ≤ q) s s.heap ∧ va_OF "java/lang/String" "coder" "B" (.int 0) q.1 (fun q : Nat => s.heap.size ≤ q) s s.heap ∧ va_T .byte q.2 (sby i).length (fun j => .int ((sby i).getD j 0)) (fun q : Nat => s.heap.size ≤ q) s s.heap ∧ (strT i).eval #[Value.ref b] s none [] s = some (.ref q.1) := by
    intro i
    by_cases hi : i < 15
    · have h1 := List.all_eq_true.mp fl_x i (List.mem_range.mpr hi)
      simp only [Bool.and_eq_true, decide_eq_true_eq] at h1
      obtain ⟨⟨⟨⟨e1, e2⟩, e3⟩, e4⟩, e5⟩ := h1
      have h2 := List.all_eq_true.mp fl_b i (List.mem_range.mpr hi)
      obtain ⟨a, cc, cA, kA, q1, q2⟩ := Cond.exactly_spec (args := #[Value.ref b]) (first := s) (o := none) (s := s) (idx := []) (t := strT i) (cls := "java/lang/String") (hfl _ e1)
      obtain ⟨t, ht, hT⟩ := va_Tof (tm := strV i) (f := fun j => .int ((sby i).getD j 0)) (A := fun q : Nat => s.heap.size ≤ q) (by omega) (hfl _ e3) (va_eqt (hfl _ e4)) (fun j hj => va_eqt (hfl _ (of_decide_eq_true (List.all_eq_true.mp h2 j (List.mem_range.mpr hj))))) hA
      exact ⟨(a, t), fun _ => ⟨va_Oof (hfl _ e1) q1 hA, vk_OFof q1 ht hA, vk_OFof q1 (va_eqt (hfl _ e2)) hA, hT, q1⟩⟩
    · exact ⟨(0, 0), fun h => absurd h hi⟩
  obtain ⟨ad, had⟩ := Classical.axiomOfChoice hstr
  obtain ⟨fm, hfm⟩ : ∃ fm, (Term.static "jdk/internal/util/Preconditions" "SIOOBE_FORMATTER" "Ljava/util/function/BiFunction;").eval #[Value.ref b] s none [] s = some (fmO fm) := by
    have h1 := hfl _ s10
    simp only [Cond.before, Cond.holds, Cond.value] at h1
    cases hv : (Term.static "jdk/internal/util/Preconditions" "SIOOBE_FORMATTER" "Ljava/util/function/BiFunction;").eval #[Value.ref b] s none [] s with
    | none => simp [hv] at h1
    | some w =>
      cases w with
      | ref a => exact ⟨a + 1, rfl⟩
      | null => exact ⟨0, rfl⟩
      | _ => simp [hv] at h1
  obtain ⟨c0, t0, r0⟩ := arr0 (hts _ s5) (Or.inl rfl)
  obtain ⟨c1, t1, r1⟩ := arr0 (hts _ s6) (Or.inr (Or.inl rfl))
  obtain ⟨c2, t2, r2⟩ := arr0 (hts _ s7) (Or.inr (Or.inr rfl))
  obtain ⟨c3, t3, r3⟩ := arr1 (hts _ s8)
  refine ⟨fun p => if p < 15 then (ad p).1 else if p < 30 then (ad (p - 15)).2 else if p = 30 then fm else b, (fun i => (DD i).1, fun i => (DD i).2), fun t => if t = 0 then c0 else if t = 1 then c1 else if t = 2 then c2 else c3, rfl, ⟨fun i r h => hD i r h, fun k q hq => ?_⟩, fun i hi => ?_, fun i q hq => ?_, va_Zof (hts _ s1) (hts _ s3) (va_eqi (hfl _ s9)) hA, va_Zof (hts _ s2) (hts _ s4) hfm hA, ⟨hX, hbl, hbl⟩, fun q hq => va_Nw.of rfl (hts _ (of_decide_eq_true (List.all_eq_true.mp fl_y q hq))), fun q hq => va_Nc.of (hfl _ (of_decide_eq_true (List.all_eq_true.mp fl_n q hq))), fun q hq => va_Nw.of rfl (hts _ (of_decide_eq_true (List.all_eq_true.mp fl_m q hq))), va_AO.of (hts _ s8), Nat.le_refl _⟩
  · match k, hq with
    | 0, hq => cases hq; exact ⟨t0, r0⟩
    | 1, hq => cases hq; exact ⟨t1, r1⟩
    | 2, hq => cases hq; exact ⟨t2, r2⟩
    | 3, hq => cases hq; exact ⟨t3, r3⟩
    | k + 4, hq => simp [tysA] at hq
  · obtain ⟨g1, g2, g3, g4, -⟩ := had i hi
    have e1 : (fun p : Nat => if p < 15 then (ad p).1 else if p < 30 then (ad (p - 15)).2 else if p = 30 then fm else b) i = (ad i).1 := by simp only; rw [if_pos hi]
    have e2 : (fun p : Nat => if p < 15 then (ad p).1 else if p < 30 then (ad (p - 15)).2 else if p = 30 then fm else b) (15 + i) = (ad i).2 := by
      simp only
      rw [if_neg (by omega), if_pos (by omega), Nat.add_sub_cancel_left]
    rw [e1, e2]
    exact ⟨g1, g2, g3, g4⟩
  · have hi : i < 15 := (List.getElem?_eq_some_iff.mp hq).1
    obtain ⟨-, -, -, -, g5⟩ := had i hi
    have e1 : (fun p : Nat => if p < 15 then (ad p).1 else if p < 30 then (ad (p - 15)).2 else if p = 30 then fm else b) i = (ad i).1 := by simp only; rw [if_pos hi]
    rw [e1]
    have h1 := List.all_eq_true.mp fl_r i (List.mem_range.mpr hi)
    simp only [hq, decide_eq_true_eq] at h1
    refine vk_R.of (hts _ h1) ?_
    unfold strT at g5
    rw [hq] at g5
    exact g5
