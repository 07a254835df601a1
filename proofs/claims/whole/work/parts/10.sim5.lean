/-! CALLS of the plain machine, and the whole run. -/
theorem popA_spec : ∀ (n : Nat) (st as r : List Value), popA n st = some (as, r) → st = as.reverse ++ r ∧ as.length = n := by
  intro n
  induction n with
  | zero =>
    intro st as r h
    cases h
    exact ⟨rfl, rfl⟩
  | succ n ih =>
    intro st as r h
    cases st with
    | nil => cases h
    | cons v st =>
      unfold popA at h
      split at h
      · next as1 r1 h1 =>
        obtain ⟨e1, e2⟩ := ih _ _ _ h1
        cases h
        rw [e1]
        exact ⟨by simp, by simp [e2]⟩
      · cases h
theorem inS_call {info : List (Nat × Nat)} {pc pc' c : Nat} {ls st ls' st' as : List Value} {h h' : AHp} (e : inS info pc ls st h = calls c as pc' ls' st' h') : ∃ k, info = [(k, c)] ∧ k ≠ 1000 ∧ popA (mH c).2.2.2 st = some (as, st') ∧ st'.length ≤ 8 ∧ (as ++ st').all isV = true ∧ pc' = pc ∧ ls' = ls ∧ h' = h := by
  unfold inS at e
  split at e
  · next k c1 =>
    split at e
    · split at e
      · split at e
        · split at e <;> cases e
        · cases e
      · cases e
    · next hk =>
      split at e
      · next as1 r1 hp =>
        split at e
        · next hc =>
          cases e
          exact ⟨k, rfl, hk, hp, hc.1, hc.2, rfl, rfl, rfl⟩
        · cases e
      · cases e
  · cases e
theorem inV_call {info : List (Nat × Nat)} {pc pc' c : Nat} {ls st ls' st' as : List Value} {h h' : AHp} (e : inV info pc ls st h = calls c as pc' ls' st' h') : ∃ k0 c0 rest a as0, info = (k0, c0) :: rest ∧ popA ((mH c0).2.2.2 + 1) st = some (as, st') ∧ as = .ref a :: as0 ∧ fIx info (cls (h.1 a)) = some c ∧ st'.length ≤ 8 ∧ (as ++ st').all isV = true ∧ pc' = pc ∧ ls' = ls ∧ h' = h := by
  unfold inV at e
  split at e
  · cases e
  · next k0 c0 rest =>
    split at e
    · next a as0 r1 hp =>
      split at e
      · next c1 hf =>
        split at e
        · next hc =>
          cases e
          exact ⟨k0, c0, rest, a, as0, rfl, hp, rfl, hf, hc.1, hc.2, rfl, rfl, rfl⟩
        · cases e
      · cases e
    · cases e
theorem inP_call {info : List (Nat × Nat)} {pc pc' c : Nat} {ls st ls' st' as : List Value} {h h' : AHp} (e : inP info pc ls st h = calls c as pc' ls' st' h') : ∃ k a as0, info = [(k, c)] ∧ k ≠ 1001 ∧ popA ((mH c).2.2.2 + 1) st = some (as, st') ∧ as = .ref a :: as0 ∧ cls (h.1 a) < 13 ∧ st'.length ≤ 8 ∧ (as ++ st').all isV = true ∧ pc' = pc ∧ ls' = ls ∧ h' = h := by
  unfold inP at e
  split at e
  · next k c1 =>
    split at e
    · split at e
      · split at e <;> cases e
      · cases e
    · next hk =>
      split at e
      · next a as0 r1 hp =>
        split at e
        · next hc =>
          cases e
          exact ⟨k, a, as0, rfl, hk, hp, rfl, hc.2.1, hc.1, hc.2.2, rfl, rfl, rfl⟩
        · cases e
      · cases e
  · cases e
theorem calls_inv {M pc c pc' : Nat} {ins : Instr} {len : Nat} {info : List (Nat × Nat)} {ls st ls' st' as : List Value} {h h' : AHp} (hs : stpI M pc ins len info ls st h = calls c as pc' ls' st' h') : (∃ i, ins = .invokestatic i ∧ inS info (pc + 3) ls st h = calls c as pc' ls' st' h') ∨ (∃ i, ins = .invokevirtual i ∧ inV info (pc + 3) ls st h = calls c as pc' ls' st' h') ∨ (∃ i, ins = .invokespecial i ∧ inP info (pc + 3) ls st h = calls c as pc' ls' st' h') := by
  cases ins with
  | invokestatic i => exact Or.inl ⟨i, rfl, hs⟩
  | invokevirtual i => exact Or.inr (Or.inl ⟨i, rfl, hs⟩)
  | invokespecial i => exact Or.inr (Or.inr ⟨i, rfl, hs⟩)
  | _ =>
    exfalso
    simp only [stpI, loadI, loadA, storeI, storeA, opI1, opI2, opD2, br1, br2] at hs
    first
      | (cases hs; done)
      | (repeat' split at hs
         all_goals cases hs)
theorem ends_inv {M pc : Nat} {ins : Instr} {len : Nat} {info : List (Nat × Nat)} {ls st : List Value} {h h' : AHp} {v : Option Value} (hs : stpI M pc ins len info ls st h = ends v h') : h' = h ∧ ((ins = .ireturn ∧ ∃ x, st = [.int x] ∧ v = some (.int x) ∧ retI (mH M).2.2.1 x = true) ∨ (ins = .areturn ∧ ∃ x, st = [.ref x] ∧ v = some (.ref x) ∧ retA (mH M).2.2.1 = true) ∨ (ins = .return_ ∧ st = [] ∧ v = none ∧ (mH M).2.2.1.isNone = true)) := by
  cases ins with
  | ireturn =>
    simp only [stpI] at hs
    split at hs
    · next x =>
      split at hs
      · next hc => cases hs; exact ⟨rfl, Or.inl ⟨rfl, x, rfl, rfl, hc⟩⟩
      · cases hs
    · cases hs
  | areturn =>
    simp only [stpI] at hs
    split at hs
    · next x =>
      split at hs
      · next hc => cases hs; exact ⟨rfl, Or.inr (Or.inl ⟨rfl, x, rfl, rfl, hc⟩)⟩
      · cases hs
    · cases hs
  | return_ =>
    simp only [stpI] at hs
    split at hs
    · split at hs
      · next hc => cases hs; exact ⟨rfl, Or.inr (Or.inr ⟨rfl, rfl, rfl, hc⟩)⟩
      · cases hs
    · cases hs
  | _ =>
    exfalso
    simp only [stpI, loadI, loadA, storeI, storeA, opI1, opI2, opD2, br1, br2, inS, inV, inP] at hs
    first
      | (cases hs; done)
      | (repeat' split at hs
         all_goals cases hs)
theorem goodG {ws : List Cond} (h : ∀ w ∈ ws, w ∈ lwG) : GoodIn lwG ws := by
  intro w hw
  refine ⟨h w hw, ?_⟩
  have h1 := (lwG_good (h w hw)).2
  unfold goodWord at h1
  split at h1
  · exact Or.inr ⟨_, rfl⟩
  · exact Or.inl h1
/-- no call without code but the one of an array's clone() -/
theorem no1002 : cdA.all (fun l => l.all (fun e => match e.2.1 with
  | .invokestatic _ | .invokespecial _ => e.2.2.2.all (fun q => !(q.1 == 1002))
  | _ => true)) = true := by decide +kernel
theorem cd_mem {m pc : Nat} {e : En} (h : cd m pc = some e) : ∃ l ∈ cdA, e ∈ l := by
  have hm := cd_lt h
  unfold cd at h
  have he : e ∈ cdA.getD m [] := List.mem_of_find?_eq_some h
  rw [List.getD_eq_getElem?_getD] at he
  cases hq : cdA[m]? with
  | none => rw [hq] at he; cases he
  | some l => rw [hq] at he; exact ⟨l, List.mem_of_getElem? hq, he⟩
def nst1 (m : Nat) : Bool := (cdA.getD m []).all (fun e => match e.2.1 with
  | .invokespecial i => e.2.2.2.all (fun q => !(q.1 == 1006) || decide (((mH m).1.cls, i, (mH q.2).1, RX11) ∈ nestA))
  | _ => true)
theorem nst_all : (List.range 218).all nst1 = true := by decide +kernel
theorem nst_of {m pc i len c : Nat} (h : cd m pc = some (pc, .invokespecial i, len, [(1006, c)])) : ((mH m).1.cls, i, (mH c).1, RX11) ∈ nestA := by
  have h1 := List.all_eq_true.mp nst_all m (List.mem_range.mpr (cd_lt h))
  have he : (pc, Instr.invokespecial i, len, [(1006, c)]) ∈ cdA.getD m [] := by unfold cd at h; exact List.mem_of_find?_eq_some h
  have h2 := List.all_eq_true.mp h1 _ he
  simpa using h2
theorem nmC_ok : ∀ o, o < 14 → nmC o ≠ "java/lang/invoke/MethodHandle" ∧ nmC o ≠ "java/lang/invoke/VarHandle" := by
  intro o ho
  have h : (List.range 14).all (fun o => decide (nmC o ≠ "java/lang/invoke/MethodHandle" ∧ nmC o ≠ "java/lang/invoke/VarHandle")) = true := by decide +kernel
  exact of_decide_eq_true (List.all_eq_true.mp h o (List.mem_range.mpr ho))
theorem lv_args_mem : ∀ (vs : List Value) (k i : Nat) (v : Value), (∀ w ∈ vs, w.category = 1) → vs[i]? = some v → (k + i, v) ∈ lv_args k vs := by
  intro vs
  induction vs with
  | nil => intro k i v _ h; cases h
  | cons w vs ih =>
    intro k i v hc h
    have hw := hc w List.mem_cons_self
    unfold lv_args
    rw [if_neg (by rw [hw]; decide)]
    cases i with
    | zero => cases h; exact List.mem_cons_self
    | succ i =>
      refine List.mem_cons_of_mem _ ?_
      have := ih (k + 1) i v (fun w hw => hc w (List.mem_cons_of_mem _ hw)) h
      rwa [Nat.add_assoc, Nat.add_comm 1 i] at this
theorem lg_sl_len : ∀ (vs : List Value), (∀ w ∈ vs, w.category = 1) → (lg_sl vs).length = vs.length := by
  intro vs
  induction vs with
  | nil => intro _; rfl
  | cons w vs ih =>
    intro hc
    have hw := hc w List.mem_cons_self
    have h1 := ih (fun w hw => hc w (List.mem_cons_of_mem _ hw))
    unfold lg_sl at h1 ⊢
    rw [List.flatMap_cons, if_neg (by rw [hw]; decide), List.length_append, h1]
    simp; omega
theorem all_cat {ad : Nat → Nat} {as : List Value} (h : as.all isV = true) : ∀ w ∈ as.map (cvV ad), w.category = 1 := by
  intro w hw
  obtain ⟨v, hv, rfl⟩ := List.mem_map.mp hw
  exact isV_cat (List.all_eq_true.mp h v hv)
theorem padL_len {c : Nat} {as : List Value} (h : as.length ≤ (mH c).2.1) : (padL c as).length = (mH c).2.1 := by
  unfold padL; simp; omega
theorem LR_entry {ad : Nat → Nat} {c : Nat} {as : List Value} (hv : as.all isV = true) (hl : as.length ≤ (mH c).2.1) : LR ad (padL c as) ((lg_sl (as.map (cvV ad)) ++ List.replicate ((mH c).2.1 - (lg_sl (as.map (cvV ad))).length) Slot.unset).toArray) := by
  have hc := all_cat (ad := ad) hv
  have hn : (lg_sl (as.map (cvV ad))).length ≤ (mH c).2.1 := by rw [lg_sl_len _ hc, List.length_map]; exact hl
  refine ⟨lv_args 0 (as.map (cvV ad)), by rw [padL_len hl]; exact lv_entry _ hn, fun i v hi hv2 => ?_⟩
  have hi2 : as[i]? = some v := by
    unfold padL at hi
    rcases Nat.lt_or_ge i as.length with q | q
    · rwa [List.getElem?_append_left q] at hi
    · rw [List.getElem?_append_right q] at hi
      have := List.mem_of_getElem? hi
      rw [List.mem_replicate] at this
      rw [this.2] at hv2
      cases hv2
  have := lv_args_mem (as.map (cvV ad)) 0 i (cvV ad v) hc (by rw [List.getElem?_map, hi2]; rfl)
  rwa [Nat.zero_add] at this
/-- a run takes no cell away -/
theorem run_mono : ∀ (n d m pc : Nat) (ls st : List Value) (h : AHp) (r : Option Value × AHp), run n d m pc ls st h = some r → h.2.1 ≤ r.2.2.1 ∧ h.2.2 ≤ r.2.2.2 := by
  intro n
  induction n with
  | zero => intro d m pc ls st h r e; cases e
  | succ n ih =>
    intro d m pc ls st h r e
    cases hs : stp m pc ls st h with
    | none => rw [run, hs] at e; cases e
    | some o =>
      have hs0 := hs
      unfold stp at hs0
      split at hs0
      · rw [run, hs] at e
        rcases o with ⟨pc', ls', st', h'⟩ | ⟨v, h'⟩ | ⟨c, as, pc', ls', st', h'⟩
        · have h1 := (step_inv (show _ = goOn pc' ls' st' h' from hs0)).2
          have h2 := ih _ _ _ _ _ _ _ e
          exact ⟨Nat.le_trans h1.1 h2.1, Nat.le_trans h1.2 h2.2⟩
        · have h1 := (ends_inv (show _ = ends v h' from hs0)).1
          cases e
          rw [h1]
          exact ⟨Nat.le_refl _, Nat.le_refl _⟩
        · have hh : h' = h := by
            rcases calls_inv (show _ = calls c as pc' ls' st' h' from hs0) with ⟨i, -, q⟩ | ⟨i, -, q⟩ | ⟨i, -, q⟩
            · obtain ⟨_, _, _, _, _, _, _, _, q⟩ := inS_call q; exact q
            · obtain ⟨_, _, _, _, _, _, _, _, _, _, _, _, _, q⟩ := inV_call q; exact q
            · obtain ⟨_, _, _, _, _, _, _, _, _, _, _, _, q⟩ := inP_call q; exact q
          subst hh
          cases d with
          | zero => cases e
          | succ d =>
            simp only at e
            split at e
            · cases e
            · next r2 h2 =>
              have g1 := ih _ _ _ _ _ _ _ h2
              have g2 := ih _ _ _ _ _ _ _ e
              exact ⟨Nat.le_trans g1.1 g2.1, Nat.le_trans g1.2 g2.2⟩
      · cases hs0
