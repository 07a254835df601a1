def Pm (b : Nat) (ro : Nat → Nat) (D : va_G) (tyC : Nat → Nat) (L : Nat) (xs : Nat → Int32) (h : AHp) (as : List Value) : Array Value → State → Prop := va_Pc (as.map (cvV (adr b ro))) (fun U => Ev b ro D tyC L xs U ∧ Cn b ro D tyC L xs h U.heap)
def Qm (b : Nat) (ro : Nat → Nat) (D : va_G) (tyC : Nat → Nat) (L : Nat) (xs : Nat → Int32) (r : Option Value × AHp) : Array Value → State → Outcome → State → Prop := fun _ st o t => o = .returned (r.1.map (cvV (adr b ro))) ∧ Cn b ro D tyC L xs r.2 t.heap ∧ va_F (fun q : Nat => b ≤ q) st t
def rmD (d : Nat) (h h' : AHp) : Room := { frames := d + 1, cells := h'.2.1 - h.2.1, slots := h'.2.2 - h.2.2, locals := 64 * (d + 1) }
def wsD (c : Nat) : List Cond := codeW c :: lwG
/-- the end of a method -/
def endW (M pc : Nat) (st : List Value) (v : Option Value) : Prop :=
  (decode (mB M) pc = .ok (.ireturn, 1) ∧ ∃ x, st = [.int x] ∧ v = some (.int x) ∧ retI (mH M).2.2.1 x = true) ∨
  (decode (mB M) pc = .ok (.areturn, 1) ∧ ∃ x, st = [.ref x] ∧ v = some (.ref x) ∧ retA (mH M).2.2.1 = true) ∨
  (decode (mB M) pc = .ok (.return_, 1) ∧ st = [] ∧ v = none ∧ (mH M).2.2.1.isNone = true)
def SimAt (l : Launch) (n : Nat) : Prop := ∀ (d M pc : Nat) (lsA stA : List Value) (h : AHp) (r : Option Value × AHp), run n d M pc lsA stA h = some r → lsA.length = (mH M).2.1 →
  ∀ (b : Nat) (ro : Nat → Nat) (D : va_G) (tyC : Nat → Nat) (L : Nat) (xs : Nat → Int32) (p : Program) (e : Env) (R : Room) (s : State) (m : MethodId) (args : Array Value) (below : List Frame) (meth : Method) (c : Code) (H : Heap) (locs : List Loc) (ls : Array Slot) (cells slots : Nat) (Q : State → Prop),
  Fr p s m args meth c b ro D tyC L xs M → Cn b ro D tyC L xs h H → va_S (fun q : Nat => b ≤ q) s.heap H locs → LR (adr b ro) lsA ls → s.heap.size + cells = H.size → cells + (r.2.2.1 - h.2.1) ≤ R.cells → slots + (r.2.2.2 - h.2.2) ≤ R.slots → d + 1 ≤ R.frames → 64 * (d + 1) ≤ R.locals →
  (∀ (pc' : Nat) (st' : List Value) (ls' : Array Slot) (H' : Heap) (locs' : List Loc), endW M pc' st' r.1 → Cn b ro D tyC L xs r.2 H' → va_S (fun q : Nat => b ≤ q) s.heap H' locs' → W p l e R s m args below meth c H' locs' (cells + (r.2.2.1 - h.2.1)) (slots + (r.2.2.2 - h.2.2)) Q (F0 m pc' ls' (st'.map (cvV (adr b ro))))) →
  W p l e R s m args below meth c H locs cells slots Q (F0 m pc ls (stA.map (cvV (adr b ro))))
section SIM6
variable {l : Launch} {b : Nat} {ro : Nat → Nat} {D : va_G} {tyC : Nat → Nat} {L : Nat} {xs : Nat → Int32}
/-- what a method's run says of the method -/
theorem met_of {n d c : Nat} {as : List Value} {h : AHp} {r : Option Value × AHp} (hn : SimAt l n) (hr : run n d c 0 (padL c as) [] h = some r) (hv : as.all isV = true) (hl : as.length ≤ (mH c).2.1) (hc : c < 217) :
    Met l (mH c).1 (wsD c) (rmD d h r.2) (Pm b ro D tyC L xs h as) (Qm b ro D tyC L xs r) (r.2.2.1 - h.2.1) (r.2.2.2 - h.2.2) (fun q : Nat => b ≤ q) := by
  refine va_MetF (cc := mB c) (maxL := (mH c).2.1) (ret := (mH c).2.2.1) (plainA c (by omega)) rfl ?_
  intro p e s m args below meth cd0 s₁ B hml hP
  obtain ⟨rfl, hE, hC⟩ := hP
  have hx := B.exec
  have hb := B.bytes
  have hrt := B.returns
  have hts := atoms_spec (ws := wsD c) B.pre
  have hown : s.vm.findClass (mH c).1.cls = some m.cls := findClass_of_methodNamed B.named
  have hlocks := B.notSynchronized
  have hin : meth.name = (mH c).1.name := (name_of_methodNamed B.named B.method).1
  have hS : va_S (fun q : Nat => b ≤ q) s.heap s.heap [] := va_S.rf
  rw [lg_entry_eq]
  refine hn d c 0 (padL c as) [] h r hr (padL_len hl) b ro D tyC L xs p e (rmD d h r.2) s m _ below meth cd0 s.heap [] _ 0 0 _ ⟨hx, hb, hml, hown, fun _ => hin, fun w hw => hts w (List.mem_cons_of_mem _ hw), hE⟩ hC hS (LR_entry hv hl) rfl (by show 0 + _ ≤ r.2.2.1 - h.2.1; omega) (by show 0 + _ ≤ r.2.2.2 - h.2.2; omega) (Nat.le_refl _) (Nat.le_refl _) ?_
  intro pc' st' ls' H' locs' hw hC' hS'
  rw [Nat.zero_add, Nat.zero_add]
  rcases hw with ⟨hd, x, rfl, hx1, hx2⟩ | ⟨hd, x, rfl, hx1, hx2⟩ | ⟨hd, rfl, hx1, hx2⟩
  · cases hty : (mH c).2.2.1 with
    | none => rw [hty] at hx2; cases hx2
    | some ty =>
      rw [hty] at hrt hx2
      exact W.zret hx hb hrt (of_decide_eq_true hx2) (fun t ht hW => ⟨by rw [hx1]; rfl, by rw [ht]; exact hC', hS'.F ht⟩) hS'.2.2 hd
  · cases hty : (mH c).2.2.1 with
    | none => rw [hty] at hx2; cases hx2
    | some ty =>
      rw [hty] at hrt hx2
      have hob : (∃ n, ty = .object n) ∨ ∃ t, ty = .array t := by
        unfold retA at hx2
        split at hx2
        · next z => cases z; exact Or.inl ⟨_, rfl⟩
        · next z => cases z; exact Or.inr ⟨_, rfl⟩
        · cases hx2
      exact W.aret hx hb hrt hob (Or.inr ⟨_, rfl⟩) (fun t ht hW => ⟨by rw [hx1]; rfl, by rw [ht]; exact hC', hS'.F ht⟩) hS'.2.2 hd
  · cases hty : (mH c).2.2.1 with
    | some ty => rw [hty] at hx2; cases hx2
    | none =>
      rw [hty] at hrt
      exact W.vret hx hb hrt (fun t ht hW => ⟨by rw [hx1]; rfl, by rw [ht]; exact hC', hS'.F ht⟩) hS'.2.2 hd
theorem Pm_blind {h : AHp} {as : List Value} : FrameBlind (Pm b ro D tyC L xs h as) := by
  intro a U g mk hp
  obtain ⟨h1, h2, h3⟩ := hp
  exact ⟨h1, Ev.move h2 va_S.rf rfl (State.WarmedH.refl U), h3⟩
theorem Pm_in {s : State} {H : Heap} {locs : List Loc} {h : AHp} {as : List Value} (hE : Ev b ro D tyC L xs s) (hC : Cn b ro D tyC L xs h H) (hS : va_S (fun q : Nat => b ≤ q) s.heap H locs) : PreS s H (Pm b ro D tyC L xs h as) (as.map (cvV (adr b ro))) :=
  ⟨Pm_blind, fun U hU hW => ⟨rfl, Ev.move hE hS hU hW, by rw [hU]; exact hC⟩⟩
variable {p : Program} {e : Env} {R : Room} {s : State} {m : MethodId} {args : Array Value} {below : List Frame} {meth : Method} {c : Code} {H : Heap} {locs : List Loc} {cells slots : Nat} {Q : State → Prop}
/-- behind a call -/
theorem call_go {pc : Nat} {ls : Array Slot} {st0 rest : List Value} {mc ms : Nat} {a : Array Value} {r : Option Value × AHp} (hr : va_Run p l e R s m args below meth c H locs cells slots mc ms (F0 m pc ls st0) rest (Qm b ro D tyC L xs r a) (fun q : Nat => b ≤ q)) (hS : va_S (fun q : Nat => b ≤ q) s.heap H locs)
    (kk : ∀ (H1 : Heap) (locs1 : List Loc), Cn b ro D tyC L xs r.2 H1 → va_S (fun q : Nat => b ≤ q) s.heap H1 locs1 → W p l e R s m args below meth c H1 locs1 (cells + mc) (slots + ms) Q (F0 m (pc + 3) ls ((r.1.map (cvV (adr b ro))).toList ++ rest))) : W p l e R s m args below meth c H locs cells slots Q (F0 m pc ls st0) := by
  intro T hT X
  obtain ⟨v, st₀, t, T', L', h0, X', hL, e1, e2, ⟨hv, hC, hz, hk⟩, st⟩ := hr T hT X
  cases hv
  rw [h0] at hz hk
  obtain ⟨t2, a1, b1⟩ := kk T'.heap (locs ++ L') (by rw [e1]; exact hC)
    ⟨Nat.le_trans hS.1 (by rw [e1]; exact hz), fun q h1 h2 => by rw [e1, hk q (Nat.lt_of_lt_of_le h1 hS.1) h2]; exact hS.2.1 q h1 h2, fun q hq => by
      rcases List.mem_append.mp hq with h | h
      · exact hS.2.2 q h
      · exact hL q h⟩ T' rfl X'
  exact ⟨t2, st t2 a1, b1⟩
/-- the receiver of a call -/
theorem recvA {h : AHp} {a ci : Nat} (hE : Ev b ro D tyC L xs s) (hC : Cn b ro D tyC L xs h H) (hS : va_S (fun q : Nat => b ≤ q) s.heap H locs) (hc : cls (h.1 a) = ci) (hci : ci < 14) : (∃ cell : Cell, H[adr b ro a]? = some cell ∧ cell.vm.isStatics = false ∧ s.vm.findClass (nmC ci) = some cell.cls) ∧ (ci < 13 → ∃ cC, ClassAt s (nmC ci) cC) := by
  cases ho : h.1 a with
  | inl x => rw [ho] at hc; simp only [cls] at hc; omega
  | inr o =>
    obtain ⟨ci', fs⟩ := o
    rw [ho] at hc
    simp only [cls] at hc
    subst hc
    rcases hC.obj ho with ⟨h1, h2, h3, h4⟩ | ⟨h1, h2, h3⟩
    · cases hr : clA[ci']? with
      | none => rw [List.getElem?_eq_none_iff] at hr; simp [clA] at hr; omega
      | some q =>
        have hn : nmC ci' = q.1 := by unfold nmC; rw [hr]
        rw [hn]
        exact ⟨va_recv hE.1 hC.1 hr h4, fun _ => ⟨_, (hE.1.1 ci' _ hr).2⟩⟩
    · have hn : nmC ci' = "java/lang/String" := by rw [h2]; rfl
      rw [hn]
      refine ⟨?_, fun z => by omega⟩
      rw [adr_lo (by omega)]
      exact va_Orecv (hE.2.1 a h1).1 hS
end SIM6
