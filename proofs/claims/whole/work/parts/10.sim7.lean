section SIM7
variable {l : Launch} {b : Nat} {ro : Nat → Nat} {D : va_G} {tyC : Nat → Nat} {L : Nat} {xs : Nat → Int32}
variable {p : Program} {e : Env} {R : Room} {s : State} {m : MethodId} {args : Array Value} {below : List Frame} {meth : Method} {c : Code} {H : Heap} {locs : List Loc} {cells slots : Nat} {Q : State → Prop} {ls : Array Slot}
/-- super.m(..) of a method that the superclass inherits -/
theorem up_callSU {T : State} {locs : List Loc} {cells slots : Nat} (X : Stand p l e R s m args below meth c T locs cells slots) (hexec : p.tables.exec = Jvm.exec) {own sup : String} {index : Nat} {y : MethodName} {bytes : ByteArray} {maxL : Nat} {ret : Option FieldType}
    (hown : s.vm.findClass own = some m.cls) (hlink : (Cond.methodLink own index ⟨sup, y.name, y.desc⟩).before args s = true) (hsame : (Cond.sameMethod sup y.cls y.name y.desc).before args s = true) (hsup : (Cond.superclass own sup).before args s = true) (hsup2 : (Cond.superclass sup y.cls).before args s = true)
    (hinst : (Cond.instanceMethod y).before args s = true) (hcode : (Cond.code y bytes maxL ret).before args s = true) (hno : y.name ≠ "<init>")
    {W : Nat} {Pre : Pt → Array Value → Prop} {Post : Pt → Array Value → Option Value → Pt → Prop} (hK : Back l R p e below s args y 3 W Pre Post)
    {b : Addr} {cellB : Cell} {kB : Class} (hcell : T.heap[b]? = some cellB) (hobj : cellB.vm.isStatics = false) (hkB : s.vm.classes[cellB.cls]? = some kB)
    {g : JFrame} (hg : g.method = m) (hsize : g.locals.size = c.maxLocals) {argsL rest : List Value} (hlen : ∀ sig, parseMethodDescriptor y.desc = some sig → argsL.length = sig.parameters.length)
    (hstack : g.stack = argsL.reverse ++ .ref b :: rest) (hW : 2 * g.monitorRoom + (rest.map fun v => v.category).sum ≤ W) (hdg : decode c.code g.pc = .ok (.invokespecial index, 3))
    (hpre : ∀ vm₁, s.WarmedH vm₁ → Pre ⟨T.setVm vm₁, locs, cells, slots⟩ (Value.ref b :: argsL).toArray) :
    ∃ (v : Option Value) (vm₁ : Vm) (B : Pt), s.WarmedH vm₁ ∧ Stand p l e R s m args below meth c B.U B.locs B.cells B.slots ∧ Post ⟨T.setVm vm₁, locs, cells, slots⟩ (Value.ref b :: argsL).toArray v B ∧
      ∀ target, Steps p.tables e below (B.U.setTop { g with pc := g.pc + 3, stack := v.toList ++ rest }) target → Steps p.tables e below (T.setTop g) target := by
  obtain ⟨mk, methM, hnamed, hmethM, hstM, habM⟩ := Cond.instanceMethod_spec hinst
  obtain ⟨methM', cM, hmethM', -, -, -, -, -, -, hsigM⟩ := Cond.code_spec hnamed hcode
  cases hmethM.symm.trans hmethM'
  obtain ⟨ps, dk, kp, hps, hdk, hkp, hsuper, -, -, hnid⟩ := Cond.superclass_spec hown hsup
  obtain ⟨ps2, dk2, kp2, hps2, hdk2, hkp2, hsuper2, -, -, -⟩ := Cond.superclass_spec hps hsup2
  have hn : s.methodNamed? ⟨y.cls, y.name, y.desc⟩ = some mk := hnamed
  have hpm : ps2 = mk.cls := Option.some.inj (hps2.symm.trans (findClass_of_methodNamed hnamed))
  have hsz : ∃ k, s.vm.classes.size = k + 1 := by
    have := (Array.getElem?_eq_some_iff.mp hdk).1
    exact ⟨s.vm.classes.size - 1, by omega⟩
  obtain ⟨k, hk⟩ := hsz
  have hsub : s.vm.isSubclass ps mk.cls = true := by
    rw [← hpm]
    simp [Vm.isSubclass, hk, Vm.isSubclassAux, hdk2, hsuper2]
  obtain ⟨vm₁, X₁, hstep₁⟩ := X.invokespecialUp hexec hown hlink hsame hn hmethM hstM habM hno hdk hnid hps hsuper hsub (a := b) (cell := cellB) hcell
    (fun z h => by rw [h] at hobj; cases hobj) hkB (g := g) hg (argsL := argsL) (rest := rest) (hlen _ hsigM) hstack hdg
  obtain ⟨v, B, X', hpost, hsteps⟩ := hK m meth c ⟨T.setVm vm₁, locs, cells, slots⟩ { g with stack := rest } (.invokespecial index) mk (Value.ref b :: argsL).toArray X₁ hg hsize hdg hW (X₁.named hnamed) (hpre vm₁ X₁.warmed)
  exact ⟨v, vm₁, B, X₁.warmed, X', hpost, fun target h => hstep₁ _ (by rw [doInvoke_state]; exact hsteps.trans h)⟩
theorem up_runSU {y : MethodName} {bytes cc : ByteArray} {maxL nL mc ms n index : Nat} {ret : Option FieldType} {ws : List Cond} {rm : Room} {Pc : Array Value → State → Prop} {Qc : Array Value → State → Outcome → State → Prop} {free : Addr → Prop} {Ts : List Cond} {own sup C : String} {cC : ClassId} {b : Addr} {As rest : List Value} {g : JFrame}
    (hat : ClassAt s C cC) (S : CallFix p m c cc nL s args Ts own) (hM : Met l y ws rm Pc Qc mc ms free)
    (hrc : rm.cells = mc) (hrs : rm.slots = ms) (hfr : rm.frames + 1 ≤ R.frames) (hlo : 8 + (maxL + 11) + rm.locals ≤ R.locals) (hws : ∀ w ∈ ws, ∀ (a' : Array Value) (U : State), s.WarmedH U.vm → w.before a' U = true) (hcw : Cond.code y bytes maxL ret ∈ ws)
    (hl1 : (Cond.methodLink own index ⟨sup, y.name, y.desc⟩).before args s = true) (hl2 : (Cond.sameMethod sup y.cls y.name y.desc).before args s = true) (hl3 : (Cond.superclass own sup).before args s = true) (hl5 : (Cond.superclass sup y.cls).before args s = true) (hl4 : (Cond.instanceMethod y).before args s = true) (hini : (Cond.initialized y.cls).before args s = true) (hcode : (Cond.code y bytes maxL ret).before args s = true) (hno : y.name ≠ "<init>") (hlen : ∀ sig, parseMethodDescriptor y.desc = some sig → n = sig.parameters.length)
    (hp : PreV s H C b Pc As)
    (hg : g.method = m) (hn : As.length = n) (hsize : g.locals.size = nL) (hstack : g.stack = As.reverse ++ .ref b :: rest) (hW : 2 * g.monitorRoom + (rest.map fun v => v.category).sum ≤ 8) (hdg : decode cc g.pc = .ok (.invokespecial index, 3)) (hf : cells + mc ≤ R.cells ∧ slots + ms ≤ R.slots) :
    va_Run p l e R s m args below meth c H locs cells slots mc ms g rest (Qc (Value.ref b :: As).toArray) (free) := by
  have hK : Back l R p e below s args y 3 8 (PreOf R mc ms Pc) (PostOf Qc mc ms free) := back_of (bytes := bytes) (maxL := maxL) (ret := ret) hM hp.1 hrc hrs hfr hlo hws hcw (fun a' U hW => word_at hW (Or.inl (by first | rfl | simp [Cond.onTables, Cond.keeps, Cond.steady])) hini)
  obtain ⟨hx, hb, hml, ho, -⟩ := S
  obtain ⟨-, ⟨cellB, hcB, hoB, hclB⟩, hPc⟩ := hp
  obtain ⟨hfc, kB, hkB, -⟩ := hat
  cases hfc.symm.trans hclB
  intro T hT X
  obtain ⟨v, vm₁, ⟨U', l2, c2, s2⟩, hW₁, X', ⟨g', mk, t, L, e1, e2, hq, h1, hL, h2, h3⟩, st⟩ := up_callSU X hx (bytes := bytes) (maxL := maxL) (ret := ret) ho hl1 hl2 hl3 hl5 hl4 hcode hno hK (by rw [hT]; exact hcB) hoB hkB hg (hsize.trans hml.symm) (argsL := As) (rest := rest) (fun sig h => hn.trans (hlen sig h)) hstack hW (by rw [hb]; exact hdg)
    (fun vm₁ hW₁ => ⟨hf.1, hf.2, hPc (T.setVm vm₁) hT hW₁⟩)
  dsimp only [Pt.U, Pt.locs, Pt.cells, Pt.slots] at X' e1 e2 h1 h2 h3 st
  subst h1; subst h2; subst h3
  exact ⟨v, (T.setVm vm₁).calling g' mk (Value.ref b :: As).toArray, t, U', L, hT, X', hL, e1, e2, hq, st⟩
/-- what the callee's entry in the tables says -/
theorem calOK_of {c : Nat} (h : calOK c = true) : c < 217 ∧ ((mH c).1.cls ≠ "java/lang/invoke/MethodHandle" ∧ (mH c).1.cls ≠ "java/lang/invoke/VarHandle" ∧ (parseMethodDescriptor (mH c).1.desc).map (fun d => d.parameters.length) = some (mH c).2.2.2) ∧ (mH c).2.1 ≤ 20 := by
  unfold calOK at h
  simp only [Bool.and_eq_true, decide_eq_true_eq] at h
  obtain ⟨⟨⟨h1, h2⟩, -⟩, h3⟩ := h
  exact ⟨h1, h2, h3⟩
/-- the words of a call's row: those of the tables, and the callee's -/
theorem gw_of {c : Nat} (hc : c < 217) {ws : List Cond} (h : ∀ w ∈ ws, w ∈ lw_tbl ∧ goodWord w = true) : GoodIn lwG (ws ++ wsD c) := by
  refine goodG (fun w hw => ?_)
  rcases List.mem_append.mp hw with q | q
  · exact lwG_of (h w q)
  · rcases List.mem_cons.mp q with rfl | q
    · exact codeG hc
    · exact q
theorem gw_D {c : Nat} (hc : c < 217) : GoodIn lwG (wsD c) := gw_of (ws := []) hc (fun w h => by cases h)
theorem rmD_room {d c : Nat} {h h' : AHp} (hfr : d + 1 + 1 ≤ R.frames) (hlo : 64 * (d + 1 + 1) ≤ R.locals) (hm : (mH c).2.1 ≤ 20) : (rmD d h h').frames + 1 ≤ R.frames ∧ 8 + ((mH c).2.1 + 11) + (rmD d h h').locals ≤ R.locals := by
  refine ⟨hfr, ?_⟩
  show 8 + ((mH c).2.1 + 11) + 64 * (d + 1) ≤ R.locals
  omega
theorem mr0 {st : List Value} {ad : Nat → Nat} {pc : Nat} {ls : Array Slot} {g : List Value} (h8 : st.length ≤ 8) (hv : st.all isV = true) : 2 * (F0 m pc ls g).monitorRoom + ((st.map (cvV ad)).map fun v => v.category).sum ≤ 8 := by
  rw [cat_sum1 st hv]
  show 2 * 0 + st.length ≤ 8
  omega
theorem no1002v : cdA.all (fun l => l.all (fun e => match e.2.1, e.2.2.2 with
  | .invokevirtual _, (k, _) :: r => !(k == 1002) || r.isEmpty
  | _, _ => true)) = true := by decide +kernel
theorem cls_lt {h : AHp} (C : Cn b ro D tyC L xs h H) {q : Nat} : cls (h.1 q) < 14 ∨ cls (h.1 q) = 99 := by
  cases ho : h.1 q with
  | inl x => exact Or.inr rfl
  | inr o =>
    obtain ⟨ci, fs⟩ := o
    rcases C.obj ho with ⟨h1, -⟩ | ⟨-, h1, -⟩
    · exact Or.inl (show ci < 14 by omega)
    · exact Or.inl (show ci < 14 by omega)
theorem real_mem {info : List (Nat × Nat)} {q : Nat × Nat} (h : q ∈ info) (h1 : q.1 < 14) : q ∈ real info := by
  unfold real
  refine List.mem_filter.mpr ⟨h, ?_⟩
  have a : ¬ q.1 = 200 := by omega
  have b : ¬ q.1 = 201 := by omega
  have c : ¬ q.1 = 202 := by omega
  simp [a, b, c]
/-- a step that calls -/
theorem step_call {n d M pc cc pc' : Nat} {lsA stA lsA' stA' as : List Value} {h h' : AHp} {r : Option Value × AHp} (F : Fr p s m args meth c b ro D tyC L xs M) (hs : stp M pc lsA stA h = calls cc as pc' lsA' stA' h') (hn : SimAt l n) (hr : run n d cc 0 (padL cc as) [] h' = some r)
    (C : Cn b ro D tyC L xs h H) (hS : va_S (fun q : Nat => b ≤ q) s.heap H locs) (hL : LR (adr b ro) lsA ls) (hrc : cells + (r.2.2.1 - h.2.1) ≤ R.cells) (hrs : slots + (r.2.2.2 - h.2.2) ≤ R.slots) (hfr : d + 1 + 1 ≤ R.frames) (hlo : 64 * (d + 1 + 1) ≤ R.locals) (hll : lsA.length = (mH M).2.1)
    (K : Nxt p l e R s m args below meth c b ro D tyC L xs Q h r.2 cells slots pc' lsA (r.1.toList ++ stA')) : W p l e R s m args below meth c H locs cells slots Q (F0 m pc ls (stA.map (cvV (adr b ro)))) := by
  have hF := F
  obtain ⟨hx, hb, hml, hown, hnm, hts, hE⟩ := F
  have hls : ls.size = (mH M).2.1 := by
    obtain ⟨lv, g1, -⟩ := hL
    rw [g1.1, hll]
  have S : CallFix p m c (mB M) (mH M).2.1 s args lwG (mH M).1.cls := ⟨hx, hb, hml, hown, hts⟩
  unfold stp at hs
  cases hcd : cd M pc with
  | none => rw [hcd] at hs; cases hs
  | some en =>
    rw [hcd] at hs
    obtain ⟨pc0, ins, len, info⟩ := en
    obtain ⟨hp0, hdg, hln, hmis, hwd⟩ := cd_ok hcd
    simp only at hp0 hs hdg hln hmis hwd
    subst hp0
    -- behind the call
    have fin : ∀ {st0 rest : List Value} {a : Array Value}, rest = stA'.map (cvV (adr b ro)) → pc' = pc0 + 3 → va_Run p l e R s m args below meth c H locs cells slots (r.2.2.1 - h.2.1) (r.2.2.2 - h.2.2) (F0 m pc0 ls st0) rest (Qm b ro D tyC L xs r a) (fun q : Nat => b ≤ q) → W p l e R s m args below meth c H locs cells slots Q (F0 m pc0 ls st0) := by
      intro st0 rest a e1 e2 hrun
      refine call_go hrun hS (fun H1 locs1 hC1 hS1 => ?_)
      have := K H1 locs1 ls hC1 hS1 hL
      rw [e1, ← e2]
      have e3 : (r.1.toList ++ stA').map (cvV (adr b ro)) = (r.1.map (cvV (adr b ro))).toList ++ stA'.map (cvV (adr b ro)) := by
        rw [List.map_append]
        cases r.1 <;> rfl
      rw [← e3]
      exact this
    rcases calls_inv hs with ⟨i, rfl, q⟩ | ⟨i, rfl, q⟩ | ⟨i, rfl, q⟩
    · -- a static method's
      have hln : len = 3 := by simpa [lenI] using hln
      subst hln
      obtain ⟨k, rfl, hk, hp, h8, hv, e1, rfl, rfl⟩ := inS_call q
      obtain ⟨hst, hal⟩ := popA_spec _ _ _ _ hp
      rw [List.all_append, Bool.and_eq_true] at hv
      have hm2 : calOK cc = true ∧ (mH cc).2.2.2 ≤ (mH cc).2.1 := by
        simp only [mis, Bool.or_eq_true, Bool.and_eq_true, decide_eq_true_eq] at hmis
        rcases hmis with z | z
        · exact absurd z hk
        · exact z
      obtain ⟨hc, hd, h20⟩ := calOK_of hm2.1
      have hw : ∀ w ∈ [Cond.methodLink (mH M).1.cls i (mH cc).1, .static (mH cc).1, .initialized (mH cc).1.cls], w ∈ lw_tbl ∧ goodWord w = true := by
        rcases hwd with ⟨x, hx1⟩ | hwd
        · exfalso
          obtain ⟨ll, hll1, hll2⟩ := cd_mem hcd
          have z := List.all_eq_true.mp (List.all_eq_true.mp no1002 _ hll1) _ hll2
          cases hx1
          simp at z
        · intro w hw
          refine hwd w ?_
          simp only [need, List.flatMap_cons, List.flatMap_nil, List.append_nil, sW]
          rw [if_neg hk]
          exact hw
      have hM := met_of (b := b) (ro := ro) (D := D) (tyC := tyC) (L := L) (xs := xs) hn hr hv.1 (by rw [hal]; exact hm2.2) hc
      have cw := va_cwS (R := R) (s := s) (args := args) (own := (mH M).1.cls) (index := i) (y := (mH cc).1) (bytes := mB cc) (maxL := (mH cc).2.1) (ret := (mH cc).2.2.1) (Ts := lwG) (ws := wsD cc) (ws' := lwG) (rm := rmD d h' r.2) (mH cc).2.2.2 hts (gw_of hc hw) rfl rfl rfl hd (rmD_room hfr hlo h20)
      refine fin rfl e1 (va_runS (As := as.map (cvV (adr b ro))) (rest := stA'.map (cvV (adr b ro))) (free := fun q : Nat => b ≤ q) S hM cw (Pm_in hE C hS) rfl (by rw [List.length_map, hal]) hls ?_ (mr0 h8 hv.2) hdg ⟨hrc, hrs⟩)
      show stA.map (cvV (adr b ro)) = _
      rw [hst, List.map_append, List.map_reverse]
    · -- a virtual one
      have hln : len = 3 := by simpa [lenI] using hln
      subst hln
      obtain ⟨k0, c0, rest0, a, as0, hinfo, hp, rfl, hf, h8, hv, e1, rfl, rfl⟩ := inV_call q
      obtain ⟨hst, hal⟩ := popA_spec _ _ _ _ hp
      rw [List.all_append, Bool.and_eq_true] at hv
      have hmem := fIx_mem hf
      have hk0 : ¬ k0 = 1002 := by
        intro z
        obtain ⟨ll, hll1, hll2⟩ := cd_mem hcd
        have z1 := List.all_eq_true.mp (List.all_eq_true.mp no1002v _ hll1) _ hll2
        rw [hinfo] at z1
        simp only [z] at z1
        have z2 : rest0 = [] := by simpa using z1
        rw [hinfo, z2, z] at hmem
        have := List.mem_singleton.mp hmem
        have z3 := (Prod.mk.inj this).1
        rcases cls_lt C (q := a) with y | y <;> omega
      have hmis' : (real info).all (fun q => calOK q.2 && decide (q.1 ≤ 13) && decide ((mH q.2).2.2.2 = (mH c0).2.2.2) && decide ((mH q.2).2.2.2 + 1 ≤ (mH q.2).2.1) && (match vX info with
        | none => decide ((mH q.2).1.cls = nmC q.1)
        | some (x, o) => decide (x < 13) && decide (o < 13) && (decide (x = q.1 ∧ (mH q.2).1.cls = nmC q.1) || decide ((mH q.2).1.cls = nmC o) || (decide ((fIx info o).getD 0 < 217) && decide ((mH ((fIx info o).getD 0)).1 = ⟨nmC o, (mH q.2).1.name, (mH q.2).1.desc⟩))))) = true := by
        rw [hinfo] at hmis ⊢
        simp only [mis] at hmis
        rw [if_neg hk0] at hmis
        exact hmis
      have hreal : (cls (h'.1 a), cc) ∈ real info := by
        unfold real
        refine List.mem_filter.mpr ⟨hmem, ?_⟩
        have y0 : ¬ cls (h'.1 a) = 200 := by rcases cls_lt C (q := a) with y | y <;> omega
        have y1 : ¬ cls (h'.1 a) = 201 := by rcases cls_lt C (q := a) with y | y <;> omega
        have y2 : ¬ cls (h'.1 a) = 202 := by rcases cls_lt C (q := a) with y | y <;> omega
        simp [y0, y1, y2]
      have hm := List.all_eq_true.mp hmis' _ hreal
      simp only [Bool.and_eq_true, decide_eq_true_eq] at hm
      obtain ⟨⟨⟨⟨hcal, h13⟩, har⟩, har2⟩, hx5⟩ := hm
      obtain ⟨hc, hd, h20⟩ := calOK_of hcal
      have hw : ∀ w ∈ vW (mH M).1.cls i info (vX info) (cls (h'.1 a), cc), w ∈ lw_tbl ∧ goodWord w = true := by
        rcases hwd with ⟨x, hx1⟩ | hwd
        · exfalso
          rw [hx1] at hinfo
          cases hinfo
          exact hk0 rfl
        · intro w hw
          exact hwd w (List.mem_flatMap.mpr ⟨_, hreal, hw⟩)
      have hal0 : as0.length = (mH cc).2.2.2 := by
        rw [List.length_cons, ← har] at hal
        omega
      have hM := met_of (b := b) (ro := ro) (D := D) (tyC := tyC) (L := L) (xs := xs) hn hr hv.1 (by rw [List.length_cons, hal0]; exact har2) hc
      have hrv := recvA (a := a) hE C hS rfl (by omega)
      have hpv : PreV s H (nmC (cls (h'.1 a))) (adr b ro a) (Pm b ro D tyC L xs h' (.ref a :: as0)) (as0.map (cvV (adr b ro))) := ⟨Pm_blind, hrv.1, (Pm_in hE C hS (as := .ref a :: as0)).2⟩
      have hstk : stA.map (cvV (adr b ro)) = (as0.map (cvV (adr b ro))).reverse ++ .ref (adr b ro a) :: stA'.map (cvV (adr b ro)) := by
        rw [hst]
        simp [cvV]
      have hlen0 : (as0.map (cvV (adr b ro))).length = (mH cc).2.2.2 := by rw [List.length_map, hal0]
      have hV : (mH cc).1.cls = nmC (cls (h'.1 a)) → (∀ w ∈ [Cond.methodLink (mH M).1.cls i (mH cc).1, .instanceMethod (mH cc).1, .selects (nmC (cls (h'.1 a))) (mH cc).1 (mH cc).1, .initialized (nmC (cls (h'.1 a)))], w ∈ lw_tbl ∧ goodWord w = true) → W p l e R s m args below meth c H locs cells slots Q (F0 m pc0 ls (stA.map (cvV (adr b ro)))) := by
        intro hy hw1
        have cw := cwV (R := R) (s := s) (args := args) (own := (mH M).1.cls) (C := nmC (cls (h'.1 a))) (index := i) (y := (mH cc).1) (bytes := mB cc) (maxL := (mH cc).2.1) (ret := (mH cc).2.2.1) (Ts := lwG) (ws := wsD cc) (ws' := lwG) (rm := rmD d h' r.2) (mH cc).2.2.2 hts (gw_of hc hw1) rfl rfl rfl ⟨hy, hd⟩ (rmD_room hfr hlo h20)
        exact fin rfl e1 (va_runV (As := as0.map (cvV (adr b ro))) (rest := stA'.map (cvV (adr b ro))) (free := fun q : Nat => b ≤ q) S hM cw hpv rfl hlen0 hls hstk (mr0 h8 hv.2) hdg ⟨hrc, hrs⟩)
      cases hvx : vX info with
      | none =>
        rw [hvx] at hx5 hw
        exact hV (of_decide_eq_true hx5) hw
      | some xo =>
        obtain ⟨x, o⟩ := xo
        rw [hvx] at hx5 hw
        simp only [Bool.and_eq_true, Bool.or_eq_true, decide_eq_true_eq] at hx5
        obtain ⟨⟨hx13, ho13⟩, hx6⟩ := hx5
        by_cases hxy : x = cls (h'.1 a) ∧ (mH cc).1.cls = nmC (cls (h'.1 a))
        · unfold vW at hw
          simp only at hw
          rw [if_pos hxy] at hw
          exact hV hxy.2 hw
        · unfold vW at hw
          simp only at hw
          rw [if_neg hxy] at hw
          have hno := nmC_ok o (by omega)
          by_cases hyo : (mH cc).1.cls = nmC o
          · rw [if_pos hyo] at hw
            have cw := va_cwU (R := R) (s := s) (args := args) (own := (mH M).1.cls) (C := nmC (cls (h'.1 a))) (owner := nmC o) (index := i) (x := ⟨nmC x, (mH cc).1.name, (mH cc).1.desc⟩) (y := (mH cc).1) (bytes := mB cc) (maxL := (mH cc).2.1) (ret := (mH cc).2.2.1) (Ts := lwG) (ws := wsD cc) (ws' := lwG) (rm := rmD d h' r.2) (mH cc).2.2.2 hts (gw_of hc hw) rfl rfl rfl (by show (mH cc).1 = ⟨nmC o, (mH cc).1.name, (mH cc).1.desc⟩; rw [← hyo]) ⟨hno.1, hno.2, hd.2.2⟩ (rmD_room hfr hlo h20)
            exact fin rfl e1 (va_runU (As := as0.map (cvV (adr b ro))) (rest := stA'.map (cvV (adr b ro))) (free := fun q : Nat => b ≤ q) S hM cw hpv rfl hlen0 hls hstk (mr0 h8 hv.2) hdg ⟨hrc, hrs⟩)
          · rw [if_neg hyo] at hw
            have hz : (fIx info o).getD 0 < 217 ∧ (mH ((fIx info o).getD 0)).1 = ⟨nmC o, (mH cc).1.name, (mH cc).1.desc⟩ := by
              rcases hx6 with (z | z) | z
              · exact absurd z hxy
              · exact absurd z hyo
              · exact z
            have h0 := codeG hz.1
            unfold codeW at h0
            rw [hz.2] at h0
            have cw := va_cwO (R := R) (s := s) (args := args) (own := (mH M).1.cls) (C := nmC (cls (h'.1 a))) (owner := nmC o) (index := i) (x := ⟨nmC x, (mH cc).1.name, (mH cc).1.desc⟩) (y := (mH cc).1) (bytes := mB cc) (maxL := (mH cc).2.1) (ret := (mH cc).2.2.1) (Ts := lwG) (ws := wsD cc) (ws' := lwG) (rm := rmD d h' r.2) (mH cc).2.2.2 hts (gw_of hc hw) rfl rfl rfl h0 ⟨hno.1, hno.2, hd.2.2⟩ (rmD_room hfr hlo h20)
            exact fin rfl e1 (va_runU (As := as0.map (cvV (adr b ro))) (rest := stA'.map (cvV (adr b ro))) (free := fun q : Nat => b ≤ q) S hM cw hpv rfl hlen0 hls hstk (mr0 h8 hv.2) hdg ⟨hrc, hrs⟩)
    · -- a constructor, or super's
      have hln : len = 3 := by simpa [lenI] using hln
      subst hln
      obtain ⟨k, a, as0, rfl, hk, hp, rfl, hcls, h8, hv, e1, rfl, rfl⟩ := inP_call q
      obtain ⟨hst, hal⟩ := popA_spec _ _ _ _ hp
      rw [List.all_append, Bool.and_eq_true] at hv
      simp only [mis] at hmis
      rw [if_neg hk] at hmis
      simp only [Bool.and_eq_true, decide_eq_true_eq] at hmis
      obtain ⟨⟨hcal, har2⟩, hx5⟩ := hmis
      obtain ⟨hc, hd, h20⟩ := calOK_of hcal
      have hw : ∀ w ∈ pW (mH M).1.cls i (k, cc), w ∈ lw_tbl ∧ goodWord w = true := by
        rcases hwd with ⟨x, hx1⟩ | hwd
        · exfalso
          obtain ⟨ll, hll1, hll2⟩ := cd_mem hcd
          have z := List.all_eq_true.mp (List.all_eq_true.mp no1002 _ hll1) _ hll2
          cases hx1
          simp at z
        · intro w hw
          exact hwd w (List.mem_flatMap.mpr ⟨_, List.mem_singleton.mpr rfl, hw⟩)
      have hal0 : as0.length = (mH cc).2.2.2 := by
        rw [List.length_cons] at hal
        omega
      have hM := met_of (b := b) (ro := ro) (D := D) (tyC := tyC) (L := L) (xs := xs) hn hr hv.1 (by rw [List.length_cons, hal0]; exact har2) hc
      have hstk : stA.map (cvV (adr b ro)) = (as0.map (cvV (adr b ro))).reverse ++ .ref (adr b ro a) :: stA'.map (cvV (adr b ro)) := by
        rw [hst]
        simp [cvV]
      have hlen0 : (as0.map (cvV (adr b ro))).length = (mH cc).2.2.2 := by rw [List.length_map, hal0]
      have hps : PreS s H (Pm b ro D tyC L xs h' (.ref a :: as0)) (.ref (adr b ro a) :: as0.map (cvV (adr b ro))) := Pm_in hE C hS (as := .ref a :: as0)
      unfold pW at hw
      simp only at hw
      rw [if_neg hk] at hw
      by_cases h3 : k = 1003
      · rw [if_pos h3] at hw
        rw [if_pos (Or.inl h3)] at hx5
        simp only [Bool.and_eq_true, decide_eq_true_eq] at hx5
        obtain ⟨hy, hret⟩ := hx5
        have cw := cwI (R := R) (s := s) (args := args) (own := (mH M).1.cls) (index := i) (y := (mH cc).1) (bytes := mB cc) (maxL := (mH cc).2.1) (Ts := lwG) (ws := wsD cc) (ws' := lwG) (rm := rmD d h' r.2) (mH cc).2.2.2 hts (gw_D hc) (by show codeW cc :: lwG = _; unfold codeW; rw [hret]) rfl rfl (hts _ (lwG_of (hw _ (by simp)))) (hts _ (lwG_of (hw _ (by simp)))) (hts _ (lwG_of (hw _ (by simp)))) hy hd (rmD_room hfr hlo h20)
        exact fin rfl e1 (va_runI (As := as0.map (cvV (adr b ro))) (rest := stA'.map (cvV (adr b ro))) (free := fun q : Nat => b ≤ q) S hM cw hps rfl hlen0 hls hstk (mr0 h8 hv.2) hdg ⟨hrc, hrs⟩)
      · rw [if_neg h3] at hw
        by_cases h6 : k = 1006
        · subst h6
          rw [if_pos rfl] at hw
          rw [if_pos (Or.inr rfl)] at hx5
          simp only [Bool.and_eq_true, decide_eq_true_eq] at hx5
          obtain ⟨hy, hret⟩ := hx5
          have hnw := hE.2.2.2.2.2.2.2.2.1 _ (nst_of hcd)
          have cw := va_cnB (R := R) (s := s) (args := args) (own := (mH M).1.cls) (host := RX11) (index := i) (y := (mH cc).1) (bytes := mB cc) (maxL := (mH cc).2.1) (ret := none) (Ts := lwG) (ws := wsD cc) (ws' := lwG) (rm := rmD d h' r.2) (mH cc).2.2.2 hts (gw_D hc) (by show codeW cc :: lwG = _; unfold codeW; rw [hret]) rfl rfl hnw (hts _ (lwG_of (hw _ (by simp)))) hd (rmD_room hfr hlo h20)
          exact fin rfl e1 (va_runIN (As := as0.map (cvV (adr b ro))) (rest := stA'.map (cvV (adr b ro))) (free := fun q : Nat => b ≤ q) S hM ⟨cw, hy, hts _ (lwG_of (hw _ (by simp)))⟩ hps rfl hlen0 hls hstk (mr0 h8 hv.2) hdg ⟨hrc, hrs⟩)
        · rw [if_neg h6] at hw
          rw [if_neg (by rintro (z | z); exact h3 z; exact h6 z)] at hx5
          simp only [Bool.and_eq_true, decide_eq_true_eq] at hx5
          obtain ⟨hy, h45⟩ := hx5
          have hrv := recvA (a := a) hE C hS rfl (by omega)
          obtain ⟨cC, hat⟩ := hrv.2 hcls
          have hpv : PreV s H (nmC (cls (h'.1 a))) (adr b ro a) (Pm b ro D tyC L xs h' (.ref a :: as0)) (as0.map (cvV (adr b ro))) := ⟨Pm_blind, hrv.1, hps.2⟩
          by_cases h4 : k = 1004
          · rw [if_pos h4] at hw
            have cw := va_cwSU (R := R) (s := s) (args := args) (own := (mH M).1.cls) (index := i) (y := (mH cc).1) (bytes := mB cc) (maxL := (mH cc).2.1) (ret := (mH cc).2.2.1) (Ts := lwG) (ws := wsD cc) (ws' := lwG) (rm := rmD d h' r.2) (mH cc).2.2.2 hts (gw_of hc hw) rfl rfl rfl ⟨hy, hd.2.2⟩ (rmD_room hfr hlo h20)
            exact fin rfl e1 (va_runSU (As := as0.map (cvV (adr b ro))) (rest := stA'.map (cvV (adr b ro))) (free := fun q : Nat => b ≤ q) hat S hM cw hpv rfl hlen0 hls hstk (mr0 h8 hv.2) hdg ⟨hrc, hrs⟩)
          · rw [if_neg h4] at hw
            have hok : ∀ {w : Cond}, w ∈ [Cond.methodLink (mH M).1.cls i ⟨supN (mH M).1.cls, (mH cc).1.name, (mH cc).1.desc⟩, .sameMethod (supN (mH M).1.cls) (mH cc).1.cls (mH cc).1.name (mH cc).1.desc, .superclass (mH M).1.cls (supN (mH M).1.cls), .superclass (supN (mH M).1.cls) (mH cc).1.cls, .instanceMethod (mH cc).1, .initialized (mH cc).1.cls] → w.before args s = true := fun z => hts _ (lwG_of (hw _ z))
            have hR := rmD_room (c := cc) (h := h') (h' := r.2) hfr hlo h20
            exact fin rfl e1 (up_runSU (As := as0.map (cvV (adr b ro))) (rest := stA'.map (cvV (adr b ro))) (free := fun q : Nat => b ≤ q) (rm := rmD d h' r.2) (sup := supN (mH M).1.cls) (index := i) (ret := (mH cc).2.2.1) (maxL := (mH cc).2.1) (bytes := mB cc) hat S hM rfl rfl hR.1 hR.2 (pay_in hts (gw_D hc)) (List.mem_cons_self) (hok (by simp)) (hok (by simp)) (hok (by simp)) (hok (by simp)) (hok (by simp)) (hok (by simp)) (hts _ (codeG hc)) hy (fun sig hsig => by
              have h2 := hd.2.2
              rw [hsig] at h2
              exact (Option.some.inj h2).symm) hpv rfl hlen0 hls hstk (mr0 h8 hv.2) hdg ⟨hrc, hrs⟩)
/-- A RUN of the plain machine is a run of the Statement's -/
theorem run_sim (l : Launch) : ∀ n, SimAt l n := by
  intro n
  induction n with
  | zero => intro d M pc lsA stA h r hr; cases hr
  | succ n ih =>
    intro d M pc lsA stA h r hr hll b ro D tyC L xs p e R s m args below meth c H locs ls cells slots Q F C hS hL hcz hrc hrs hfr hlo Kend
    cases hs : stp M pc lsA stA h with
    | none => rw [run, hs] at hr; cases hr
    | some o =>
      have hr0 := hr
      rw [run, hs] at hr
      rcases o with ⟨pc', ls', st', h'⟩ | ⟨v, h'⟩ | ⟨cc, as, pc', ls', st', h'⟩
      · simp only at hr
        have hs1 : stp M pc lsA stA h = goOn pc' ls' st' h' := hs
        have hi : ls'.length = lsA.length ∧ h.2.1 ≤ h'.2.1 ∧ h.2.2 ≤ h'.2.2 := by
          have hs2 := hs1
          unfold stp at hs2
          split at hs2
          · exact step_inv hs2
          · cases hs2
        have hmo := run_mono _ _ _ _ _ _ _ _ hr
        have hsz := C.size
        have h32 := C.2.2.1
        refine step_sim F hs1 C hS hL hcz (by omega) (by omega) (by omega) (by omega) hll (fun H' locs' ls1 hC' hS' hL' => ?_)
        refine ih d M pc' ls' st' h' r hr (hi.1.trans hll) b ro D tyC L xs p e R s m args below meth c H' locs' ls1 _ _ Q F hC' hS' hL' (by have := hC'.size; omega) (by omega) (by omega) hfr hlo (fun pc2 st2 ls2 H2 locs2 hw hC2 hS2 => ?_)
        have hk := Kend pc2 st2 ls2 H2 locs2 hw hC2 hS2
        rw [show cells + (h'.2.1 - h.2.1) + (r.2.2.1 - h'.2.1) = cells + (r.2.2.1 - h.2.1) by omega, show slots + (h'.2.2 - h.2.2) + (r.2.2.2 - h'.2.2) = slots + (r.2.2.2 - h.2.2) by omega]
        exact hk
      · simp only at hr
        have hr1 := (Option.some.inj hr).symm
        subst hr1
        have hs1 := hs
        unfold stp at hs1
        cases hcd : cd M pc with
        | none => rw [hcd] at hs1; cases hs1
        | some en =>
          rw [hcd] at hs1
          obtain ⟨pc0, ins, len, info⟩ := en
          obtain ⟨hp0, hdg, hln, hmis, hwd⟩ := cd_ok hcd
          simp only at hp0 hs1 hdg hln
          subst hp0
          obtain ⟨hh, hend⟩ := ends_inv (show _ = ends v h' from hs1)
          subst hh
          have hk := Kend pc0 stA ls H locs
          simp only [Nat.sub_self, Nat.add_zero] at hk
          refine hk ?_ C hS
          rcases hend with ⟨rfl, x, hx⟩ | ⟨rfl, x, hx⟩ | ⟨rfl, hx⟩
          · have hln : len = 1 := by simpa [lenI] using hln
            subst hln
            exact Or.inl ⟨hdg, x, hx⟩
          · have hln : len = 1 := by simpa [lenI] using hln
            subst hln
            exact Or.inr (Or.inl ⟨hdg, x, hx⟩)
          · have hln : len = 1 := by simpa [lenI] using hln
            subst hln
            exact Or.inr (Or.inr ⟨hdg, hx⟩)
      · cases d with
        | zero => cases hr
        | succ d =>
          simp only at hr
          split at hr
          · cases hr
          · next r2 h2 =>
            have hs1 : stp M pc lsA stA h = calls cc as pc' ls' st' h' := hs
            have hq : ls' = lsA ∧ h' = h := by
              have hs2 := hs1
              unfold stp at hs2
              split at hs2
              · rcases calls_inv hs2 with ⟨i, -, q⟩ | ⟨i, -, q⟩ | ⟨i, -, q⟩
                · obtain ⟨_, _, _, _, _, _, _, q1, q2⟩ := inS_call q; exact ⟨q1, q2⟩
                · obtain ⟨_, _, _, _, _, _, _, _, _, _, _, _, q1, q2⟩ := inV_call q; exact ⟨q1, q2⟩
                · obtain ⟨_, _, _, _, _, _, _, _, _, _, _, q1, q2⟩ := inP_call q; exact ⟨q1, q2⟩
              · cases hs2
            obtain ⟨e1, e2⟩ := hq
            subst e1
            subst e2
            have hm1 := run_mono _ _ _ _ _ _ _ _ h2
            have hmo := run_mono _ _ _ _ _ _ _ _ hr
            have hsz := C.size
            have h32 := C.2.2.1
            refine step_call F hs1 ih h2 C hS hL (by omega) (by omega) hfr hlo hll (fun H' locs' ls1 hC' hS' hL' => ?_)
            refine ih (d + 1) M pc' ls' (r2.1.toList ++ st') r2.2 r hr hll b ro D tyC L xs p e R s m args below meth c H' locs' ls1 _ _ Q F hC' hS' hL' (by have := hC'.size; omega) (by omega) (by omega) hfr hlo (fun pc2 st2 ls2 H3 locs2 hw hC2 hS2 => ?_)
            have hk := Kend pc2 st2 ls2 H3 locs2 hw hC2 hS2
            rw [show cells + (r2.2.2.1 - h'.2.1) + (r.2.2.1 - r2.2.2.1) = cells + (r.2.2.1 - h'.2.1) by omega, show slots + (r2.2.2.2 - h'.2.2) + (r.2.2.2 - r2.2.2.2) = slots + (r.2.2.2 - h'.2.2) by omega]
            exact hk
end SIM7
