/-! ONE STEP of the plain machine is a step of the Statement's. -/
def lwG : List Cond := lw_tbl.filter goodWord
theorem lwG_of {w : Cond} (h : w ∈ lw_tbl ∧ goodWord w = true) : w ∈ lwG := List.mem_filter.mpr h
theorem lwG_good {w : Cond} (h : w ∈ lwG) : w ∈ lw_tbl ∧ goodWord w = true := List.mem_filter.mp h
theorem codeG {c : Nat} (h : c < 217) : codeW c ∈ lwG := lwG_of ⟨cw_all c h, rfl⟩
def nestA : List (String × Nat × MethodName × String) := [(RX11, 18, ⟨RX7, "<init>", "()V"⟩, RX11), (RX11, 34, ⟨RX10, "<init>", "()V"⟩, RX11)]
/-- what a method finds at its start beside its words: the classes, the texts, the statics, the script -/
def Ev (b : Nat) (ro : Nat → Nat) (D : va_G) (tyC : Nat → Nat) (L : Nat) (xs : Nat → Int32) (s : State) : Prop :=
  va_K D clA (tysA tyC) s ∧
  (∀ i, i < 15 → va_O "java/lang/String" (ro i) (fun q : Nat => b ≤ q) s s.heap ∧ va_OF "java/lang/String" "value" "[B" (.ref (ro (15 + i))) (ro i) (fun q : Nat => b ≤ q) s s.heap ∧ va_OF "java/lang/String" "coder" "B" (.int 0) (ro i) (fun q : Nat => b ≤ q) s s.heap ∧ va_T .byte (ro (15 + i)) (sby i).length (fun j => .int ((sby i).getD j 0)) (fun q : Nat => b ≤ q) s s.heap) ∧
  (∀ i q, strA[i]? = some q → vk_R q.1 q.2.1 q.2.2.1 (ro i) s) ∧
  va_Z "java/lang/String" "COMPACT_STRINGS" "Z" (.int 1) (fun q : Nat => b ≤ q) s s.heap ∧
  va_Z "jdk/internal/util/Preconditions" "SIOOBE_FORMATTER" "Ljava/util/function/BiFunction;" (fmO (ro 30)) (fun q : Nat => b ≤ q) s s.heap ∧
  (va_X (ro 31) L xs s s.heap ∧ ro 31 < s.heap.size ∧ ro 31 < b) ∧
  (∀ q ∈ castY, va_Nw (.castable q.1 q.2) s) ∧ (∀ q ∈ castN, va_Nc q.1 q.2 s) ∧ (∀ q ∈ nestA, va_Nw (.methodLinkNest q.1 q.2.1 q.2.2.1 q.2.2.2) s) ∧ va_AO RX4 s ∧ b ≤ s.heap.size
theorem va_O.moved' {E : String} {t : Nat} {A : Nat → Prop} {u U : State} {H : Heap} (hvm : u.vm.Alike U.vm) (h : va_O E t A u H) : va_O E t A U H := va_O.moved hvm h
theorem Ev.move {b : Nat} {ro : Nat → Nat} {D : va_G} {tyC : Nat → Nat} {L : Nat} {xs : Nat → Int32} {s U : State} {H : Heap} {locs : List Loc} (E : Ev b ro D tyC L xs s) (hS : va_S (fun q : Nat => b ≤ q) s.heap H locs) (hU : U.heap = H) (hW : s.WarmedH U.vm) : Ev b ro D tyC L xs U := by
  obtain ⟨e1, e2, e3, e4, e5, ⟨e6, e7, e8⟩, e9, e10, e11, e12, e13⟩ := E
  subst hU
  have hv := hW.alike
  have hk := hS.2.1
  refine ⟨va_K.moved hv e1, fun i hi => ?_, fun i q hq => vk_R.warm hW (e3 i q hq), (va_Z.moved hv e4).kept hk, (va_Z.moved hv e5).kept hk, ⟨(va_X.moved hv e6).kept (hk _ e7 (by omega)), Nat.lt_of_lt_of_le e7 hS.1, e8⟩, fun q hq => va_Nw.warmC hW (e9 q hq), fun q hq => va_Nc.moved hv (e10 q hq), fun q hq => va_Nw.warmM hW (e11 q hq), va_AO.moved hv e12, Nat.le_trans e13 hS.1⟩
  obtain ⟨f1, f2, f3, f4⟩ := e2 i hi
  exact ⟨(va_O.moved hv f1).kept hk, (va_OF.moved hv f2).kept hk, (va_OF.moved hv f3).kept hk, (va_T.moved hv f4).kept hk⟩
theorem isV_cat {v : Value} {ad : Nat → Nat} (h : isV v = true) : (cvV ad v).category = 1 := by
  cases v <;> first | rfl | (cases h; done) | skip
  next n =>
    have hn : n = 1 := by simpa [isV] using h
    subst hn
    show (fmO (ad 30)).category = 1
    unfold fmO
    split <;> rfl
/-- the locals -/
def LR (ad : Nat → Nat) (lsA : List Value) (ls : Array Slot) : Prop := ∃ lv, lv_has ls lsA.length lv ∧ ∀ (i : Nat) (v : Value), lsA[i]? = some v → isV v = true → (i, cvV ad v) ∈ lv
theorem LR.int {ad : Nat → Nat} {lsA : List Value} {ls : Array Slot} (h : LR ad lsA ls) {i : Nat} {x : Int32} (e : lsA[i]? = some (.int x)) : ls[i]? = some (.val (.int x)) := by
  obtain ⟨lv, h1, h2⟩ := h
  exact h1.2.2 _ (h2 i _ e rfl)
theorem LR.ref {ad : Nat → Nat} {lsA : List Value} {ls : Array Slot} (h : LR ad lsA ls) {i : Nat} {x : Nat} (e : lsA[i]? = some (.ref x)) : ls[i]? = some (.val (.ref (ad x))) := by
  obtain ⟨lv, h1, h2⟩ := h
  exact h1.2.2 _ (h2 i _ e rfl)
theorem LR_set {ad : Nat → Nat} {lsA : List Value} {lv : List (Nat × Value)} {i : Nat} {v : Value} (h2 : ∀ (i : Nat) (v : Value), lsA[i]? = some v → isV v = true → (i, cvV ad v) ∈ lv) (hi : i < lsA.length) : ∀ (j : Nat) (w : Value), (lsA.set i v)[j]? = some w → isV w = true → (j, cvV ad w) ∈ (i, cvV ad v) :: lv.filter (fun q => !(q.1 == i) && !(q.1 + 1 == i && q.2.category == 2)) := by
  intro j w hw hv
  by_cases hj : i = j
  · subst hj
    rw [List.getElem?_set_self hi] at hw
    cases hw
    exact List.mem_cons_self
  · rw [List.getElem?_set_ne hj] at hw
    refine List.mem_cons_of_mem _ (List.mem_filter.mpr ⟨h2 j w hw hv, ?_⟩)
    have := isV_cat (ad := ad) hv
    simp [this, Ne.symm hj]
theorem goOn_inj {a a' : Nat} {b b' c c' : List Value} {d d' : AHp} (h : goOn a b c d = goOn a' b' c' d') : a' = a ∧ b' = b ∧ c' = c ∧ d' = d := by
  have h1 := Sum.inl.inj (Option.some.inj h)
  obtain ⟨e1, h2⟩ := Prod.mk.inj h1
  obtain ⟨e2, h3⟩ := Prod.mk.inj h2
  obtain ⟨e3, e4⟩ := Prod.mk.inj h3
  exact ⟨e1.symm, e2.symm, e3.symm, e4.symm⟩
theorem goOn_no {a : Nat} {b c : List Value} {d : AHp} (h : (none : AOut) = goOn a b c d) : False := by cases h
theorem loadI_inv {pc i pc' : Nat} {ls st ls' st' : List Value} {h h' : AHp} (e : loadI pc i ls st h = goOn pc' ls' st' h') : ∃ x, ls[i]? = some (.int x) ∧ pc' = pc ∧ ls' = ls ∧ st' = .int x :: st ∧ h' = h := by
  unfold loadI at e
  split at e
  · next x hx => obtain ⟨a1, a2, a3, a4⟩ := goOn_inj e; exact ⟨x, hx, a1, a2, a3, a4⟩
  · exact (goOn_no e).elim
theorem loadA_inv {pc i pc' : Nat} {ls st ls' st' : List Value} {h h' : AHp} (e : loadA pc i ls st h = goOn pc' ls' st' h') : ∃ x, ls[i]? = some (.ref x) ∧ pc' = pc ∧ ls' = ls ∧ st' = .ref x :: st ∧ h' = h := by
  unfold loadA at e
  split at e
  · next x hx => obtain ⟨a1, a2, a3, a4⟩ := goOn_inj e; exact ⟨x, hx, a1, a2, a3, a4⟩
  · exact (goOn_no e).elim
theorem storeI_inv {pc i pc' : Nat} {ls st ls' st' : List Value} {h h' : AHp} (e : storeI pc i ls st h = goOn pc' ls' st' h') : ∃ x st0, st = .int x :: st0 ∧ i < ls.length ∧ pc' = pc ∧ ls' = ls.set i (.int x) ∧ st' = st0 ∧ h' = h := by
  unfold storeI at e
  split at e
  · next x st0 =>
    split at e
    · next hi => obtain ⟨a1, a2, a3, a4⟩ := goOn_inj e; exact ⟨x, st0, rfl, hi, a1, a2, a3, a4⟩
    · exact (goOn_no e).elim
  · exact (goOn_no e).elim
theorem storeA_inv {pc i pc' : Nat} {ls st ls' st' : List Value} {h h' : AHp} (e : storeA pc i ls st h = goOn pc' ls' st' h') : ∃ x st0, st = .ref x :: st0 ∧ i < ls.length ∧ pc' = pc ∧ ls' = ls.set i (.ref x) ∧ st' = st0 ∧ h' = h := by
  unfold storeA at e
  split at e
  · next x st0 =>
    split at e
    · next hi => obtain ⟨a1, a2, a3, a4⟩ := goOn_inj e; exact ⟨x, st0, rfl, hi, a1, a2, a3, a4⟩
    · exact (goOn_no e).elim
  · exact (goOn_no e).elim
theorem opI1_inv {f : Int32 → Int32} {pc pc' : Nat} {ls st ls' st' : List Value} {h h' : AHp} (e : opI1 f pc ls st h = goOn pc' ls' st' h') : ∃ x st0, st = .int x :: st0 ∧ pc' = pc ∧ ls' = ls ∧ st' = .int (f x) :: st0 ∧ h' = h := by
  unfold opI1 at e
  split at e
  · next x st0 => obtain ⟨a1, a2, a3, a4⟩ := goOn_inj e; exact ⟨x, st0, rfl, a1, a2, a3, a4⟩
  · exact (goOn_no e).elim
theorem opI2_inv {f : Int32 → Int32 → Int32} {pc pc' : Nat} {ls st ls' st' : List Value} {h h' : AHp} (e : opI2 f pc ls st h = goOn pc' ls' st' h') : ∃ x y st0, st = .int y :: .int x :: st0 ∧ pc' = pc ∧ ls' = ls ∧ st' = .int (f x y) :: st0 ∧ h' = h := by
  unfold opI2 at e
  split at e
  · next y x st0 => obtain ⟨a1, a2, a3, a4⟩ := goOn_inj e; exact ⟨x, y, st0, rfl, a1, a2, a3, a4⟩
  · exact (goOn_no e).elim
theorem opD2_inv {f : Int32 → Int32 → Int32} {pc pc' : Nat} {ls st ls' st' : List Value} {h h' : AHp} (e : opD2 f pc ls st h = goOn pc' ls' st' h') : ∃ x y st0, st = .int y :: .int x :: st0 ∧ ¬ y = 0 ∧ pc' = pc ∧ ls' = ls ∧ st' = .int (f x y) :: st0 ∧ h' = h := by
  unfold opD2 at e
  split at e
  · next y x st0 =>
    split at e
    · exact (goOn_no e).elim
    · next hy => obtain ⟨a1, a2, a3, a4⟩ := goOn_inj e; exact ⟨x, y, st0, rfl, hy, a1, a2, a3, a4⟩
  · exact (goOn_no e).elim
theorem br1_inv {k : ClassFile.Cond} {pc t pc' : Nat} {ls st ls' st' : List Value} {h h' : AHp} (e : br1 k pc t ls st h = goOn pc' ls' st' h') : ∃ x st0, st = .int x :: st0 ∧ pc' = (if if1 k x then t else pc) ∧ ls' = ls ∧ st' = st0 ∧ h' = h := by
  unfold br1 at e
  split at e
  · next x st0 => obtain ⟨a1, a2, a3, a4⟩ := goOn_inj e; exact ⟨x, st0, rfl, a1, a2, a3, a4⟩
  · exact (goOn_no e).elim
theorem br2_inv {k : ClassFile.Cond} {pc t pc' : Nat} {ls st ls' st' : List Value} {h h' : AHp} (e : br2 k pc t ls st h = goOn pc' ls' st' h') : ∃ x y st0, st = .int y :: .int x :: st0 ∧ pc' = (if if2 k x y then t else pc) ∧ ls' = ls ∧ st' = st0 ∧ h' = h := by
  unfold br2 at e
  split at e
  · next y x st0 => obtain ⟨a1, a2, a3, a4⟩ := goOn_inj e; exact ⟨x, y, st0, rfl, a1, a2, a3, a4⟩
  · exact (goOn_no e).elim
theorem swT_no {x : Int32} {t : Nat} : ∀ (r : List (Nat × Nat)), (∀ q ∈ r, ¬ x = nI q.1) → swT x r t = t := by
  intro r
  induction r with
  | nil => intro _; rfl
  | cons q r ih =>
    intro h
    obtain ⟨k, u⟩ := q
    rw [swT, if_neg (h _ List.mem_cons_self)]
    exact ih fun q hq => h q (List.mem_cons_of_mem _ hq)
theorem swT_at {x : Int32} {t u : Nat} : ∀ (r : List (Nat × Nat)), (∃ q ∈ r, x = nI q.1) → (∀ q ∈ r, x = nI q.1 → q.2 = u) → swT x r t = u := by
  intro r
  induction r with
  | nil => intro ⟨q, hq, _⟩; cases hq
  | cons q r ih =>
    intro hex hall
    obtain ⟨k, v⟩ := q
    rw [swT]
    split
    · next hx => exact hall _ List.mem_cons_self hx
    · next hx =>
      refine ih ?_ fun q hq => hall q (List.mem_cons_of_mem _ hq)
      obtain ⟨q, hq, hx2⟩ := hex
      rcases List.mem_cons.mp hq with rfl | h
      · exact absurd hx2 hx
      · exact ⟨q, h, hx2⟩
section SW
variable {p : Program} {l : Launch} {e : Env} {R : Room} {s : State} {m : MethodId} {args : Array Value} {below : List Frame} {meth : Method} {c : Code} {H : Heap} {locs : List Loc} {cells slots : Nat} {Q : State → Prop}
variable {cc : ByteArray} {pc t len : Nat} {ls : Array Slot} {rest : List Value} {r : List (Nat × Nat)} {x : Int32}
theorem sw_table {d lo hi : Int} {offs : Array Int} (hx : p.tables.exec = Jvm.exec) (hb : c.code = cc) (hdg : decode cc pc = .ok (.tableswitch d lo hi offs, len)) (h1 : (pc : Int) + d = (t : Int)) (h2 : 0 ≤ lo) (h3 : hi < 100) (h4 : hi - lo + 1 = (offs.size : Int))
    (h5 : r.map (fun q => ((q.1 : Int), (q.2 : Int))) = (List.range offs.size).map (fun (j : Nat) => (lo + (j : Int), (pc : Int) + offs.getD j 0))) (k : W p l e R s m args below meth c H locs cells slots Q (F0 m (swT x r t) ls rest)) : W p l e R s m args below meth c H locs cells slots Q (F0 m pc ls (.int x :: rest)) := by
  have fwd : ∀ q ∈ r, ∃ j : Nat, j < offs.size ∧ (q.1 : Int) = lo + j ∧ (q.2 : Int) = pc + offs.getD j 0 := by
    intro q hq
    have h6 : ((q.1 : Int), (q.2 : Int)) ∈ r.map (fun q => ((q.1 : Int), (q.2 : Int))) := List.mem_map_of_mem (f := fun q : Nat × Nat => ((q.1 : Int), (q.2 : Int))) hq
    rw [h5] at h6
    obtain ⟨j, hj, e2⟩ := List.mem_map.mp h6
    have := Prod.mk.inj e2
    exact ⟨j, List.mem_range.mp hj, this.1.symm, this.2.symm⟩
  have bwd : ∀ j : Nat, j < offs.size → ∃ q ∈ r, (q.1 : Int) = lo + j ∧ (q.2 : Int) = pc + offs.getD j 0 := by
    intro j hj
    have h6 : (lo + (j : Int), (pc : Int) + offs.getD j 0) ∈ (List.range offs.size).map (fun (j : Nat) => (lo + (j : Int), (pc : Int) + offs.getD j 0)) := List.mem_map_of_mem (f := fun j : Nat => (lo + (j : Int), (pc : Int) + offs.getD j 0)) (List.mem_range.mpr hj)
    rw [← h5] at h6
    obtain ⟨q, hq, e2⟩ := List.mem_map.mp h6
    have := Prod.mk.inj e2
    exact ⟨q, hq, this.1, this.2⟩
  have key : ∀ q ∈ r, x = nI q.1 → x.toInt = (q.1 : Int) := by
    intro q hq hx2
    obtain ⟨j, hj, e1, -⟩ := fwd q hq
    rw [hx2, nI_toInt (by omega)]
  by_cases hin : x.toInt < lo ∨ hi < x.toInt
  · refine lv_tableOut hx hb hdg hin h1 ?_
    rw [swT_no r ?_] at k
    · exact k
    · intro q hq hx2
      have h7 := key q hq hx2
      obtain ⟨j, hj, e1, -⟩ := fwd q hq
      omega
  · have hj : (x.toInt - lo).toNat < offs.size := by omega
    obtain ⟨q, hq, e1, e2⟩ := bwd _ hj
    have hxq : x = nI q.1 := Int32.toInt_inj.mp (by rw [nI_toInt (by omega)]; omega)
    have ho : offs[(x.toInt - lo).toNat]? = some (offs.getD (x.toInt - lo).toNat 0) := by
      rw [Array.getD_eq_getD_getElem?, Array.getElem?_eq_getElem hj]; rfl
    refine lv_tableIn hx hb hdg (by omega) (by omega) ho e2.symm ?_
    rw [swT_at (u := q.2) r ⟨q, hq, hxq⟩ ?_] at k
    · exact k
    · intro q' hq' hx2
      have h7 := key q' hq' hx2
      obtain ⟨j, hj', e3, e4⟩ := fwd q' hq'
      have : j = (x.toInt - lo).toNat := by omega
      subst this
      omega
theorem sw_off {d : Int} : ∀ (r : List (Nat × Nat)) (ps : List (Int × Int)), (pc : Int) + d = (t : Int) → r.map (fun q => ((q.1 : Int), (q.2 : Int))) = ps.map (fun q => (q.1, (pc : Int) + q.2)) → (∀ q ∈ r, q.1 < 100) → (pc : Int) + Op.lookupswitch.offset ps d x.toInt = ((swT x r t : Nat) : Int) := by
  intro r
  induction r with
  | nil =>
    intro ps h1 h2 _
    cases ps with
    | nil => exact h1
    | cons _ _ => cases h2
  | cons q r ih =>
    intro ps h1 h2 h3
    cases ps with
    | nil => cases h2
    | cons w ps =>
      obtain ⟨k, u⟩ := q
      obtain ⟨a, o⟩ := w
      simp only [List.map_cons, List.cons.injEq, Prod.mk.injEq] at h2
      obtain ⟨⟨e1, e2⟩, e3⟩ := h2
      have hk := h3 _ List.mem_cons_self
      simp only at hk
      rw [swT]
      by_cases hx : x = nI k
      · rw [if_pos hx]
        have h7 : x.toInt = a := by rw [hx, nI_toInt (by omega)]; exact e1
        simp [Op.lookupswitch.offset, h7, e2]
      · rw [if_neg hx, lv_osw (k := nI k) hx (by rw [nI_toInt (by omega)]; exact e1)]
        exact ih ps h1 e3 fun q hq => h3 q (List.mem_cons_of_mem _ hq)
theorem sw_look {d : Int} {ps : Array (Int × Int)} (hx : p.tables.exec = Jvm.exec) (hb : c.code = cc) (hdg : decode cc pc = .ok (.lookupswitch d ps, len)) (h1 : (pc : Int) + d = (t : Int)) (h2 : r.map (fun q => ((q.1 : Int), (q.2 : Int))) = ps.toList.map (fun q => (q.1, (pc : Int) + q.2)))
    (h3 : (ps.toList.zip (ps.toList.drop 1)).all (fun (a, next) => a.1 < next.1) = true) (h4 : r.all (fun q => decide (q.1 < 100)) = true) (k : W p l e R s m args below meth c H locs cells slots Q (F0 m (swT x r t) ls rest)) : W p l e R s m args below meth c H locs cells slots Q (F0 m pc ls (.int x :: rest)) := by
  exact lv_lookup hx hb hdg h3 rfl (sw_off r ps.toList h1 h2 (fun q hq => of_decide_eq_true (List.all_eq_true.mp h4 q hq))) k
end SW
theorem uw_all : ∀ (ci : Nat) (r : vw_C), clA[ci]? = some r → ∀ w ∈ u_ws r.1 r.2.1 r.2.2, w ∈ lwG := by
  have one : ∀ (ws : List Cond) (ps : List Nat), ws.map some = ps.map (fun i => lw_tbl[i]?) → ws.all goodWord = true → ∀ w ∈ ws, w ∈ lwG := by
    intro ws ps h1 h2 w hw
    have h3 : some w ∈ ws.map some := List.mem_map_of_mem hw
    rw [h1] at h3
    obtain ⟨i, -, hi⟩ := List.mem_map.mp h3
    exact lwG_of ⟨List.mem_of_getElem? hi, List.all_eq_true.mp h2 w hw⟩
  intro ci r hr
  match ci, hr with
  | 0, hr => cases hr; exact one _ uw_0 (by decide +kernel) (by decide +kernel)
  | 1, hr => cases hr; exact one _ uw_1 (by decide +kernel) (by decide +kernel)
  | 2, hr => cases hr; exact one _ uw_2 (by decide +kernel) (by decide +kernel)
  | 3, hr => cases hr; exact one _ uw_3 (by decide +kernel) (by decide +kernel)
  | 4, hr => cases hr; exact one _ uw_4 (by decide +kernel) (by decide +kernel)
  | 5, hr => cases hr; exact one _ uw_5 (by decide +kernel) (by decide +kernel)
  | 6, hr => cases hr; exact one _ uw_6 (by decide +kernel) (by decide +kernel)
  | 7, hr => cases hr; exact one _ uw_7 (by decide +kernel) (by decide +kernel)
  | 8, hr => cases hr; exact one _ uw_8 (by decide +kernel) (by decide +kernel)
  | 9, hr => cases hr; exact one _ uw_9 (by decide +kernel) (by decide +kernel)
  | 10, hr => cases hr; exact one _ uw_10 (by decide +kernel) (by decide +kernel)
  | 11, hr => cases hr; exact one _ uw_11 (by decide +kernel) (by decide +kernel)
  | 12, hr => cases hr; exact one _ uw_12 (by decide +kernel) (by decide +kernel)
  | ci + 13, hr => simp [clA] at hr
/-- the type of a field -/
def tyF (T : u_T) (k : Nat) : FieldType := (parseFieldDescriptor (T k).2.2.1).getD .int
def clsGood (r : vw_C) : Bool := (List.range r.2.2).all (fun k => (parseFieldDescriptor (r.2.1 k).2.2.1).isSome) && (List.range r.2.2).all (fun a => (List.range r.2.2).all (fun b => a == b || decide ((r.2.1 a).2.1 ≠ (r.2.1 b).2.1)))
theorem clsGood_all : clA.all clsGood = true := by decide +kernel
theorem cl_ty {ci : Nat} {r : vw_C} (h : clA[ci]? = some r) : ∀ k, k < r.2.2 → parseFieldDescriptor (r.2.1 k).2.2.1 = some (tyF r.2.1 k) := by
  intro k hk
  have h1 := List.all_eq_true.mp clsGood_all r (List.mem_of_getElem? h)
  unfold clsGood at h1
  rw [Bool.and_eq_true] at h1
  have h2 := List.all_eq_true.mp h1.1 k (List.mem_range.mpr hk)
  unfold tyF
  cases hq : parseFieldDescriptor (r.2.1 k).2.2.1 with
  | none => rw [hq] at h2; cases h2
  | some t => rfl
theorem cl_nm {ci : Nat} {r : vw_C} (h : clA[ci]? = some r) : ∀ a, a < r.2.2 → ∀ b, b < r.2.2 → a ≠ b → (r.2.1 a).2.1 ≠ (r.2.1 b).2.1 := by
  intro a ha b hb hne
  have h1 := List.all_eq_true.mp clsGood_all r (List.mem_of_getElem? h)
  unfold clsGood at h1
  rw [Bool.and_eq_true] at h1
  have h2 := List.all_eq_true.mp (List.all_eq_true.mp h1.2 a (List.mem_range.mpr ha)) b (List.mem_range.mpr hb)
  simp only [Bool.or_eq_true, beq_iff_eq, decide_eq_true_eq] at h2
  exact h2.resolve_left hne
theorem fIx_mem {info : List (Nat × Nat)} {ci k : Nat} (h : fIx info ci = some k) : (ci, k) ∈ info := by
  unfold fIx at h
  cases hf : info.find? (fun e => e.1 == ci) with
  | none => rw [hf] at h; cases h
  | some q =>
    rw [hf] at h
    have h1 := List.mem_of_find?_eq_some hf
    have h2 : q.1 = ci := by simpa using List.find?_some hf
    have h3 : q.2 = k := Option.some.inj h
    rw [← h2, ← h3]; exact h1
theorem nF_get {ci k : Nat} (h : k < nF ci) : ∃ r, clA[ci]? = some r ∧ k < r.2.2 := by
  unfold nF at h
  cases hr : clA[ci]? with
  | none => rw [hr] at h; cases h
  | some r => rw [hr] at h; exact ⟨r, rfl, h⟩
theorem refC_or (own : String) (f : String × String × String × Bool) : refC own f = own ∨ refC own f = f.1 := by
  unfold refC; split
  · exact Or.inl rfl
  · exact Or.inr rfl
section FW
variable {s : State} {args : Array Value}
theorem fld_words {own : String} {i ci k : Nat} {r : vw_C} (hts : ∀ w ∈ lwG, w.before args s = true) (hw : ∀ w ∈ fW own i (ci, k), w ∈ lw_tbl ∧ goodWord w = true) (hc : clA[ci]? = some r) (hci : ci < 13) :
    (Cond.fieldLink own i (refC own (r.2.1 k)) (r.2.1 k).2.1 (r.2.1 k).2.2.1).before args s = true ∧ ∀ x, s.fieldFound? (r.2.1 k).1 (r.2.1 k).2.1 (r.2.1 k).2.2.1 = some x → s.fieldFound? (refC own (r.2.1 k)) (r.2.1 k).2.1 (r.2.1 k).2.2.1 = some x := by
  unfold fW at hw
  rw [if_neg (by simp only; omega), hc] at hw
  simp only at hw
  refine ⟨hts _ (lwG_of (hw _ List.mem_cons_self)), fun x hx => ?_⟩
  by_cases he : refC own (r.2.1 k) = (r.2.1 k).1
  · rw [he]; exact hx
  · rw [if_neg he] at hw
    exact u_same (hts _ (lwG_of (hw _ (List.mem_cons_of_mem _ List.mem_cons_self)))) x hx
end FW
theorem narrow_cv {ad : Nat → Nat} {t : FieldType} {v : Value} (h : narrow t v = v) : narrow t (cvV ad v) = cvV ad v := by
  cases v <;> first | exact h | (cases t <;> rfl) | skip
  next n =>
    simp only [cvV]
    split
    · unfold fmO
      split <;> cases t <;> rfl
    · exact h
theorem fits_cv {ad : Nat → Nat} {t : FieldType} {v : Value} (h : fits t v = true) : fits t (cvV ad v) = true := by
  cases v <;> first | exact h | (cases t <;> first | rfl | exact h) | skip
  next n => cases t <;> cases h
theorem vp_of {i : Int32} {n : Nat} (h : inB i n = true) : vp_in i n := by
  unfold inB at h
  simp only [Bool.and_eq_true, Bool.not_eq_true', decide_eq_false_iff_not, decide_eq_true_eq] at h
  rintro (q | q)
  · exact h.1 q
  · omega
section CN2
variable {b : Nat} {ro : Nat → Nat} {D : va_G} {tyC : Nat → Nat} {L : Nat} {xs : Nat → Int32} {h : AHp} {H : Heap}
theorem roC_str {p : Nat} {fs : List Value} {ci : Nat} (e : roC L xs p = .inr (ci, fs)) : p < 15 ∧ ci = 13 ∧ fs = [.ref (15 + p), .int 0] := by
  unfold roC at e
  split at e
  · next h1 => cases e; exact ⟨h1, rfl, rfl⟩
  · split at e
    · cases e
    · split at e
      · cases e
      · cases e
theorem roC_arr {p t n : Nat} {f : Nat → Int32} (e : roC L xs p = .inl (t, n, .inl f)) : (15 ≤ p ∧ p < 30 ∧ t = 11 ∧ n = (sby (p - 15)).length ∧ f = fun j => (sby (p - 15)).getD j 0) ∨ (p = 31 ∧ t = 10 ∧ n = L ∧ f = xs) ∨ t = 99 := by
  unfold roC at e
  split at e
  · cases e
  · next h1 =>
    split at e
    · next h2 => cases e; exact Or.inl ⟨by omega, h2, rfl, rfl, rfl⟩
    · split at e
      · next h3 => cases e; exact Or.inr (Or.inl ⟨h3, rfl, rfl, rfl⟩)
      · cases e; exact Or.inr (Or.inr rfl)
/-- which object: one of ours, or a constant text -/
theorem Cn.obj (C : Cn b ro D tyC L xs h H) {p ci : Nat} {fs : List Value} (e : h.1 p = .inr (ci, fs)) : (ci < 13 ∧ 32 ≤ p ∧ p < h.2.1 ∧ (conc (adr b ro) tyC h)[p - 32]? = some (adr b ro p, .inr (ci, fs.map (cvV (adr b ro))))) ∨ (p < 15 ∧ ci = 13 ∧ fs = [.ref (15 + p), .int 0]) := by
  rcases Nat.lt_or_ge p 32 with q | q
  · right
    have h1 := C.2.2.2.2.2 p q
    rw [e] at h1
    exact roC_str h1.symm
  · left
    rcases Nat.lt_or_ge p h.2.1 with q2 | q2
    · have h1 := C.2.2.2.2.1 p q q2
      rw [e] at h1
      have h3 := conc_at (ad := adr b ro) (tyC := tyC) q q2
      rw [e] at h3
      exact ⟨h1, q, q2, h3⟩
    · have h1 := C.2.2.2.1 p q2
      rw [e] at h1
      cases h1
theorem Cn.arr (C : Cn b ro D tyC L xs h H) {p t n : Nat} {f : Nat → Int32} (e : h.1 p = .inl (t, n, .inl f)) (ht : t ≠ 99) : (t < 3 ∧ wfC (h.1 p) ∧ (conc (adr b ro) tyC h)[p - 32]? = some (adr b ro p, .inl (tyC t, n, .inl f))) ∨ (15 ≤ p ∧ p < 30 ∧ t = 11 ∧ n = (sby (p - 15)).length ∧ f = fun j => (sby (p - 15)).getD j 0) ∨ (p = 31 ∧ t = 10 ∧ n = L ∧ f = xs) := by
  rcases Nat.lt_or_ge p 32 with q | q
  · right
    have h1 := C.2.2.2.2.2 p q
    rw [e] at h1
    rcases roC_arr h1.symm with h2 | h2 | h2
    · exact Or.inl h2
    · exact Or.inr h2
    · exact absurd h2 ht
  · left
    rcases Nat.lt_or_ge p h.2.1 with q2 | q2
    · have h1 := C.2.2.2.2.1 p q q2
      have h3 := conc_at (ad := adr b ro) (tyC := tyC) q q2
      refine ⟨by rw [e] at h1; exact h1, h1, ?_⟩
      rw [e] at h3
      exact h3
    · have h1 := C.2.2.2.1 p q2
      rw [e] at h1
      cases h1
      exact absurd rfl ht
theorem Cn.arq (C : Cn b ro D tyC L xs h H) {p t n : Nat} {f : Nat → Option Nat} (e : h.1 p = .inl (t, n, .inr (.inr (.inr (.inr f))))) : t = 3 ∧ wfC (h.1 p) ∧ (conc (adr b ro) tyC h)[p - 32]? = some (adr b ro p, .inl (tyC t, n, .inr (.inr (.inr (.inr (fun k => (f k).map (adr b ro))))))) := by
  rcases Nat.lt_or_ge p 32 with q | q
  · exfalso
    have h1 := C.2.2.2.2.2 p q
    rw [e] at h1
    unfold roC noC at h1
    repeat' split at h1
    all_goals cases h1
  · rcases Nat.lt_or_ge p h.2.1 with q2 | q2
    · have h1 := C.2.2.2.2.1 p q q2
      have h3 := conc_at (ad := adr b ro) (tyC := tyC) q q2
      refine ⟨by rw [e] at h1; exact h1, h1, ?_⟩
      rw [e] at h3
      exact h3
    · have h1 := C.2.2.2.1 p q2
      rw [e] at h1
      cases h1
end CN2
section SIM
variable {p : Program} {l : Launch} {e : Env} {R : Room} {s : State} {m : MethodId} {args : Array Value} {below : List Frame} {meth : Method} {c : Code}
variable {b : Nat} {ro : Nat → Nat} {D : va_G} {tyC : Nat → Nat} {L : Nat} {xs : Nat → Int32}
/-- a frame of the method M -/
def Fr (p : Program) (s : State) (m : MethodId) (args : Array Value) (meth : Method) (c : Code) (b : Nat) (ro : Nat → Nat) (D : va_G) (tyC : Nat → Nat) (L : Nat) (xs : Nat → Int32) (M : Nat) : Prop :=
  p.tables.exec = Jvm.exec ∧ c.code = mB M ∧ c.maxLocals = (mH M).2.1 ∧ s.vm.findClass (mH M).1.cls = some m.cls ∧ ((mH M).1.name = "<init>" → meth.name = (mH M).1.name) ∧ (∀ w ∈ lwG, w.before args s = true) ∧ Ev b ro D tyC L xs s
/-- what is owed behind a step -/
def Nxt (p : Program) (l : Launch) (e : Env) (R : Room) (s : State) (m : MethodId) (args : Array Value) (below : List Frame) (meth : Method) (c : Code) (b : Nat) (ro : Nat → Nat) (D : va_G) (tyC : Nat → Nat) (L : Nat) (xs : Nat → Int32) (Q : State → Prop) (h h' : AHp) (cells slots pc' : Nat) (lsA' stA' : List Value) : Prop :=
  ∀ (H' : Heap) (locs' : List Loc) (ls' : Array Slot), Cn b ro D tyC L xs h' H' → va_S (fun q : Nat => b ≤ q) s.heap H' locs' → LR (adr b ro) lsA' ls' → W p l e R s m args below meth c H' locs' (cells + (h'.2.1 - h.2.1)) (slots + (h'.2.2 - h.2.2)) Q (F0 m pc' ls' (stA'.map (cvV (adr b ro))))
theorem Nxt.same {Q : State → Prop} {h : AHp} {cells slots pc' : Nat} {lsA' stA' : List Value} (K : Nxt p l e R s m args below meth c b ro D tyC L xs Q h h cells slots pc' lsA' stA') {H : Heap} {locs : List Loc} {ls : Array Slot} (C : Cn b ro D tyC L xs h H) (hS : va_S (fun q : Nat => b ≤ q) s.heap H locs) (hL : LR (adr b ro) lsA' ls) : W p l e R s m args below meth c H locs cells slots Q (F0 m pc' ls (stA'.map (cvV (adr b ro)))) := by
  have := K H locs ls C hS hL
  rwa [Nat.sub_self, Nat.sub_self, Nat.add_zero, Nat.add_zero] at this
theorem Nxt.set {Q : State → Prop} {h : AHp} {q : Nat} {x : va_E} {cells slots pc' : Nat} {lsA' stA' : List Value} (K : Nxt p l e R s m args below meth c b ro D tyC L xs Q h (hset h q x) cells slots pc' lsA' stA') {H : Heap} {locs : List Loc} {ls : Array Slot} (C : Cn b ro D tyC L xs (hset h q x) H) (hS : va_S (fun q : Nat => b ≤ q) s.heap H locs) (hL : LR (adr b ro) lsA' ls) : W p l e R s m args below meth c H locs cells slots Q (F0 m pc' ls (stA'.map (cvV (adr b ro)))) := by
  have := K H locs ls C hS hL
  simp only [hset, Nat.sub_self, Nat.add_zero] at this
  exact this

theorem pure_sim {M pc pc' : Nat} {ins : Instr} {len : Nat} {info : List (Nat × Nat)} {lsA stA lsA' stA' : List Value} {h : AHp} {Q : State → Prop} {cells slots : Nat} {H : Heap} {locs : List Loc} {ls : Array Slot}
    (F : Fr p s m args meth c b ro D tyC L xs M) (hcd : cd M pc = some (pc, ins, len, info)) (hp : match ins with
      | .iload_n _ | .iload _ | .aload_n _ | .aload _ | .istore_n _ | .istore _ | .astore_n _ | .astore _ | .iinc _ _ | .iconst _ | .bipush _ | .sipush _ | .iadd | .isub | .imul | .iand | .ior | .ixor | .ishl | .ishr | .iushr | .idiv | .irem | .ineg | .i2b | .i2c | .dup | .pop | .dup_x1 | .dup_x2 | .dup2 | .ifCond _ _ | .if_icmp _ _ | .goto _ | .tableswitch _ _ _ _ | .lookupswitch _ _ => True
      | _ => False)
    (hs : stpI M pc ins len info lsA stA h = goOn pc' lsA' stA' h) (C : Cn b ro D tyC L xs h H) (hS : va_S (fun q : Nat => b ≤ q) s.heap H locs) (hL : LR (adr b ro) lsA ls)
    (K : Nxt p l e R s m args below meth c b ro D tyC L xs Q h h cells slots pc' lsA' stA') : W p l e R s m args below meth c H locs cells slots Q (F0 m pc ls (stA.map (cvV (adr b ro)))) := by
  obtain ⟨hx, hb, hml, hown, hnm, hts, hE⟩ := F
  obtain ⟨-, hdg, hln, hmis, -⟩ := cd_ok hcd
  simp only at hdg hln hmis
  cases ins with
  | iload_n k =>
    have hln : len = 1 := by simpa [lenI] using hln
    subst hln
    obtain ⟨x, hx0, rfl, rfl, rfl, -⟩ := loadI_inv hs
    exact lv_iload_n hx hb hdg rfl (hL.int hx0) (K.same C hS hL)
  | iload k =>
    have hln : len = 2 := by simpa [lenI] using hln
    subst hln
    obtain ⟨x, hx0, rfl, rfl, rfl, -⟩ := loadI_inv hs
    exact lv_iload hx hb hdg (hL.int hx0) (K.same C hS hL)
  | aload_n k =>
    have hln : len = 1 := by simpa [lenI] using hln
    subst hln
    obtain ⟨x, hx0, rfl, rfl, rfl, -⟩ := loadA_inv hs
    exact lv_aload_n hx hb hdg rfl (hL.ref hx0) (K.same C hS hL)
  | aload k =>
    have hln : len = 2 := by simpa [lenI] using hln
    subst hln
    obtain ⟨x, hx0, rfl, rfl, rfl, -⟩ := loadA_inv hs
    exact lv_aload hx hb hdg (hL.ref hx0) (K.same C hS hL)
  | istore_n k =>
    have hln : len = 1 := by simpa [lenI] using hln
    subst hln
    obtain ⟨x, st0, rfl, hi, rfl, rfl, rfl, -⟩ := storeI_inv hs
    obtain ⟨lv, h1, h2⟩ := hL
    exact lv_istore_n hx hb hdg rfl h1 hi rfl (fun ls' hl => K.same C hS ⟨_, by rw [List.length_set]; exact hl, LR_set h2 hi⟩)
  | istore k =>
    have hln : len = 2 := by simpa [lenI] using hln
    subst hln
    obtain ⟨x, st0, rfl, hi, rfl, rfl, rfl, -⟩ := storeI_inv hs
    obtain ⟨lv, h1, h2⟩ := hL
    exact lv_istore hx hb hdg h1 hi rfl (fun ls' hl => K.same C hS ⟨_, by rw [List.length_set]; exact hl, LR_set h2 hi⟩)
  | astore_n k =>
    have hln : len = 1 := by simpa [lenI] using hln
    subst hln
    obtain ⟨x, st0, rfl, hi, rfl, rfl, rfl, -⟩ := storeA_inv hs
    obtain ⟨lv, h1, h2⟩ := hL
    exact lv_astore_n hx hb hdg rfl h1 hi rfl (fun ls' hl => K.same C hS ⟨_, by rw [List.length_set]; exact hl, LR_set h2 hi⟩)
  | astore k =>
    have hln : len = 2 := by simpa [lenI] using hln
    subst hln
    obtain ⟨x, st0, rfl, hi, rfl, rfl, rfl, -⟩ := storeA_inv hs
    obtain ⟨lv, h1, h2⟩ := hL
    exact lv_astore hx hb hdg h1 hi rfl (fun ls' hl => K.same C hS ⟨_, by rw [List.length_set]; exact hl, LR_set h2 hi⟩)
  | iinc k n =>
    have hln : len = 3 := by simpa [lenI] using hln
    subst hln
    simp only [stpI] at hs
    split at hs
    · next x hx0 =>
      obtain ⟨rfl, rfl, rfl, -⟩ := goOn_inj hs
      obtain ⟨lv, h1, h2⟩ := hL
      obtain ⟨j, hj⟩ := List.getElem?_of_mem (h2 k _ hx0 rfl)
      have hi : k < lsA.length := (List.getElem?_eq_some_iff.mp hx0).1
      exact lv_iinc hx hb hdg h1 hj rfl hi rfl (fun ls' hl => K.same C hS ⟨_, by rw [List.length_set]; exact hl, LR_set (v := .int (x + Int32.ofInt n)) h2 hi⟩)
    · exact (goOn_no hs).elim
  | iconst n =>
    have hln : len = 1 := by simpa [lenI] using hln
    subst hln
    obtain ⟨rfl, rfl, rfl, -⟩ := goOn_inj hs
    exact lv_iconst hx hb hdg rfl (K.same C hS hL)
  | bipush n =>
    have hln : len = 2 := by simpa [lenI] using hln
    subst hln
    obtain ⟨rfl, rfl, rfl, -⟩ := goOn_inj hs
    exact lv_bipush hx hb hdg rfl (K.same C hS hL)
  | sipush n =>
    have hln : len = 3 := by simpa [lenI] using hln
    subst hln
    obtain ⟨rfl, rfl, rfl, -⟩ := goOn_inj hs
    exact lv_sipush hx hb hdg rfl (K.same C hS hL)
  | iadd =>
    have hln : len = 1 := by simpa [lenI] using hln
    subst hln
    obtain ⟨x, y, st0, rfl, rfl, rfl, rfl, -⟩ := opI2_inv hs
    exact lv_iadd hx hb hdg (K.same C hS hL)
  | isub =>
    have hln : len = 1 := by simpa [lenI] using hln
    subst hln
    obtain ⟨x, y, st0, rfl, rfl, rfl, rfl, -⟩ := opI2_inv hs
    exact lv_isub hx hb hdg (K.same C hS hL)
  | imul =>
    have hln : len = 1 := by simpa [lenI] using hln
    subst hln
    obtain ⟨x, y, st0, rfl, rfl, rfl, rfl, -⟩ := opI2_inv hs
    exact lv_imul hx hb hdg (K.same C hS hL)
  | iand =>
    have hln : len = 1 := by simpa [lenI] using hln
    subst hln
    obtain ⟨x, y, st0, rfl, rfl, rfl, rfl, -⟩ := opI2_inv hs
    exact lv_iand hx hb hdg (K.same C hS hL)
  | ior =>
    have hln : len = 1 := by simpa [lenI] using hln
    subst hln
    obtain ⟨x, y, st0, rfl, rfl, rfl, rfl, -⟩ := opI2_inv hs
    exact lv_ior hx hb hdg (K.same C hS hL)
  | ixor =>
    have hln : len = 1 := by simpa [lenI] using hln
    subst hln
    obtain ⟨x, y, st0, rfl, rfl, rfl, rfl, -⟩ := opI2_inv hs
    exact lv_ixor hx hb hdg (K.same C hS hL)
  | ishl =>
    have hln : len = 1 := by simpa [lenI] using hln
    subst hln
    obtain ⟨x, y, st0, rfl, rfl, rfl, rfl, -⟩ := opI2_inv hs
    exact lv_ishl hx hb hdg (K.same C hS hL)
  | ishr =>
    have hln : len = 1 := by simpa [lenI] using hln
    subst hln
    obtain ⟨x, y, st0, rfl, rfl, rfl, rfl, -⟩ := opI2_inv hs
    exact lv_ishr hx hb hdg (K.same C hS hL)
  | iushr =>
    have hln : len = 1 := by simpa [lenI] using hln
    subst hln
    obtain ⟨x, y, st0, rfl, rfl, rfl, rfl, -⟩ := opI2_inv hs
    exact lv_iushr hx hb hdg rfl (K.same C hS hL)
  | idiv =>
    have hln : len = 1 := by simpa [lenI] using hln
    subst hln
    obtain ⟨x, y, st0, rfl, hy, rfl, rfl, rfl, -⟩ := opD2_inv hs
    exact lv_idiv hx hb hdg hy (K.same C hS hL)
  | irem =>
    have hln : len = 1 := by simpa [lenI] using hln
    subst hln
    obtain ⟨x, y, st0, rfl, hy, rfl, rfl, rfl, -⟩ := opD2_inv hs
    exact lv_irem hx hb hdg hy (K.same C hS hL)
  | ineg =>
    have hln : len = 1 := by simpa [lenI] using hln
    subst hln
    obtain ⟨x, st0, rfl, rfl, rfl, rfl, -⟩ := opI1_inv hs
    exact lv_ineg hx hb hdg (K.same C hS hL)
  | i2b =>
    have hln : len = 1 := by simpa [lenI] using hln
    subst hln
    obtain ⟨x, st0, rfl, rfl, rfl, rfl, -⟩ := opI1_inv hs
    exact lv_i2b hx hb hdg rfl (K.same C hS hL)
  | i2c =>
    have hln : len = 1 := by simpa [lenI] using hln
    subst hln
    obtain ⟨x, st0, rfl, rfl, rfl, rfl, -⟩ := opI1_inv hs
    exact lv_i2c hx hb hdg rfl (K.same C hS hL)
  | dup =>
    have hln : len = 1 := by simpa [lenI] using hln
    subst hln
    simp only [stpI] at hs
    split at hs
    · obtain ⟨rfl, rfl, rfl, -⟩ := goOn_inj hs
      exact lv_dup hx hb hdg rfl (K.same C hS hL)
    · obtain ⟨rfl, rfl, rfl, -⟩ := goOn_inj hs
      exact lv_dup hx hb hdg rfl (K.same C hS hL)
    · exact (goOn_no hs).elim
  | pop =>
    have hln : len = 1 := by simpa [lenI] using hln
    subst hln
    simp only [stpI] at hs
    split at hs
    · obtain ⟨rfl, rfl, rfl, -⟩ := goOn_inj hs
      exact lv_pop hx hb hdg rfl (K.same C hS hL)
    · obtain ⟨rfl, rfl, rfl, -⟩ := goOn_inj hs
      exact lv_pop hx hb hdg rfl (K.same C hS hL)
    · exact (goOn_no hs).elim
  | dup_x1 =>
    have hln : len = 1 := by simpa [lenI] using hln
    subst hln
    simp only [stpI] at hs
    split at hs
    · obtain ⟨rfl, rfl, rfl, -⟩ := goOn_inj hs
      exact lv_dup_x1 hx hb hdg rfl rfl (K.same C hS hL)
    · exact (goOn_no hs).elim
  | dup_x2 =>
    have hln : len = 1 := by simpa [lenI] using hln
    subst hln
    simp only [stpI] at hs
    split at hs
    · obtain ⟨rfl, rfl, rfl, -⟩ := goOn_inj hs
      exact lv_dup_x2 hx hb hdg rfl rfl rfl (K.same C hS hL)
    · exact (goOn_no hs).elim
  | dup2 =>
    have hln : len = 1 := by simpa [lenI] using hln
    subst hln
    simp only [stpI] at hs
    split at hs
    · obtain ⟨rfl, rfl, rfl, -⟩ := goOn_inj hs
      exact lv_dup2_11 hx hb hdg rfl rfl (K.same C hS hL)
    · exact (goOn_no hs).elim
  | goto off =>
    have hln : len = 3 := by simpa [lenI] using hln
    subst hln
    simp only [stpI] at hs
    split at hs
    · next t y =>
      have ht : (pc : Int) + off = (t : Int) := of_decide_eq_true hmis
      obtain ⟨rfl, rfl, rfl, -⟩ := goOn_inj hs
      exact lv_goto hx hb hdg ht (K.same C hS hL)
    · exact (goOn_no hs).elim
  | ifCond k off =>
    have hln : len = 3 := by simpa [lenI] using hln
    subst hln
    simp only [stpI] at hs
    split at hs
    · next t y =>
      have ht : (pc : Int) + off = (t : Int) := of_decide_eq_true hmis
      obtain ⟨x, st0, rfl, rfl, rfl, rfl, -⟩ := br1_inv hs
      cases k with
      | eq =>
        refine lv_if_eq hx hb hdg ht (fun hc => ?_) (fun hc => ?_)
        · have e1 : if1 .eq x = true := by first | (simp [if1, Int32.not_lt, hc]; done) | (simp only [Int32.not_le, Int32.not_lt, Decidable.not_not] at hc; simp [if1, Int32.not_lt, hc])
          rw [e1] at K; exact K.same C hS hL
        · have e1 : if1 .eq x = false := by first | (simp [if1, Int32.not_lt, hc]; done) | (simp only [Int32.not_le, Int32.not_lt, Decidable.not_not] at hc; simp [if1, Int32.not_lt, hc])
          rw [e1] at K; exact K.same C hS hL
      | ne =>
        refine lv_if_ne hx hb hdg ht (fun hc => ?_) (fun hc => ?_)
        · have e1 : if1 .ne x = true := by first | (simp [if1, Int32.not_lt, hc]; done) | (simp only [Int32.not_le, Int32.not_lt, Decidable.not_not] at hc; simp [if1, Int32.not_lt, hc])
          rw [e1] at K; exact K.same C hS hL
        · have e1 : if1 .ne x = false := by first | (simp [if1, Int32.not_lt, hc]; done) | (simp only [Int32.not_le, Int32.not_lt, Decidable.not_not] at hc; simp [if1, Int32.not_lt, hc])
          rw [e1] at K; exact K.same C hS hL
      | lt =>
        refine lv_if_lt hx hb hdg ht (fun hc => ?_) (fun hc => ?_)
        · have e1 : if1 .lt x = true := by first | (simp [if1, Int32.not_lt, hc]; done) | (simp only [Int32.not_le, Int32.not_lt, Decidable.not_not] at hc; simp [if1, Int32.not_lt, hc])
          rw [e1] at K; exact K.same C hS hL
        · have e1 : if1 .lt x = false := by first | (simp [if1, Int32.not_lt, hc]; done) | (simp only [Int32.not_le, Int32.not_lt, Decidable.not_not] at hc; simp [if1, Int32.not_lt, hc])
          rw [e1] at K; exact K.same C hS hL
      | ge =>
        refine lv_if_ge hx hb hdg ht (fun hc => ?_) (fun hc => ?_)
        · have e1 : if1 .ge x = true := by first | (simp [if1, Int32.not_lt, hc]; done) | (simp only [Int32.not_le, Int32.not_lt, Decidable.not_not] at hc; simp [if1, Int32.not_lt, hc])
          rw [e1] at K; exact K.same C hS hL
        · have e1 : if1 .ge x = false := by first | (simp [if1, Int32.not_lt, hc]; done) | (simp only [Int32.not_le, Int32.not_lt, Decidable.not_not] at hc; simp [if1, Int32.not_lt, hc])
          rw [e1] at K; exact K.same C hS hL
      | gt =>
        refine lv_if_gt hx hb hdg ht (fun hc => ?_) (fun hc => ?_)
        · have e1 : if1 .gt x = true := by first | (simp [if1, Int32.not_lt, hc]; done) | (simp only [Int32.not_le, Int32.not_lt, Decidable.not_not] at hc; simp [if1, Int32.not_lt, hc])
          rw [e1] at K; exact K.same C hS hL
        · have e1 : if1 .gt x = false := by first | (simp [if1, Int32.not_lt, hc]; done) | (simp only [Int32.not_le, Int32.not_lt, Decidable.not_not] at hc; simp [if1, Int32.not_lt, hc])
          rw [e1] at K; exact K.same C hS hL
      | le =>
        refine lv_if_le hx hb hdg ht (fun hc => ?_) (fun hc => ?_)
        · have e1 : if1 .le x = true := by first | (simp [if1, Int32.not_lt, hc]; done) | (simp only [Int32.not_le, Int32.not_lt, Decidable.not_not] at hc; simp [if1, Int32.not_lt, hc])
          rw [e1] at K; exact K.same C hS hL
        · have e1 : if1 .le x = false := by first | (simp [if1, Int32.not_lt, hc]; done) | (simp only [Int32.not_le, Int32.not_lt, Decidable.not_not] at hc; simp [if1, Int32.not_lt, hc])
          rw [e1] at K; exact K.same C hS hL
    · exact (goOn_no hs).elim
  | if_icmp k off =>
    have hln : len = 3 := by simpa [lenI] using hln
    subst hln
    simp only [stpI] at hs
    split at hs
    · next t y =>
      have ht : (pc : Int) + off = (t : Int) := of_decide_eq_true hmis
      obtain ⟨x, y, st0, rfl, rfl, rfl, rfl, -⟩ := br2_inv hs
      cases k with
      | eq =>
        refine lv_icmp_eq hx hb hdg ht (fun hc => ?_) (fun hc => ?_)
        · have e1 : if2 .eq x y = true := by first | (simp [if2, Int32.not_lt, hc]; done) | (simp only [Int32.not_le, Int32.not_lt, Decidable.not_not] at hc; simp [if2, Int32.not_lt, hc])
          rw [e1] at K; exact K.same C hS hL
        · have e1 : if2 .eq x y = false := by first | (simp [if2, Int32.not_lt, hc]; done) | (simp only [Int32.not_le, Int32.not_lt, Decidable.not_not] at hc; simp [if2, Int32.not_lt, hc])
          rw [e1] at K; exact K.same C hS hL
      | ne =>
        refine lv_icmp_ne hx hb hdg ht (fun hc => ?_) (fun hc => ?_)
        · have e1 : if2 .ne x y = true := by first | (simp [if2, Int32.not_lt, hc]; done) | (simp only [Int32.not_le, Int32.not_lt, Decidable.not_not] at hc; simp [if2, Int32.not_lt, hc])
          rw [e1] at K; exact K.same C hS hL
        · have e1 : if2 .ne x y = false := by first | (simp [if2, Int32.not_lt, hc]; done) | (simp only [Int32.not_le, Int32.not_lt, Decidable.not_not] at hc; simp [if2, Int32.not_lt, hc])
          rw [e1] at K; exact K.same C hS hL
      | lt =>
        refine lv_icmp_lt hx hb hdg ht (fun hc => ?_) (fun hc => ?_)
        · have e1 : if2 .lt x y = true := by first | (simp [if2, Int32.not_lt, hc]; done) | (simp only [Int32.not_le, Int32.not_lt, Decidable.not_not] at hc; simp [if2, Int32.not_lt, hc])
          rw [e1] at K; exact K.same C hS hL
        · have e1 : if2 .lt x y = false := by first | (simp [if2, Int32.not_lt, hc]; done) | (simp only [Int32.not_le, Int32.not_lt, Decidable.not_not] at hc; simp [if2, Int32.not_lt, hc])
          rw [e1] at K; exact K.same C hS hL
      | ge =>
        refine lv_icmp_ge hx hb hdg ht (fun hc => ?_) (fun hc => ?_)
        · have e1 : if2 .ge x y = true := by first | (simp [if2, Int32.not_lt, hc]; done) | (simp only [Int32.not_le, Int32.not_lt, Decidable.not_not] at hc; simp [if2, Int32.not_lt, hc])
          rw [e1] at K; exact K.same C hS hL
        · have e1 : if2 .ge x y = false := by first | (simp [if2, Int32.not_lt, hc]; done) | (simp only [Int32.not_le, Int32.not_lt, Decidable.not_not] at hc; simp [if2, Int32.not_lt, hc])
          rw [e1] at K; exact K.same C hS hL
      | gt =>
        refine lv_icmp_gt hx hb hdg ht (fun hc => ?_) (fun hc => ?_)
        · have e1 : if2 .gt x y = true := by first | (simp [if2, Int32.not_lt, hc]; done) | (simp only [Int32.not_le, Int32.not_lt, Decidable.not_not] at hc; simp [if2, Int32.not_lt, hc])
          rw [e1] at K; exact K.same C hS hL
        · have e1 : if2 .gt x y = false := by first | (simp [if2, Int32.not_lt, hc]; done) | (simp only [Int32.not_le, Int32.not_lt, Decidable.not_not] at hc; simp [if2, Int32.not_lt, hc])
          rw [e1] at K; exact K.same C hS hL
      | le =>
        refine lv_icmp_le hx hb hdg ht (fun hc => ?_) (fun hc => ?_)
        · have e1 : if2 .le x y = true := by first | (simp [if2, Int32.not_lt, hc]; done) | (simp only [Int32.not_le, Int32.not_lt, Decidable.not_not] at hc; simp [if2, Int32.not_lt, hc])
          rw [e1] at K; exact K.same C hS hL
        · have e1 : if2 .le x y = false := by first | (simp [if2, Int32.not_lt, hc]; done) | (simp only [Int32.not_le, Int32.not_lt, Decidable.not_not] at hc; simp [if2, Int32.not_lt, hc])
          rw [e1] at K; exact K.same C hS hL
    · exact (goOn_no hs).elim
  | tableswitch d lo hi offs =>
    simp only [stpI] at hs
    split at hs
    · next y t r x st0 =>
      obtain ⟨rfl, rfl, rfl, -⟩ := goOn_inj hs
      simp only [mis, Bool.and_eq_true, decide_eq_true_eq] at hmis
      obtain ⟨⟨⟨⟨h1, h2⟩, h3⟩, h4⟩, h5⟩ := hmis
      exact sw_table hx hb hdg h1 h2 h3 h4 h5 (K.same C hS hL)
    · exact (goOn_no hs).elim
  | lookupswitch d ps =>
    simp only [stpI] at hs
    split at hs
    · next y t r x st0 =>
      obtain ⟨rfl, rfl, rfl, -⟩ := goOn_inj hs
      simp only [mis, Bool.and_eq_true, decide_eq_true_eq] at hmis
      obtain ⟨⟨⟨h1, h2⟩, h3⟩, h4⟩ := hmis
      exact sw_look hx hb hdg h1 h2 h3 h4 (K.same C hS hL)
    · exact (goOn_no hs).elim
  | _ => exact hp.elim
end SIM
