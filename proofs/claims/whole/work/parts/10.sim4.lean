section SIM4
variable {p : Program} {l : Launch} {e : Env} {R : Room} {s : State} {m : MethodId} {args : Array Value} {below : List Frame} {meth : Method} {c : Code}
variable {b : Nat} {ro : Nat → Nat} {D : va_G} {tyC : Nat → Nat} {L : Nat} {xs : Nat → Int32}
variable {M pc pc' : Nat} {len : Nat} {info : List (Nat × Nat)} {lsA stA lsA' stA' : List Value} {h h' : AHp} {Q : State → Prop} {cells slots : Nat} {H : Heap} {locs : List Loc} {ls : Array Slot}
theorem cat_sum : ∀ (l : List Value), (l.map fun v => v.category).sum ≤ 2 * l.length := by
  intro l
  induction l with
  | nil => simp
  | cons v l ih =>
    have := lv_cat v
    simp only [List.map_cons, List.sum_cons, List.length_cons]
    omega
theorem cat_sum1 {ad : Nat → Nat} : ∀ (l : List Value), l.all isV = true → ((l.map (cvV ad)).map fun v => v.category).sum = l.length := by
  intro l
  induction l with
  | nil => intro _; rfl
  | cons v l ih =>
    intro hl
    simp only [List.all_cons, Bool.and_eq_true] at hl
    simp only [List.map_cons, List.sum_cons, List.length_cons, ih hl.2, isV_cat (ad := ad) hl.1]
    omega
theorem inS_no {info : List (Nat × Nat)} {pc pc' : Nat} {ls st ls' st' : List Value} {h h' : AHp} (e : inS info pc ls st h = goOn pc' ls' st' h') : ∃ x n dp bb sp a st0 y, info = [(1000, x)] ∧ st = .int n :: .int dp :: .ref bb :: .int sp :: .ref a :: st0 ∧ copyC (h.1 a) (h.1 bb) sp dp n = some y ∧ st0.length ≤ 8 ∧ pc' = pc ∧ ls' = ls ∧ st' = st0 ∧ h' = hset h bb y := by
  unfold inS at e
  split at e
  · next k c =>
    split at e
    · next hk =>
      subst hk
      split at e
      · next n dp bb sp a st0 =>
        split at e
        · next y hy =>
          split at e
          · next hl => obtain ⟨a1, a2, a3, a4⟩ := goOn_inj e; exact ⟨c, n, dp, bb, sp, a, st0, y, rfl, rfl, hy, hl, a1, a2, a3, a4⟩
          · exact (goOn_no e).elim
        · exact (goOn_no e).elim
      · exact (goOn_no e).elim
    · split at e
      · split at e
        · cases e
        · exact (goOn_no e).elim
      · exact (goOn_no e).elim
  · exact (goOn_no e).elim
theorem inV_no {info : List (Nat × Nat)} {pc pc' : Nat} {ls st ls' st' : List Value} {h h' : AHp} (e : inV info pc ls st h = goOn pc' ls' st' h') : False := by
  unfold inV at e
  repeat' split at e
  all_goals cases e
theorem inP_no {info : List (Nat × Nat)} {pc pc' : Nat} {ls st ls' st' : List Value} {h h' : AHp} (e : inP info pc ls st h = goOn pc' ls' st' h') : ∃ x a st0, info = [(1001, x)] ∧ st = .ref a :: st0 ∧ st0.length ≤ 8 ∧ pc' = pc ∧ ls' = ls ∧ st' = st0 ∧ h' = h := by
  unfold inP at e
  split at e
  · next k c =>
    split at e
    · next hk =>
      subst hk
      split at e
      · next a st0 =>
        split at e
        · next hl => obtain ⟨a1, a2, a3, a4⟩ := goOn_inj e; exact ⟨c, a, st0, rfl, rfl, hl, a1, a2, a3, a4⟩
        · exact (goOn_no e).elim
      · exact (goOn_no e).elim
    · split at e
      · split at e
        · cases e
        · exact (goOn_no e).elim
      · exact (goOn_no e).elim
  · exact (goOn_no e).elim
theorem two_or {t : Nat} (h : t < 2) : t = 0 ∨ t = 1 := by omega
theorem sim_copy {i : Nat} (F : Fr p s m args meth c b ro D tyC L xs M) (hcd : cd M pc = some (pc, .invokestatic i, len, info))
    (hs : stpI M pc (.invokestatic i) len info lsA stA h = goOn pc' lsA' stA' h') (C : Cn b ro D tyC L xs h H) (hS : va_S (fun q : Nat => b ≤ q) s.heap H locs) (hL : LR (adr b ro) lsA ls) (hcz : s.heap.size + cells = H.size) (hrc : cells + (h'.2.1 - h.2.1) ≤ R.cells) (hrs : slots + (h'.2.2 - h.2.2) ≤ R.slots) (hfr : 1 ≤ R.frames) (hlo : 64 ≤ R.locals) (hll : lsA.length = (mH M).2.1)
    (K : Nxt p l e R s m args below meth c b ro D tyC L xs Q h h' cells slots pc' lsA' stA') : W p l e R s m args below meth c H locs cells slots Q (F0 m pc ls (stA.map (cvV (adr b ro)))) := by
  obtain ⟨hx, hb, hml, hown, hnm, hts, hE⟩ := F
  obtain ⟨-, hdg, hln, hmis, hwd⟩ := cd_ok hcd
  simp only at hdg hln hmis hwd
  have hln : len = 3 := by simpa [lenI] using hln
  subst hln
  obtain ⟨x, n, dp, bb, sp, a, st0, y, rfl, rfl, hy, hl8, rfl, rfl, rfl, rfl⟩ := inS_no hs
  have hw : ∀ w ∈ [Cond.methodLink (mH M).1.cls i arraycopyName, Cond.native arraycopyName, Cond.static arraycopyName, Cond.initialized "java/lang/System"], w.before args s = true := by
    rcases hwd with ⟨x, hx1⟩ | hwd
    · cases hx1
    · intro w hw
      refine hts _ (lwG_of (hwd w ?_))
      simp only [need, List.flatMap_cons, List.flatMap_nil, List.append_nil, sW, if_true]
      exact hw
  unfold copyC at hy
  split at hy
  · next t1 n1 f t2 n2 g ho1 ho2 =>
    split at hy
    · next hc =>
      obtain ⟨h1, h2, h3, h4, h5, h6, h7, h8⟩ := hc
      have hy1 := (Option.some.inj hy).symm
      subst hy1
      subst h1
      have hls : ls.size = (mH M).2.1 := by
        obtain ⟨lv, g1, -⟩ := hL
        rw [g1.1, hll]
      have hne : ¬ t1 = 99 := fun z => by subst z; exact absurd h2 (by decide)
      rcases C.arr ho1 hne with ⟨a1, a2, a3⟩ | ⟨a1, a2, a3, a4, a5⟩ | ⟨a1, a2, a3, a4⟩
      · rcases C.arr ho2 hne with ⟨b1, b2, b3⟩ | ⟨b1, b2, b3, b4, b5⟩ | ⟨b1, b2, b3, b4⟩
        · refine va_copyi hx hb (by rw [hml, hls]) hown (hw _ (by simp)) (hw _ (by simp)) (hw _ (by simp)) (hw _ (by simp)) hE.1 C.1 conc_D hS (a - 32) (bb - 32) t1 t1 (ty := tagT t1) a3 b3 (tys_tag a1) (tys_tag a1) ?_ h3 h4 h5 h6 h7 ?_ hfr ?_ hdg (fun H1 locs1 hP1 hD1 hS1 => ?_)
          · match t1, h2 with
            | 0, _ => rfl
            | 1, _ => rfl
          · intro i hi
            rcases two_or h2 with z | z
            · rw [z]; rfl
            · rw [z]; exact h8 z i hi
          · have := cat_sum (stA'.map (cvV (adr b ro)))
            rw [List.length_map] at this
            have e5 : nativeFrameWords "java/lang/System" "arraycopy" 5 = 7 := by decide +kernel
            omega
          · refine W_size fun hz => ?_
            exact K.set (C.put b2 (show wfC (.inl (t1, n2, .inl (va_cpy f g sp.toNatClampNeg dp.toNatClampNeg n.toNatClampNeg))) from a1) hP1 (put_size (s := s) (cells := cells) (x := .inl (t1, n2, .inl (va_cpy f g sp.toNatClampNeg dp.toNatClampNeg n.toNatClampNeg))) C (C.own b2).1 hP1 hE.2.2.2.2.2.2.2.2.2.2 hS1.1 hcz hz)) hS1 hL
        · exact absurd (show (11 : Nat) < 2 from b3 ▸ h2) (by decide)
        · exact absurd (show (10 : Nat) < 2 from b2 ▸ h2) (by decide)
      · exact absurd (show (11 : Nat) < 2 from a3 ▸ h2) (by decide)
      · exact absurd (show (10 : Nat) < 2 from a2 ▸ h2) (by decide)
    · cases hy
  · cases hy
theorem sim_objInit {i : Nat} (F : Fr p s m args meth c b ro D tyC L xs M) (hcd : cd M pc = some (pc, .invokespecial i, len, info))
    (hs : stpI M pc (.invokespecial i) len info lsA stA h = goOn pc' lsA' stA' h') (C : Cn b ro D tyC L xs h H) (hS : va_S (fun q : Nat => b ≤ q) s.heap H locs) (hL : LR (adr b ro) lsA ls) (hcz : s.heap.size + cells = H.size) (hrc : cells + (h'.2.1 - h.2.1) ≤ R.cells) (hrs : slots + (h'.2.2 - h.2.2) ≤ R.slots) (hfr : 1 ≤ R.frames) (hlo : 64 ≤ R.locals) (hll : lsA.length = (mH M).2.1)
    (K : Nxt p l e R s m args below meth c b ro D tyC L xs Q h h' cells slots pc' lsA' stA') : W p l e R s m args below meth c H locs cells slots Q (F0 m pc ls (stA.map (cvV (adr b ro)))) := by
  obtain ⟨hx, hb, hml, hown, hnm, hts, hE⟩ := F
  obtain ⟨-, hdg, hln, hmis, hwd⟩ := cd_ok hcd
  simp only at hdg hln hmis hwd
  have hln : len = 3 := by simpa [lenI] using hln
  subst hln
  obtain ⟨x, a, st0, rfl, rfl, hl8, rfl, rfl, rfl, rfl⟩ := inP_no hs
  have hw : ∀ w ∈ [Cond.methodLink (mH M).1.cls i Lib.objectInit, Cond.instanceMethod Lib.objectInit, Cond.code Lib.objectInit ⟨#[0xb1]⟩ 1 none], w.before args s = true := by
    rcases hwd with ⟨x, hx1⟩ | hwd
    · cases hx1
    · intro w hw
      refine hts _ (lwG_of (hwd w ?_))
      simp only [need, List.flatMap_cons, List.flatMap_nil, List.append_nil, pW, if_true]
      exact hw
  have hls : ls.size = (mH M).2.1 := by
    obtain ⟨lv, g1, -⟩ := hL
    rw [g1.1, hll]
  refine W.objInit hx hb hown (hw _ (by simp)) (hw _ (by simp)) (hw _ (by simp)) rfl (by show ls.size = _; rw [hml]; exact hls) rfl hdg hfr ?_ ?_
  · have := cat_sum (stA'.map (cvV (adr b ro)))
    rw [List.length_map] at this
    show 2 * 0 + _ + 12 ≤ _
    omega
  · exact K.same C hS hL

/-- a step keeps the number of locals, and takes no cell away -/
theorem step_inv {M pc pc' : Nat} {ins : Instr} {len : Nat} {info : List (Nat × Nat)} {lsA stA lsA' stA' : List Value} {h h' : AHp} (hs : stpI M pc ins len info lsA stA h = goOn pc' lsA' stA' h') : lsA'.length = lsA.length ∧ h.2.1 ≤ h'.2.1 ∧ h.2.2 ≤ h'.2.2 := by
  have go : ∀ {a : Nat} {l s : List Value} {g : AHp}, goOn a l s g = goOn pc' lsA' stA' h' → l.length = lsA.length → h.2.1 ≤ g.2.1 → h.2.2 ≤ g.2.2 → lsA'.length = lsA.length ∧ h.2.1 ≤ h'.2.1 ∧ h.2.2 ≤ h'.2.2 := by
    intro a l s g e1 e2 e3 e4
    obtain ⟨-, rfl, -, rfl⟩ := goOn_inj e1
    exact ⟨e2, e3, e4⟩
  have hn : ∀ (x : va_E) (k : Nat), h.2.1 ≤ (hnew h x k).2.1 ∧ h.2.2 ≤ (hnew h x k).2.2 := fun x k => ⟨Nat.le_succ _, Nat.le_add_right _ _⟩
  cases ins with
  | iload_n k => obtain ⟨x, -, -, rfl, -, rfl⟩ := loadI_inv hs; exact ⟨rfl, Nat.le_refl _, Nat.le_refl _⟩
  | iload k => obtain ⟨x, -, -, rfl, -, rfl⟩ := loadI_inv hs; exact ⟨rfl, Nat.le_refl _, Nat.le_refl _⟩
  | aload_n k => obtain ⟨x, -, -, rfl, -, rfl⟩ := loadA_inv hs; exact ⟨rfl, Nat.le_refl _, Nat.le_refl _⟩
  | aload k => obtain ⟨x, -, -, rfl, -, rfl⟩ := loadA_inv hs; exact ⟨rfl, Nat.le_refl _, Nat.le_refl _⟩
  | istore_n k => obtain ⟨x, st0, -, -, -, rfl, -, rfl⟩ := storeI_inv hs; exact ⟨List.length_set, Nat.le_refl _, Nat.le_refl _⟩
  | istore k => obtain ⟨x, st0, -, -, -, rfl, -, rfl⟩ := storeI_inv hs; exact ⟨List.length_set, Nat.le_refl _, Nat.le_refl _⟩
  | astore_n k => obtain ⟨x, st0, -, -, -, rfl, -, rfl⟩ := storeA_inv hs; exact ⟨List.length_set, Nat.le_refl _, Nat.le_refl _⟩
  | astore k => obtain ⟨x, st0, -, -, -, rfl, -, rfl⟩ := storeA_inv hs; exact ⟨List.length_set, Nat.le_refl _, Nat.le_refl _⟩
  | iinc k n =>
    simp only [stpI] at hs
    split at hs
    · exact go hs List.length_set (Nat.le_refl _) (Nat.le_refl _)
    · exact (goOn_no hs).elim
  | invokestatic i => obtain ⟨x, n, dp, bb, sp, a, st0, y, -, -, -, -, -, rfl, -, rfl⟩ := inS_no hs; exact ⟨rfl, Nat.le_refl _, Nat.le_refl _⟩
  | invokevirtual i => exact (inV_no hs).elim
  | invokespecial i => obtain ⟨x, a, st0, -, -, -, -, rfl, -, rfl⟩ := inP_no hs; exact ⟨rfl, Nat.le_refl _, Nat.le_refl _⟩
  | new i =>
    simp only [stpI] at hs
    repeat' split at hs
    all_goals first | exact (goOn_no hs).elim | exact go hs rfl (hn _ _).1 (hn _ _).2
  | newarray i =>
    simp only [stpI] at hs
    repeat' split at hs
    all_goals first | exact (goOn_no hs).elim | exact go hs rfl (hn _ _).1 (hn _ _).2
  | anewarray i =>
    simp only [stpI] at hs
    repeat' split at hs
    all_goals first | exact (goOn_no hs).elim | exact go hs rfl (hn _ _).1 (hn _ _).2
  | iadd => obtain ⟨x, y, st0, -, -, rfl, -, rfl⟩ := opI2_inv hs; exact ⟨rfl, Nat.le_refl _, Nat.le_refl _⟩
  | isub => obtain ⟨x, y, st0, -, -, rfl, -, rfl⟩ := opI2_inv hs; exact ⟨rfl, Nat.le_refl _, Nat.le_refl _⟩
  | imul => obtain ⟨x, y, st0, -, -, rfl, -, rfl⟩ := opI2_inv hs; exact ⟨rfl, Nat.le_refl _, Nat.le_refl _⟩
  | iand => obtain ⟨x, y, st0, -, -, rfl, -, rfl⟩ := opI2_inv hs; exact ⟨rfl, Nat.le_refl _, Nat.le_refl _⟩
  | ior => obtain ⟨x, y, st0, -, -, rfl, -, rfl⟩ := opI2_inv hs; exact ⟨rfl, Nat.le_refl _, Nat.le_refl _⟩
  | ixor => obtain ⟨x, y, st0, -, -, rfl, -, rfl⟩ := opI2_inv hs; exact ⟨rfl, Nat.le_refl _, Nat.le_refl _⟩
  | ishl => obtain ⟨x, y, st0, -, -, rfl, -, rfl⟩ := opI2_inv hs; exact ⟨rfl, Nat.le_refl _, Nat.le_refl _⟩
  | ishr => obtain ⟨x, y, st0, -, -, rfl, -, rfl⟩ := opI2_inv hs; exact ⟨rfl, Nat.le_refl _, Nat.le_refl _⟩
  | iushr => obtain ⟨x, y, st0, -, -, rfl, -, rfl⟩ := opI2_inv hs; exact ⟨rfl, Nat.le_refl _, Nat.le_refl _⟩
  | idiv => obtain ⟨x, y, st0, -, -, -, rfl, -, rfl⟩ := opD2_inv hs; exact ⟨rfl, Nat.le_refl _, Nat.le_refl _⟩
  | irem => obtain ⟨x, y, st0, -, -, -, rfl, -, rfl⟩ := opD2_inv hs; exact ⟨rfl, Nat.le_refl _, Nat.le_refl _⟩
  | ineg => obtain ⟨x, st0, -, -, rfl, -, rfl⟩ := opI1_inv hs; exact ⟨rfl, Nat.le_refl _, Nat.le_refl _⟩
  | i2b => obtain ⟨x, st0, -, -, rfl, -, rfl⟩ := opI1_inv hs; exact ⟨rfl, Nat.le_refl _, Nat.le_refl _⟩
  | i2c => obtain ⟨x, st0, -, -, rfl, -, rfl⟩ := opI1_inv hs; exact ⟨rfl, Nat.le_refl _, Nat.le_refl _⟩
  | ifCond k off =>
    simp only [stpI] at hs
    split at hs
    · obtain ⟨x, st0, -, -, rfl, -, rfl⟩ := br1_inv hs; exact ⟨rfl, Nat.le_refl _, Nat.le_refl _⟩
    · exact (goOn_no hs).elim
  | if_icmp k off =>
    simp only [stpI] at hs
    split at hs
    · obtain ⟨x, y, st0, -, -, rfl, -, rfl⟩ := br2_inv hs; exact ⟨rfl, Nat.le_refl _, Nat.le_refl _⟩
    · exact (goOn_no hs).elim
  | ireturn =>
    simp only [stpI] at hs
    repeat' split at hs
    all_goals cases hs
  | areturn =>
    simp only [stpI] at hs
    repeat' split at hs
    all_goals cases hs
  | return_ =>
    simp only [stpI] at hs
    repeat' split at hs
    all_goals cases hs
  | _ =>
    simp only [stpI] at hs
    first
      | exact (goOn_no hs).elim
      | exact go hs rfl (Nat.le_refl _) (Nat.le_refl _)
      | (repeat' split at hs) <;> first | exact (goOn_no hs).elim | exact go hs rfl (Nat.le_refl _) (Nat.le_refl _)
/-- a step that goes on -/
theorem step_sim (F : Fr p s m args meth c b ro D tyC L xs M) (hs : stp M pc lsA stA h = goOn pc' lsA' stA' h') (C : Cn b ro D tyC L xs h H) (hS : va_S (fun q : Nat => b ≤ q) s.heap H locs) (hL : LR (adr b ro) lsA ls) (hcz : s.heap.size + cells = H.size) (hrc : cells + (h'.2.1 - h.2.1) ≤ R.cells) (hrs : slots + (h'.2.2 - h.2.2) ≤ R.slots) (hfr : 1 ≤ R.frames) (hlo : 64 ≤ R.locals) (hll : lsA.length = (mH M).2.1)
    (K : Nxt p l e R s m args below meth c b ro D tyC L xs Q h h' cells slots pc' lsA' stA') : W p l e R s m args below meth c H locs cells slots Q (F0 m pc ls (stA.map (cvV (adr b ro)))) := by
  unfold stp at hs
  cases hcd : cd M pc with
  | none => rw [hcd] at hs; exact (goOn_no hs).elim
  | some en =>
    rw [hcd] at hs
    obtain ⟨pc0, ins, len, info⟩ := en
    have hp0 := (cd_ok hcd).1
    simp only at hp0 hs
    subst hp0
    cases ins with
    | getfield i => exact sim_getfield F hcd hs C hS hL K
    | putfield i => exact sim_putfield F hcd hs C hS hL hcz K
    | getstatic i => exact sim_getstatic F hcd hs C hS hL K
    | ldc i => exact sim_ldc F hcd hs C hS hL K
    | new i => exact sim_new F hcd hs C hS hL hcz hrc hrs hfr hlo K
    | newarray i => exact sim_newarray F hcd hs C hS hL hcz hrc hrs hfr hlo K
    | anewarray i => exact sim_anewarray F hcd hs C hS hL hcz hrc hrs hfr hlo K
    | arraylength => exact sim_arraylength F hcd hs C hS hL hcz hrc hrs hfr hlo K
    | iaload => exact sim_iaload F hcd hs C hS hL hcz hrc hrs hfr hlo K
    | baload => exact sim_baload F hcd hs C hS hL hcz hrc hrs hfr hlo K
    | aaload => exact sim_aaload F hcd hs C hS hL hcz hrc hrs hfr hlo K
    | iastore => exact sim_iastore F hcd hs C hS hL hcz hrc hrs hfr hlo K
    | bastore => exact sim_bastore F hcd hs C hS hL hcz hrc hrs hfr hlo K
    | aastore => exact sim_aastore F hcd hs C hS hL hcz hrc hrs hfr hlo K
    | instanceof i => exact sim_instanceof F hcd hs C hS hL hcz hrc hrs hfr hlo K
    | invokestatic i => exact sim_copy F hcd hs C hS hL hcz hrc hrs hfr hlo hll K
    | invokespecial i => exact sim_objInit F hcd hs C hS hL hcz hrc hrs hfr hlo hll K
    | invokevirtual i => exact (inV_no hs).elim
    | iload_n k =>
      obtain ⟨x, -, -, -, -, rfl⟩ := loadI_inv hs
      exact pure_sim F hcd trivial hs C hS hL K
    | iload k =>
      obtain ⟨x, -, -, -, -, rfl⟩ := loadI_inv hs
      exact pure_sim F hcd trivial hs C hS hL K
    | aload_n k =>
      obtain ⟨x, -, -, -, -, rfl⟩ := loadA_inv hs
      exact pure_sim F hcd trivial hs C hS hL K
    | aload k =>
      obtain ⟨x, -, -, -, -, rfl⟩ := loadA_inv hs
      exact pure_sim F hcd trivial hs C hS hL K
    | istore_n k =>
      obtain ⟨x, st0, -, -, -, -, -, rfl⟩ := storeI_inv hs
      exact pure_sim F hcd trivial hs C hS hL K
    | istore k =>
      obtain ⟨x, st0, -, -, -, -, -, rfl⟩ := storeI_inv hs
      exact pure_sim F hcd trivial hs C hS hL K
    | astore_n k =>
      obtain ⟨x, st0, -, -, -, -, -, rfl⟩ := storeA_inv hs
      exact pure_sim F hcd trivial hs C hS hL K
    | astore k =>
      obtain ⟨x, st0, -, -, -, -, -, rfl⟩ := storeA_inv hs
      exact pure_sim F hcd trivial hs C hS hL K
    | iinc k n =>
      have e1 : h' = h := by
        simp only [stpI] at hs
        first
          | exact (goOn_inj hs).2.2.2
          | (repeat' split at hs) <;> first | exact (goOn_no hs).elim | exact (goOn_inj hs).2.2.2 | (obtain ⟨x, st0, -, -, -, -, rfl⟩ := br1_inv hs; rfl) | (obtain ⟨x, y, st0, -, -, -, -, rfl⟩ := br2_inv hs; rfl)
      subst e1
      exact pure_sim F hcd trivial hs C hS hL K
    | iconst n =>
      have e1 : h' = h := by
        simp only [stpI] at hs
        first
          | exact (goOn_inj hs).2.2.2
          | (repeat' split at hs) <;> first | exact (goOn_no hs).elim | exact (goOn_inj hs).2.2.2 | (obtain ⟨x, st0, -, -, -, -, rfl⟩ := br1_inv hs; rfl) | (obtain ⟨x, y, st0, -, -, -, -, rfl⟩ := br2_inv hs; rfl)
      subst e1
      exact pure_sim F hcd trivial hs C hS hL K
    | bipush n =>
      have e1 : h' = h := by
        simp only [stpI] at hs
        first
          | exact (goOn_inj hs).2.2.2
          | (repeat' split at hs) <;> first | exact (goOn_no hs).elim | exact (goOn_inj hs).2.2.2 | (obtain ⟨x, st0, -, -, -, -, rfl⟩ := br1_inv hs; rfl) | (obtain ⟨x, y, st0, -, -, -, -, rfl⟩ := br2_inv hs; rfl)
      subst e1
      exact pure_sim F hcd trivial hs C hS hL K
    | sipush n =>
      have e1 : h' = h := by
        simp only [stpI] at hs
        first
          | exact (goOn_inj hs).2.2.2
          | (repeat' split at hs) <;> first | exact (goOn_no hs).elim | exact (goOn_inj hs).2.2.2 | (obtain ⟨x, st0, -, -, -, -, rfl⟩ := br1_inv hs; rfl) | (obtain ⟨x, y, st0, -, -, -, -, rfl⟩ := br2_inv hs; rfl)
      subst e1
      exact pure_sim F hcd trivial hs C hS hL K
    | iadd  =>
      obtain ⟨x, y, st0, -, -, -, -, rfl⟩ := opI2_inv hs
      exact pure_sim F hcd trivial hs C hS hL K
    | isub  =>
      obtain ⟨x, y, st0, -, -, -, -, rfl⟩ := opI2_inv hs
      exact pure_sim F hcd trivial hs C hS hL K
    | imul  =>
      obtain ⟨x, y, st0, -, -, -, -, rfl⟩ := opI2_inv hs
      exact pure_sim F hcd trivial hs C hS hL K
    | iand  =>
      obtain ⟨x, y, st0, -, -, -, -, rfl⟩ := opI2_inv hs
      exact pure_sim F hcd trivial hs C hS hL K
    | ior  =>
      obtain ⟨x, y, st0, -, -, -, -, rfl⟩ := opI2_inv hs
      exact pure_sim F hcd trivial hs C hS hL K
    | ixor  =>
      obtain ⟨x, y, st0, -, -, -, -, rfl⟩ := opI2_inv hs
      exact pure_sim F hcd trivial hs C hS hL K
    | ishl  =>
      obtain ⟨x, y, st0, -, -, -, -, rfl⟩ := opI2_inv hs
      exact pure_sim F hcd trivial hs C hS hL K
    | ishr  =>
      obtain ⟨x, y, st0, -, -, -, -, rfl⟩ := opI2_inv hs
      exact pure_sim F hcd trivial hs C hS hL K
    | iushr  =>
      obtain ⟨x, y, st0, -, -, -, -, rfl⟩ := opI2_inv hs
      exact pure_sim F hcd trivial hs C hS hL K
    | idiv  =>
      obtain ⟨x, y, st0, -, -, -, -, -, rfl⟩ := opD2_inv hs
      exact pure_sim F hcd trivial hs C hS hL K
    | irem  =>
      obtain ⟨x, y, st0, -, -, -, -, -, rfl⟩ := opD2_inv hs
      exact pure_sim F hcd trivial hs C hS hL K
    | ineg  =>
      obtain ⟨x, st0, -, -, -, -, rfl⟩ := opI1_inv hs
      exact pure_sim F hcd trivial hs C hS hL K
    | i2b  =>
      obtain ⟨x, st0, -, -, -, -, rfl⟩ := opI1_inv hs
      exact pure_sim F hcd trivial hs C hS hL K
    | i2c  =>
      obtain ⟨x, st0, -, -, -, -, rfl⟩ := opI1_inv hs
      exact pure_sim F hcd trivial hs C hS hL K
    | dup  =>
      have e1 : h' = h := by
        simp only [stpI] at hs
        first
          | exact (goOn_inj hs).2.2.2
          | (repeat' split at hs) <;> first | exact (goOn_no hs).elim | exact (goOn_inj hs).2.2.2 | (obtain ⟨x, st0, -, -, -, -, rfl⟩ := br1_inv hs; rfl) | (obtain ⟨x, y, st0, -, -, -, -, rfl⟩ := br2_inv hs; rfl)
      subst e1
      exact pure_sim F hcd trivial hs C hS hL K
    | pop  =>
      have e1 : h' = h := by
        simp only [stpI] at hs
        first
          | exact (goOn_inj hs).2.2.2
          | (repeat' split at hs) <;> first | exact (goOn_no hs).elim | exact (goOn_inj hs).2.2.2 | (obtain ⟨x, st0, -, -, -, -, rfl⟩ := br1_inv hs; rfl) | (obtain ⟨x, y, st0, -, -, -, -, rfl⟩ := br2_inv hs; rfl)
      subst e1
      exact pure_sim F hcd trivial hs C hS hL K
    | dup_x1  =>
      have e1 : h' = h := by
        simp only [stpI] at hs
        first
          | exact (goOn_inj hs).2.2.2
          | (repeat' split at hs) <;> first | exact (goOn_no hs).elim | exact (goOn_inj hs).2.2.2 | (obtain ⟨x, st0, -, -, -, -, rfl⟩ := br1_inv hs; rfl) | (obtain ⟨x, y, st0, -, -, -, -, rfl⟩ := br2_inv hs; rfl)
      subst e1
      exact pure_sim F hcd trivial hs C hS hL K
    | dup_x2  =>
      have e1 : h' = h := by
        simp only [stpI] at hs
        first
          | exact (goOn_inj hs).2.2.2
          | (repeat' split at hs) <;> first | exact (goOn_no hs).elim | exact (goOn_inj hs).2.2.2 | (obtain ⟨x, st0, -, -, -, -, rfl⟩ := br1_inv hs; rfl) | (obtain ⟨x, y, st0, -, -, -, -, rfl⟩ := br2_inv hs; rfl)
      subst e1
      exact pure_sim F hcd trivial hs C hS hL K
    | dup2  =>
      have e1 : h' = h := by
        simp only [stpI] at hs
        first
          | exact (goOn_inj hs).2.2.2
          | (repeat' split at hs) <;> first | exact (goOn_no hs).elim | exact (goOn_inj hs).2.2.2 | (obtain ⟨x, st0, -, -, -, -, rfl⟩ := br1_inv hs; rfl) | (obtain ⟨x, y, st0, -, -, -, -, rfl⟩ := br2_inv hs; rfl)
      subst e1
      exact pure_sim F hcd trivial hs C hS hL K
    | ifCond k off =>
      have e1 : h' = h := by
        simp only [stpI] at hs
        first
          | exact (goOn_inj hs).2.2.2
          | (repeat' split at hs) <;> first | exact (goOn_no hs).elim | exact (goOn_inj hs).2.2.2 | (obtain ⟨x, st0, -, -, -, -, rfl⟩ := br1_inv hs; rfl) | (obtain ⟨x, y, st0, -, -, -, -, rfl⟩ := br2_inv hs; rfl)
      subst e1
      exact pure_sim F hcd trivial hs C hS hL K
    | if_icmp k off =>
      have e1 : h' = h := by
        simp only [stpI] at hs
        first
          | exact (goOn_inj hs).2.2.2
          | (repeat' split at hs) <;> first | exact (goOn_no hs).elim | exact (goOn_inj hs).2.2.2 | (obtain ⟨x, st0, -, -, -, -, rfl⟩ := br1_inv hs; rfl) | (obtain ⟨x, y, st0, -, -, -, -, rfl⟩ := br2_inv hs; rfl)
      subst e1
      exact pure_sim F hcd trivial hs C hS hL K
    | goto off =>
      have e1 : h' = h := by
        simp only [stpI] at hs
        first
          | exact (goOn_inj hs).2.2.2
          | (repeat' split at hs) <;> first | exact (goOn_no hs).elim | exact (goOn_inj hs).2.2.2 | (obtain ⟨x, st0, -, -, -, -, rfl⟩ := br1_inv hs; rfl) | (obtain ⟨x, y, st0, -, -, -, -, rfl⟩ := br2_inv hs; rfl)
      subst e1
      exact pure_sim F hcd trivial hs C hS hL K
    | tableswitch d lo hi offs =>
      have e1 : h' = h := by
        simp only [stpI] at hs
        first
          | exact (goOn_inj hs).2.2.2
          | (repeat' split at hs) <;> first | exact (goOn_no hs).elim | exact (goOn_inj hs).2.2.2 | (obtain ⟨x, st0, -, -, -, -, rfl⟩ := br1_inv hs; rfl) | (obtain ⟨x, y, st0, -, -, -, -, rfl⟩ := br2_inv hs; rfl)
      subst e1
      exact pure_sim F hcd trivial hs C hS hL K
    | lookupswitch d ps =>
      have e1 : h' = h := by
        simp only [stpI] at hs
        first
          | exact (goOn_inj hs).2.2.2
          | (repeat' split at hs) <;> first | exact (goOn_no hs).elim | exact (goOn_inj hs).2.2.2 | (obtain ⟨x, st0, -, -, -, -, rfl⟩ := br1_inv hs; rfl) | (obtain ⟨x, y, st0, -, -, -, -, rfl⟩ := br2_inv hs; rfl)
      subst e1
      exact pure_sim F hcd trivial hs C hS hL K
    | ireturn =>
      simp only [stpI] at hs
      repeat' split at hs
      all_goals cases hs
    | areturn =>
      simp only [stpI] at hs
      repeat' split at hs
      all_goals cases hs
    | return_ =>
      simp only [stpI] at hs
      repeat' split at hs
      all_goals cases hs
    | _ =>
      simp only [stpI] at hs
      exact (goOn_no hs).elim
end SIM4
