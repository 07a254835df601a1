section SIM3
variable {p : Program} {l : Launch} {e : Env} {R : Room} {s : State} {m : MethodId} {args : Array Value} {below : List Frame} {meth : Method} {c : Code}
variable {b : Nat} {ro : Nat → Nat} {D : va_G} {tyC : Nat → Nat} {L : Nat} {xs : Nat → Int32}
variable {M pc pc' : Nat} {len : Nat} {info : List (Nat × Nat)} {lsA stA lsA' stA' : List Value} {h h' : AHp} {Q : State → Prop} {cells slots : Nat} {H : Heap} {locs : List Loc} {ls : Array Slot}
theorem tys_tag {tyC : Nat → Nat} {t : Nat} (h : t < 3) : (tysA tyC)[t]? = some (tyC t, tagT t) := by
  match t, h with
  | 0, _ => rfl
  | 1, _ => rfl
  | 2, _ => rfl
theorem tag_cell {t : Nat} (h : t < 3) (cA : ClassId) (n : Nat) : vp_cell cA (n, .inl (fun _ => 0)) = arrV cA n (fun _ => defaultValue (tagT t)) := by
  match t, h with
  | 0, _ => rfl
  | 1, _ => rfl
  | 2, _ => rfl
theorem tag_bytes {t : Nat} (h : t < 3) : componentBytes (tagT t) ≤ 8 := by
  match t, h with
  | 0, _ => exact (by decide)
  | 1, _ => exact (by decide)
  | 2, _ => exact (by decide)
theorem tag_or {t : Nat} (h : t < 3) : tagT t = .int ∨ tagT t = .byte ∨ tagT t = .boolean := by
  match t, h with
  | 0, _ => exact Or.inl rfl
  | 1, _ => exact Or.inr (Or.inl rfl)
  | 2, _ => exact Or.inr (Or.inr rfl)
theorem ra_one {s : State} {ty : FieldType} {cA cB : ClassId} (h : ty = .int ∨ ty = .byte ∨ ty = .boolean) (h1 : va_RA s cA ty) (h2 : va_RA s cB ty) : cA = cB := by
  have k : ∀ {x : Option ClassId}, x = some cA → x = some cB → cA = cB := fun a b => Option.some.inj (a.symm.trans b)
  rcases h with rfl | rfl | rfl
  · unfold va_RA at h1 h2
    exact k h1 h2
  · unfold va_RA at h1 h2
    exact k h1 h2
  · unfold va_RA at h1 h2
    exact k h1 h2
theorem tag_one {s : State} {t : Nat} (h : t < 3) {cA cB : ClassId} (h1 : va_RA s cA (tagT t)) (h2 : va_RA s cB (tagT t)) : cA = cB := ra_one (tag_or h) h1 h2
theorem Nxt.made {Q : State → Prop} {h : AHp} {x : va_E} {k cells slots pc' : Nat} {lsA' stA' : List Value} (K : Nxt p l e R s m args below meth c b ro D tyC L xs Q h (hnew h x k) cells slots pc' lsA' stA') {H : Heap} {locs : List Loc} {ls : Array Slot} (C : Cn b ro D tyC L xs (hnew h x k) H) (hS : va_S (fun q : Nat => b ≤ q) s.heap H locs) (hL : LR (adr b ro) lsA' ls) : W p l e R s m args below meth c H locs (cells + 1) (slots + k) Q (F0 m pc' ls (stA'.map (cvV (adr b ro)))) := by
  have := K H locs ls C hS hL
  have e1 : (hnew h x k).2.1 - h.2.1 = 1 := by show h.2.1 + 1 - h.2.1 = 1; omega
  have e2 : (hnew h x k).2.2 - h.2.2 = k := by show h.2.2 + k - h.2.2 = k; omega
  rw [e1, e2] at this
  exact this
theorem hnew_c {h : AHp} {x : va_E} {k : Nat} : (hnew h x k).2.1 - h.2.1 = 1 := by show h.2.1 + 1 - h.2.1 = 1; omega
theorem hnew_s {h : AHp} {x : va_E} {k : Nat} : (hnew h x k).2.2 - h.2.2 = k := by show h.2.2 + k - h.2.2 = k; omega
theorem def_cv {ad : Nat → Nat} (t : FieldType) : cvV ad (defaultValue t) = defaultValue t := by cases t <;> rfl
theorem hA_of (E : Ev b ro D tyC L xs s) : ∀ q : Nat, s.heap.size ≤ q → (fun q : Nat => b ≤ q) q := fun q h => Nat.le_trans E.2.2.2.2.2.2.2.2.2.2 h
theorem sim_new {i : Nat} (F : Fr p s m args meth c b ro D tyC L xs M) (hcd : cd M pc = some (pc, .new i, len, info))
    (hs : stpI M pc (.new i) len info lsA stA h = goOn pc' lsA' stA' h') (C : Cn b ro D tyC L xs h H) (hS : va_S (fun q : Nat => b ≤ q) s.heap H locs) (hL : LR (adr b ro) lsA ls) (hcz : s.heap.size + cells = H.size) (hrc : cells + (h'.2.1 - h.2.1) ≤ R.cells) (hrs : slots + (h'.2.2 - h.2.2) ≤ R.slots) (hfr : 1 ≤ R.frames) (hlo : 64 ≤ R.locals)
    (K : Nxt p l e R s m args below meth c b ro D tyC L xs Q h h' cells slots pc' lsA' stA') : W p l e R s m args below meth c H locs cells slots Q (F0 m pc ls (stA.map (cvV (adr b ro)))) := by
  obtain ⟨hx, hb, hml, hown, hnm, hts, hE⟩ := F
  obtain ⟨-, hdg, hln, hmis, hwd⟩ := cd_ok hcd
  simp only at hdg hln hmis hwd
  have hln : len = 3 := by simpa [lenI] using hln
  subst hln
  simp only [stpI] at hs
  split at hs
  · next ci n =>
    obtain ⟨rfl, rfl, rfl, rfl⟩ := goOn_inj hs
    simp only [mis, Bool.and_eq_true, decide_eq_true_eq] at hmis
    obtain ⟨h1, h2⟩ := hmis
    obtain ⟨r, hr⟩ : ∃ r, clA[ci]? = some r := by
      cases hq : clA[ci]? with
      | none => rw [List.getElem?_eq_none_iff] at hq; simp [clA] at hq; omega
      | some r => exact ⟨r, rfl⟩
    have hnF : nF ci = r.2.2 := by unfold nF; rw [hr]
    have hn : n = r.2.2 := by omega
    subst hn
    have hnm0 : nmC ci = r.1 := by unfold nmC; rw [hr]
    have hw : ∀ w ∈ [Cond.classLink (mH M).1.cls i r.1, Cond.instantiable r.1 r.2.2, Cond.initialized r.1], w.before args s = true := by
      rcases hwd with ⟨x, hx1⟩ | hwd
      · exfalso
        have := Prod.mk.inj (List.cons.inj hx1).1
        omega
      · intro w hw
        refine hts _ (lwG_of (hwd w ?_))
        simp only [need, List.flatMap_cons, List.flatMap_nil, List.append_nil, hnm0]
        exact hw
    have hdef : ∀ j, j < r.2.2 → defaultValue (tyF r.2.1 j) = vp_V ((defV ci).map (cvV (adr b ro))) j := by
      intro j hj
      unfold defV vp_V
      rw [hr]
      simp only [List.map_map]
      rw [List.getD_eq_getElem?_getD, List.getElem?_map, List.getElem?_range hj]
      simp only [Option.map_some, Option.getD_some, Function.comp, cl_ty hr j hj]
      exact (def_cv _).symm
    refine va_new hx hb hts (uw_all ci r hr) (tyF r.2.1) (cl_ty hr) hown (hw _ (by simp)) (hw _ (by simp)) (hw _ (by simp)) hE.1 C.1 conc_D hS (hA_of hE) hr hdef (by rw [hnew_c] at hrc; exact hrc) (by rw [hnew_s] at hrs; exact hrs) hdg (fun q H1 hP1 hD1 hS1 => ?_)
    refine W_size fun hz => ?_
    obtain ⟨hq, C1⟩ := C.new (k := r.2.2) (c := .inr (ci, defV ci)) h1 hP1 hD1 (by have := C.size; omega)
    subst hq
    exact K.made C1 hS1 hL
  · exact (goOn_no hs).elim
theorem sim_newarray {a : ArrayType} (F : Fr p s m args meth c b ro D tyC L xs M) (hcd : cd M pc = some (pc, .newarray a, len, info))
    (hs : stpI M pc (.newarray a) len info lsA stA h = goOn pc' lsA' stA' h') (C : Cn b ro D tyC L xs h H) (hS : va_S (fun q : Nat => b ≤ q) s.heap H locs) (hL : LR (adr b ro) lsA ls) (hcz : s.heap.size + cells = H.size) (hrc : cells + (h'.2.1 - h.2.1) ≤ R.cells) (hrs : slots + (h'.2.2 - h.2.2) ≤ R.slots) (hfr : 1 ≤ R.frames) (hlo : 64 ≤ R.locals)
    (K : Nxt p l e R s m args below meth c b ro D tyC L xs Q h h' cells slots pc' lsA' stA') : W p l e R s m args below meth c H locs cells slots Q (F0 m pc ls (stA.map (cvV (adr b ro)))) := by
  obtain ⟨hx, hb, hml, hown, hnm, hts, hE⟩ := F
  obtain ⟨-, hdg, hln, hmis, hwd⟩ := cd_ok hcd
  simp only at hdg hln hmis hwd
  have hln : len = 2 := by simpa [lenI] using hln
  subst hln
  simp only [stpI] at hs
  split at hs
  · next t y n st0 =>
    split at hs
    · next hok =>
      obtain ⟨rfl, rfl, rfl, rfl⟩ := goOn_inj hs
      simp only [mis, Bool.and_eq_true, decide_eq_true_eq] at hmis
      obtain ⟨h1, h2⟩ := hmis
      simp only [okN, Bool.and_eq_true, Bool.not_eq_true', decide_eq_false_iff_not, decide_eq_true_eq] at hok
      have hw : (Cond.arrayClass (newarray.typeOf a)).before args s = true := by
        rcases hwd with ⟨x, hx1⟩ | hwd
        · exfalso
          have := Prod.mk.inj (List.cons.inj hx1).1
          omega
        · exact hts _ (lwG_of (hwd _ (by simp [need])))
      have hdv : ∀ cA : ClassId, vp_cell cA (n.toNatClampNeg, .inl (fun _ => 0)) = arrV cA n.toNatClampNeg (fun _ => defaultValue (tagT t)) := fun cA => tag_cell h1 cA _
      have hcb : n.toNatClampNeg * componentBytes (tagT t) ≤ 536870912 := by
        have h4 : componentBytes (tagT t) ≤ 8 := tag_bytes h1
        have := Nat.mul_le_mul hok.2 h4
        omega
      refine va_newa hx hb hw h2 hE.1 C.1 conc_D hS (hA_of hE) hdv hok.1 rfl hcb (by rw [hnew_c] at hrc; exact hrc) (by rw [hnew_s] at hrs; exact hrs) hdg (fun q cA H1 hK1 hP1 hD1 hS1 => ?_)
      have hcA : cA = tyC t := tag_one h1 (hK1.2 4 (cA, tagT t) rfl).2 (hE.1.2 t (tyC t, tagT t) (tys_tag h1)).2
      subst hcA
      refine W_size fun hz => ?_
      obtain ⟨hq, C1⟩ := C.new (k := n.toNatClampNeg) (c := .inl (t, n.toNatClampNeg, .inl (fun _ => 0))) h1 hP1 hD1 (by have := C.size; omega)
      subst hq
      exact K.made C1 hS1 hL
    · exact (goOn_no hs).elim
  · exact (goOn_no hs).elim
theorem sim_anewarray {i : Nat} (F : Fr p s m args meth c b ro D tyC L xs M) (hcd : cd M pc = some (pc, .anewarray i, len, info))
    (hs : stpI M pc (.anewarray i) len info lsA stA h = goOn pc' lsA' stA' h') (C : Cn b ro D tyC L xs h H) (hS : va_S (fun q : Nat => b ≤ q) s.heap H locs) (hL : LR (adr b ro) lsA ls) (hcz : s.heap.size + cells = H.size) (hrc : cells + (h'.2.1 - h.2.1) ≤ R.cells) (hrs : slots + (h'.2.2 - h.2.2) ≤ R.slots) (hfr : 1 ≤ R.frames) (hlo : 64 ≤ R.locals)
    (K : Nxt p l e R s m args below meth c b ro D tyC L xs Q h h' cells slots pc' lsA' stA') : W p l e R s m args below meth c H locs cells slots Q (F0 m pc ls (stA.map (cvV (adr b ro)))) := by
  obtain ⟨hx, hb, hml, hown, hnm, hts, hE⟩ := F
  obtain ⟨-, hdg, hln, hmis, hwd⟩ := cd_ok hcd
  simp only at hdg hln hmis hwd
  have hln : len = 3 := by simpa [lenI] using hln
  subst hln
  simp only [stpI] at hs
  split at hs
  · next t y n st0 =>
    split at hs
    · next hok =>
      obtain ⟨rfl, rfl, rfl, rfl⟩ := goOn_inj hs
      simp only [mis, decide_eq_true_eq] at hmis
      subst hmis
      simp only [okN, Bool.and_eq_true, Bool.not_eq_true', decide_eq_false_iff_not, decide_eq_true_eq] at hok
      have hw : (Cond.classLink (mH M).1.cls i RX4).before args s = true := by
        rcases hwd with ⟨x, hx1⟩ | hwd
        · exfalso
          have := Prod.mk.inj (List.cons.inj hx1).1
          omega
        · exact hts _ (lwG_of (hwd _ (by simp [need])))
      refine va_newq hx hb hown hw hE.2.2.2.2.2.2.2.2.2.1 hE.1 C.1 conc_D hS (hA_of hE) hok.1 rfl (by omega) (by rw [hnew_c] at hrc; exact hrc) (by rw [hnew_s] at hrs; exact hrs) hdg (fun q cA H1 hK1 hP1 hD1 hS1 => ?_)
      have hcA : cA = tyC 3 := by
        obtain ⟨_, _, _, _, _, e1⟩ := (hK1.2 4 (cA, .object RX4) (by simp [tysA])).2
        obtain ⟨_, _, _, _, _, e2⟩ := (hE.1.2 3 (tyC 3, .object RX4) rfl).2
        exact Option.some.inj (e1.symm.trans e2)
      subst hcA
      refine W_size fun hz => ?_
      obtain ⟨hq, C1⟩ := C.new (k := n.toNatClampNeg) (c := .inl (3, n.toNatClampNeg, .inr (.inr (.inr (.inr (fun _ => none)))))) rfl hP1 hD1 (by have := C.size; omega)
      subst hq
      exact K.made C1 hS1 hL
    · exact (goOn_no hs).elim
  · exact (goOn_no hs).elim
theorem sim_arraylength  (F : Fr p s m args meth c b ro D tyC L xs M) (hcd : cd M pc = some (pc, .arraylength, len, info))
    (hs : stpI M pc (.arraylength) len info lsA stA h = goOn pc' lsA' stA' h') (C : Cn b ro D tyC L xs h H) (hS : va_S (fun q : Nat => b ≤ q) s.heap H locs) (hL : LR (adr b ro) lsA ls) (hcz : s.heap.size + cells = H.size) (hrc : cells + (h'.2.1 - h.2.1) ≤ R.cells) (hrs : slots + (h'.2.2 - h.2.2) ≤ R.slots) (hfr : 1 ≤ R.frames) (hlo : 64 ≤ R.locals)
    (K : Nxt p l e R s m args below meth c b ro D tyC L xs Q h h' cells slots pc' lsA' stA') : W p l e R s m args below meth c H locs cells slots Q (F0 m pc ls (stA.map (cvV (adr b ro)))) := by
  obtain ⟨hx, hb, hml, hown, hnm, hts, hE⟩ := F
  obtain ⟨-, hdg, hln, hmis, hwd⟩ := cd_ok hcd
  simp only at hdg hln hmis hwd
  have hln : len = 1 := by simpa [lenI] using hln
  subst hln
  simp only [stpI] at hs
  split at hs
  · next a st0 =>
    split at hs
    · next v hv =>
      obtain ⟨rfl, rfl, rfl, rfl⟩ := goOn_inj hs
      unfold aLen at hv
      split at hv
      · next t n f ho =>
        split at hv
        · next ht =>
          cases hv
          have K1 := K.same C hS hL
          rcases C.arr ho (fun z => by subst z; simp at ht) with ⟨h1, h2, h3⟩ | ⟨h1, h2, h3, h4, h5⟩ | ⟨h1, h2, h3, h4⟩
          · have hty : (tysA tyC)[t]? = some (tyC t, tagT t) := tys_tag h1
            exact va_alen hx hb hE.1 C.1 (a - 32) t h3 hty rfl hdg K1
          · subst h4
            obtain ⟨-, -, -, f4⟩ := hE.2.1 (a - 15) (by omega)
            rw [Nat.add_sub_cancel' h1] at f4
            show W p l e R s m args below meth c H locs cells slots Q (F0 m pc ls (.ref (adr b ro a) :: st0.map (cvV (adr b ro))))
            rw [adr_lo (by omega)]
            exact va_tlen hx hb f4 hS rfl hdg K1
          · subst h1 h3
            show W p l e R s m args below meth c H locs cells slots Q (F0 m pc ls (.ref (adr b ro 31) :: st0.map (cvV (adr b ro))))
            rw [adr_lo (by omega)]
            obtain ⟨g1, g2, g3⟩ := hE.2.2.2.2.2.1
            exact va_slen hx hb g1 g2 (Nat.not_le.mpr g3) hS hdg K1
        · cases hv
      · cases hv
    · exact (goOn_no hs).elim
  · exact (goOn_no hs).elim
theorem sim_iaload  (F : Fr p s m args meth c b ro D tyC L xs M) (hcd : cd M pc = some (pc, .iaload, len, info))
    (hs : stpI M pc (.iaload) len info lsA stA h = goOn pc' lsA' stA' h') (C : Cn b ro D tyC L xs h H) (hS : va_S (fun q : Nat => b ≤ q) s.heap H locs) (hL : LR (adr b ro) lsA ls) (hcz : s.heap.size + cells = H.size) (hrc : cells + (h'.2.1 - h.2.1) ≤ R.cells) (hrs : slots + (h'.2.2 - h.2.2) ≤ R.slots) (hfr : 1 ≤ R.frames) (hlo : 64 ≤ R.locals)
    (K : Nxt p l e R s m args below meth c b ro D tyC L xs Q h h' cells slots pc' lsA' stA') : W p l e R s m args below meth c H locs cells slots Q (F0 m pc ls (stA.map (cvV (adr b ro)))) := by
  obtain ⟨hx, hb, hml, hown, hnm, hts, hE⟩ := F
  obtain ⟨-, hdg, hln, hmis, hwd⟩ := cd_ok hcd
  simp only at hdg hln hmis hwd
  have hln : len = 1 := by simpa [lenI] using hln
  subst hln
  simp only [stpI] at hs
  split at hs
  · next i a st0 =>
    split at hs
    · next v hv =>
      obtain ⟨rfl, rfl, rfl, rfl⟩ := goOn_inj hs
      unfold aI at hv
      split at hv
      · next t n f ho =>
        split at hv
        · next ht =>
          cases hv
          have K1 := K.same C hS hL
          have hin := vp_of ht.2
          rcases C.arr ho (fun z => by subst z; simp at ht) with ⟨h1, h2, h3⟩ | ⟨h1, h2, h3, h4, h5⟩ | ⟨h1, h2, h3, h4⟩
          · rcases ht.1 with rfl | rfl
            · exact va_iald hx hb hE.1 C.1 (a - 32) 0 h3 rfl hin hdg K1
            · exact absurd h1 (by decide)
          · rcases ht.1 with rfl | rfl
            · exact absurd h3 (by decide)
            · exact absurd h3 (by decide)
          · subst h1 h3 h4
            show W p l e R s m args below meth c H locs cells slots Q (F0 m pc ls (.int i :: .ref (adr b ro 31) :: st0.map (cvV (adr b ro))))
            rw [adr_lo (by omega)]
            obtain ⟨g1, g2, g3⟩ := hE.2.2.2.2.2.1
            exact va_sld hx hb g1 g2 (Nat.not_le.mpr g3) hS hin hdg K1
        · cases hv
      · cases hv
    · exact (goOn_no hs).elim
  · exact (goOn_no hs).elim
theorem sim_baload  (F : Fr p s m args meth c b ro D tyC L xs M) (hcd : cd M pc = some (pc, .baload, len, info))
    (hs : stpI M pc (.baload) len info lsA stA h = goOn pc' lsA' stA' h') (C : Cn b ro D tyC L xs h H) (hS : va_S (fun q : Nat => b ≤ q) s.heap H locs) (hL : LR (adr b ro) lsA ls) (hcz : s.heap.size + cells = H.size) (hrc : cells + (h'.2.1 - h.2.1) ≤ R.cells) (hrs : slots + (h'.2.2 - h.2.2) ≤ R.slots) (hfr : 1 ≤ R.frames) (hlo : 64 ≤ R.locals)
    (K : Nxt p l e R s m args below meth c b ro D tyC L xs Q h h' cells slots pc' lsA' stA') : W p l e R s m args below meth c H locs cells slots Q (F0 m pc ls (stA.map (cvV (adr b ro)))) := by
  obtain ⟨hx, hb, hml, hown, hnm, hts, hE⟩ := F
  obtain ⟨-, hdg, hln, hmis, hwd⟩ := cd_ok hcd
  simp only at hdg hln hmis hwd
  have hln : len = 1 := by simpa [lenI] using hln
  subst hln
  simp only [stpI] at hs
  split at hs
  · next i a st0 =>
    split at hs
    · next v hv =>
      obtain ⟨rfl, rfl, rfl, rfl⟩ := goOn_inj hs
      unfold aB at hv
      split at hv
      · next t n f ho =>
        split at hv
        · next ht =>
          cases hv
          have K1 := K.same C hS hL
          have hin := vp_of ht.2
          rcases C.arr ho (fun z => by subst z; simp at ht) with ⟨h1, h2, h3⟩ | ⟨h1, h2, h3, h4, h5⟩ | ⟨h1, h2, h3, h4⟩
          · rcases ht.1 with rfl | rfl | rfl
            · exact va_bald hx hb hE.1 C.1 (a - 32) 1 h3 rfl hin hdg K1
            · exact va_zald hx hb hE.1 C.1 (a - 32) 2 h3 rfl hin hdg K1
            · exact absurd h1 (by decide)
          · subst h4 h5
            obtain ⟨-, -, -, f4⟩ := hE.2.1 (a - 15) (by omega)
            rw [Nat.add_sub_cancel' h1] at f4
            show W p l e R s m args below meth c H locs cells slots Q (F0 m pc ls (.int i :: .ref (adr b ro a) :: st0.map (cvV (adr b ro))))
            rw [adr_lo (by omega)]
            exact va_tb hx hb f4 hS hin rfl hdg K1
          · rcases ht.1 with rfl | rfl | rfl
            · exact absurd h2 (by decide)
            · exact absurd h2 (by decide)
            · exact absurd h2 (by decide)
        · cases hv
      · cases hv
    · exact (goOn_no hs).elim
  · exact (goOn_no hs).elim
theorem sim_aaload  (F : Fr p s m args meth c b ro D tyC L xs M) (hcd : cd M pc = some (pc, .aaload, len, info))
    (hs : stpI M pc (.aaload) len info lsA stA h = goOn pc' lsA' stA' h') (C : Cn b ro D tyC L xs h H) (hS : va_S (fun q : Nat => b ≤ q) s.heap H locs) (hL : LR (adr b ro) lsA ls) (hcz : s.heap.size + cells = H.size) (hrc : cells + (h'.2.1 - h.2.1) ≤ R.cells) (hrs : slots + (h'.2.2 - h.2.2) ≤ R.slots) (hfr : 1 ≤ R.frames) (hlo : 64 ≤ R.locals)
    (K : Nxt p l e R s m args below meth c b ro D tyC L xs Q h h' cells slots pc' lsA' stA') : W p l e R s m args below meth c H locs cells slots Q (F0 m pc ls (stA.map (cvV (adr b ro)))) := by
  obtain ⟨hx, hb, hml, hown, hnm, hts, hE⟩ := F
  obtain ⟨-, hdg, hln, hmis, hwd⟩ := cd_ok hcd
  simp only at hdg hln hmis hwd
  have hln : len = 1 := by simpa [lenI] using hln
  subst hln
  simp only [stpI] at hs
  split at hs
  · next i a st0 =>
    split at hs
    · next v hv =>
      obtain ⟨rfl, rfl, rfl, rfl⟩ := goOn_inj hs
      unfold aQ at hv
      split at hv
      · next t n f ho =>
        split at hv
        · next ht =>
          have K1 := K.same C hS hL
          have hin := vp_of ht.2
          obtain ⟨h1, h2, h3⟩ := C.arq ho
          subst h1
          refine va_aldq hx hb hE.1 C.1 (a - 32) 3 h3 rfl hin hdg ?_
          simp only [hv, Option.map_some]
          exact K1
        · cases hv
      · cases hv
    · exact (goOn_no hs).elim
  · exact (goOn_no hs).elim
theorem sim_iastore  (F : Fr p s m args meth c b ro D tyC L xs M) (hcd : cd M pc = some (pc, .iastore, len, info))
    (hs : stpI M pc (.iastore) len info lsA stA h = goOn pc' lsA' stA' h') (C : Cn b ro D tyC L xs h H) (hS : va_S (fun q : Nat => b ≤ q) s.heap H locs) (hL : LR (adr b ro) lsA ls) (hcz : s.heap.size + cells = H.size) (hrc : cells + (h'.2.1 - h.2.1) ≤ R.cells) (hrs : slots + (h'.2.2 - h.2.2) ≤ R.slots) (hfr : 1 ≤ R.frames) (hlo : 64 ≤ R.locals)
    (K : Nxt p l e R s m args below meth c b ro D tyC L xs Q h h' cells slots pc' lsA' stA') : W p l e R s m args below meth c H locs cells slots Q (F0 m pc ls (stA.map (cvV (adr b ro)))) := by
  obtain ⟨hx, hb, hml, hown, hnm, hts, hE⟩ := F
  obtain ⟨-, hdg, hln, hmis, hwd⟩ := cd_ok hcd
  simp only at hdg hln hmis hwd
  have hln : len = 1 := by simpa [lenI] using hln
  subst hln
  simp only [stpI] at hs
  split at hs
  · next y i a st0 =>
    split at hs
    · next v hv =>
      obtain ⟨rfl, rfl, rfl, rfl⟩ := goOn_inj hs
      unfold aPutI at hv
      split at hv
      · next t n f ho =>
        split at hv
        · next ht =>
          obtain ⟨h0, hin⟩ := ht
          subst h0
          have hin := vp_of hin
          have hv1 := (Option.some.inj hv).symm
          subst hv1
          rcases C.arr ho (by decide) with ⟨h1, h2, h3⟩ | ⟨h1, h2, h3, h4, h5⟩ | ⟨h1, h2, h3, h4⟩
          · refine va_iast hx hb hE.1 C.1 conc_D hS (a - 32) 0 h3 rfl hin hdg (fun H1 locs1 hP1 hD1 hS1 => ?_)
            refine W_size fun hz => ?_
            exact K.set (C.put (c := .inl (0, n, .inl (upd f i.toNatClampNeg y))) h2 h1 hP1 (put_size (s := s) (cells := cells) (x := .inl (0, n, .inl (upd f i.toNatClampNeg y))) C (C.own h2).1 hP1 hE.2.2.2.2.2.2.2.2.2.2 hS1.1 hcz hz)) hS1 hL
          · exact absurd h3 (by decide)
          · exact absurd h2 (by decide)
        · cases hv
      · cases hv
    · exact (goOn_no hs).elim
  · exact (goOn_no hs).elim
theorem sim_bastore  (F : Fr p s m args meth c b ro D tyC L xs M) (hcd : cd M pc = some (pc, .bastore, len, info))
    (hs : stpI M pc (.bastore) len info lsA stA h = goOn pc' lsA' stA' h') (C : Cn b ro D tyC L xs h H) (hS : va_S (fun q : Nat => b ≤ q) s.heap H locs) (hL : LR (adr b ro) lsA ls) (hcz : s.heap.size + cells = H.size) (hrc : cells + (h'.2.1 - h.2.1) ≤ R.cells) (hrs : slots + (h'.2.2 - h.2.2) ≤ R.slots) (hfr : 1 ≤ R.frames) (hlo : 64 ≤ R.locals)
    (K : Nxt p l e R s m args below meth c b ro D tyC L xs Q h h' cells slots pc' lsA' stA') : W p l e R s m args below meth c H locs cells slots Q (F0 m pc ls (stA.map (cvV (adr b ro)))) := by
  obtain ⟨hx, hb, hml, hown, hnm, hts, hE⟩ := F
  obtain ⟨-, hdg, hln, hmis, hwd⟩ := cd_ok hcd
  simp only at hdg hln hmis hwd
  have hln : len = 1 := by simpa [lenI] using hln
  subst hln
  simp only [stpI] at hs
  split at hs
  · next y i a st0 =>
    split at hs
    · next v hv =>
      obtain ⟨rfl, rfl, rfl, rfl⟩ := goOn_inj hs
      unfold aPutB at hv
      split at hv
      · next t n f ho =>
        split at hv
        · next ht =>
          obtain ⟨h0, hin⟩ := ht
          subst h0
          have hin := vp_of hin
          have hv1 := (Option.some.inj hv).symm
          subst hv1
          rcases C.arr ho (by decide) with ⟨h1, h2, h3⟩ | ⟨h1, h2, h3, h4, h5⟩ | ⟨h1, h2, h3, h4⟩
          · refine va_bast hx hb hE.1 C.1 conc_D hS (a - 32) 1 h3 rfl hin hdg (fun H1 locs1 hP1 hD1 hS1 => ?_)
            refine W_size fun hz => ?_
            exact K.set (C.put (c := .inl (1, n, .inl (upd f i.toNatClampNeg (vp_nar .byte y)))) h2 h1 hP1 (put_size (s := s) (cells := cells) (x := .inl (1, n, .inl (upd f i.toNatClampNeg (vp_nar .byte y)))) C (C.own h2).1 hP1 hE.2.2.2.2.2.2.2.2.2.2 hS1.1 hcz hz)) hS1 hL
          · exact absurd h3 (by decide)
          · exact absurd h2 (by decide)
        · split at hv
          · next ht =>
            obtain ⟨h0, hin⟩ := ht
            subst h0
            have hin := vp_of hin
            have hv1 := (Option.some.inj hv).symm
            subst hv1
            rcases C.arr ho (by decide) with ⟨h1, h2, h3⟩ | ⟨h1, h2, h3, h4, h5⟩ | ⟨h1, h2, h3, h4⟩
            · refine va_zast hx hb hE.1 C.1 conc_D hS (a - 32) 2 h3 rfl hin hdg (fun H1 locs1 hP1 hD1 hS1 => ?_)
              refine W_size fun hz => ?_
              exact K.set (C.put (c := .inl (2, n, .inl (upd f i.toNatClampNeg (vp_nar .boolean y)))) h2 h1 hP1 (put_size (s := s) (cells := cells) (x := .inl (2, n, .inl (upd f i.toNatClampNeg (vp_nar .boolean y)))) C (C.own h2).1 hP1 hE.2.2.2.2.2.2.2.2.2.2 hS1.1 hcz hz)) hS1 hL
            · exact absurd h3 (by decide)
            · exact absurd h2 (by decide)
          · cases hv
      · cases hv
    · exact (goOn_no hs).elim
  · exact (goOn_no hs).elim
theorem kn_any {v ci : Nat} {fs : List Value} (hE : Ev b ro D tyC L xs s) (C : Cn b ro D tyC L xs h H) (ho : h.1 v = .inr (ci, fs)) (hk : isKn (h.1 v) = true) : va_Any RX4 s H (adr b ro v) := by
  rw [ho] at hk
  simp only [isKn, Bool.or_eq_true, beq_iff_eq] at hk
  rcases C.obj ho with ⟨h1, h2, h3, h4⟩ | ⟨h1, h2, h3⟩
  · have cast : ∀ X : String, (X, RX4) ∈ castY → ∀ comp c0 : ClassId, s.vm.findClass RX4 = some comp → s.vm.findClass X = some c0 → s.vm.assignable c0 comp = true := by
      intro X hX comp c0 e1 e2
      obtain ⟨c1, t1, f1, f2, f3⟩ := Cond.castable_spec (va_Nw.use (A := #[]) rfl (hE.2.2.2.2.2.2.1 _ hX))
      cases e1.symm.trans f2
      cases e2.symm.trans f1
      exact f3
    rcases hk with (((((h5 | h5) | h5) | h5) | h5) | h5) | h5
    · subst h5; exact va_rAny hE.1 C.1 h4 (r := (RX0, TX0, 2)) rfl (cast _ (by simp [castY]))
    · subst h5; exact va_rAny hE.1 C.1 h4 (r := (RX1, TX1, 2)) rfl (cast _ (by simp [castY]))
    · subst h5; exact va_rAny hE.1 C.1 h4 (r := (RX2, TX2, 2)) rfl (cast _ (by simp [castY]))
    · subst h5
      refine va_rAny hE.1 C.1 h4 (r := (RX4, TX4, 2)) rfl (fun comp c0 e1 e2 => ?_)
      cases e1.symm.trans e2
      exact va_asg _ _
    · subst h5; exact va_rAny hE.1 C.1 h4 (r := (RX5, TX5, 2)) rfl (cast _ (by simp [castY]))
    · subst h5; exact va_rAny hE.1 C.1 h4 (r := (RX8, TX8, 2)) rfl (cast _ (by simp [castY]))
    · subst h5; exact va_rAny hE.1 C.1 h4 (r := (RX9, TX9, 2)) rfl (cast _ (by simp [castY]))
  · omega
theorem sim_aastore  (F : Fr p s m args meth c b ro D tyC L xs M) (hcd : cd M pc = some (pc, .aastore, len, info))
    (hs : stpI M pc (.aastore) len info lsA stA h = goOn pc' lsA' stA' h') (C : Cn b ro D tyC L xs h H) (hS : va_S (fun q : Nat => b ≤ q) s.heap H locs) (hL : LR (adr b ro) lsA ls) (hcz : s.heap.size + cells = H.size) (hrc : cells + (h'.2.1 - h.2.1) ≤ R.cells) (hrs : slots + (h'.2.2 - h.2.2) ≤ R.slots) (hfr : 1 ≤ R.frames) (hlo : 64 ≤ R.locals)
    (K : Nxt p l e R s m args below meth c b ro D tyC L xs Q h h' cells slots pc' lsA' stA') : W p l e R s m args below meth c H locs cells slots Q (F0 m pc ls (stA.map (cvV (adr b ro)))) := by
  obtain ⟨hx, hb, hml, hown, hnm, hts, hE⟩ := F
  obtain ⟨-, hdg, hln, hmis, hwd⟩ := cd_ok hcd
  simp only at hdg hln hmis hwd
  have hln : len = 1 := by simpa [lenI] using hln
  subst hln
  simp only [stpI] at hs
  split at hs
  · next v i a st0 =>
    split at hs
    · next hkn =>
      split at hs
      · next x hv =>
        obtain ⟨rfl, rfl, rfl, rfl⟩ := goOn_inj hs
        unfold aPutQ at hv
        split at hv
        · next t n f ho =>
          split at hv
          · next ht =>
            obtain ⟨h0, hin⟩ := ht
            subst h0
            have hin := vp_of hin
            have hv1 := (Option.some.inj hv).symm
            subst hv1
            obtain ⟨-, h2, h3⟩ := C.arq ho
            obtain ⟨ci, fs, hov⟩ : ∃ ci fs, h.1 v = .inr (ci, fs) := by
              cases hq : h.1 v with
              | inl z => rw [hq] at hkn; cases hkn
              | inr z => exact ⟨z.1, z.2, rfl⟩
            refine va_astqM hx hb hE.1 C.1 conc_D hS (a - 32) 3 h3 rfl (kn_any hE C hov hkn) hin hdg (fun H1 locs1 hP1 hD1 hS1 => ?_)
            have hcv : (.inl (tyC 3, n, .inr (.inr (.inr (.inr (va_up (fun k => (f k).map (adr b ro)) i.toNatClampNeg (some (adr b ro v))))))) : va_E) = cvE (adr b ro) tyC (.inl (3, n, .inr (.inr (.inr (.inr (va_up f i.toNatClampNeg (some v))))))) := by
              rw [cvE_q]
              have e1 : va_up (fun k => (f k).map (adr b ro)) i.toNatClampNeg (some (adr b ro v)) = fun k => (va_up f i.toNatClampNeg (some v) k).map (adr b ro) := by
                funext k
                simp only [va_up]
                split <;> rfl
              rw [e1]
            rw [hcv] at hP1
            refine W_size fun hz => ?_
            exact K.set (C.put h2 (show wfC (.inl (3, n, .inr (.inr (.inr (.inr (va_up f i.toNatClampNeg (some v))))))) from rfl) hP1 (put_size (s := s) (cells := cells) C (C.own h2).1 hP1 hE.2.2.2.2.2.2.2.2.2.2 hS1.1 hcz hz)) hS1 hL
          · cases hv
        · cases hv
      · exact (goOn_no hs).elim
    · exact (goOn_no hs).elim
  · exact (goOn_no hs).elim
theorem sim_instanceof {i : Nat} (F : Fr p s m args meth c b ro D tyC L xs M) (hcd : cd M pc = some (pc, .instanceof i, len, info))
    (hs : stpI M pc (.instanceof i) len info lsA stA h = goOn pc' lsA' stA' h') (C : Cn b ro D tyC L xs h H) (hS : va_S (fun q : Nat => b ≤ q) s.heap H locs) (hL : LR (adr b ro) lsA ls) (hcz : s.heap.size + cells = H.size) (hrc : cells + (h'.2.1 - h.2.1) ≤ R.cells) (hrs : slots + (h'.2.2 - h.2.2) ≤ R.slots) (hfr : 1 ≤ R.frames) (hlo : 64 ≤ R.locals)
    (K : Nxt p l e R s m args below meth c b ro D tyC L xs Q h h' cells slots pc' lsA' stA') : W p l e R s m args below meth c H locs cells slots Q (F0 m pc ls (stA.map (cvV (adr b ro)))) := by
  obtain ⟨hx, hb, hml, hown, hnm, hts, hE⟩ := F
  obtain ⟨-, hdg, hln, hmis, hwd⟩ := cd_ok hcd
  simp only at hdg hln hmis hwd
  have hln : len = 3 := by simpa [lenI] using hln
  subst hln
  simp only [stpI] at hs
  split at hs
  · next a st0 =>
    split at hs
    · next bv hbv =>
      obtain ⟨rfl, rfl, rfl, rfl⟩ := goOn_inj hs
      have K1 := K.same C hS hL
      simp only [mis] at hmis
      split at hmis
      · next t ht =>
        simp only [Bool.and_eq_true, decide_eq_true_eq] at hmis
        obtain ⟨hall, ht13⟩ := hmis
        have hw : (Cond.classLink (mH M).1.cls i (nmC t)).before args s = true := by
          rcases hwd with ⟨x, hx1⟩ | hwd
          · exfalso
            rw [hx1] at ht
            simp [fIx] at ht
          · exact hts _ (lwG_of (hwd _ (by simp [need, ht])))
        have hmem := fIx_mem hbv
        cases hc0 : h'.1 a with
        | inl z =>
          rw [hc0] at hmem
          have h5 := List.all_eq_true.mp hall (99, bv) (List.mem_filter.mpr ⟨hmem, rfl⟩)
          simp at h5
        | inr z =>
          obtain ⟨ci, fs⟩ := z
          rw [hc0] at hmem
          simp only [cls] at hmem
          have hci : ci < 14 := by
            rcases C.obj hc0 with ⟨h1, _⟩ | ⟨_, h1, _⟩ <;> omega
          have h5 := List.all_eq_true.mp hall (ci, bv) (List.mem_filter.mpr ⟨hmem, by simp; omega⟩)
          simp only [Bool.and_eq_true, decide_eq_true_eq] at h5
          obtain ⟨h6, h7⟩ := h5
          rcases C.obj hc0 with ⟨h1, h2, h3, h4⟩ | ⟨h1, h2, h3⟩
          · obtain ⟨r, hr⟩ : ∃ r, clA[ci]? = some r := by
              cases hq : clA[ci]? with
              | none => rw [List.getElem?_eq_none_iff] at hq; simp [clA] at hq; omega
              | some r => exact ⟨r, rfl⟩
            have hnm0 : nmC ci = r.1 := by unfold nmC; rw [hr]
            have hrecv := va_recv hE.1 C.1 hr h4
            rw [← hnm0] at hrecv
            split at h7
            · next hb1 =>
              subst hb1
              simp only [Bool.or_eq_true, decide_eq_true_eq] at h7
              rcases h7 with rfl | h7
              · exact va_instE hx hb hown hw hrecv hdg K1
              · exact va_instY hx hb hown hw (hE.2.2.2.2.2.2.1 _ h7) hrecv hdg K1
            · simp only [Bool.and_eq_true, decide_eq_true_eq] at h7
              obtain ⟨rfl, h7⟩ := h7
              exact va_instNo hx hb hown hw (hE.2.2.2.2.2.2.2.1 _ h7) hrecv hdg K1
          · omega
      · cases hmis
    · exact (goOn_no hs).elim
  · exact (goOn_no hs).elim
end SIM3
