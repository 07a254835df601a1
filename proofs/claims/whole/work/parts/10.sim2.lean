section SIM2
variable {p : Program} {l : Launch} {e : Env} {R : Room} {s : State} {m : MethodId} {args : Array Value} {below : List Frame} {meth : Method} {c : Code}
variable {b : Nat} {ro : Nat → Nat} {D : va_G} {tyC : Nat → Nat} {L : Nat} {xs : Nat → Int32}
variable {M pc pc' : Nat} {len : Nat} {info : List (Nat × Nat)} {lsA stA lsA' stA' : List Value} {h h' : AHp} {Q : State → Prop} {cells slots : Nat} {H : Heap} {locs : List Loc} {ls : Array Slot}
theorem Cn.size (C : Cn b ro D tyC L xs h H) : H.size = b + (h.2.1 - 32) := C.2.1
/-- behind a row that writes: the heap is as large as it was -/
theorem put_size (C : Cn b ro D tyC L xs h H) {H1 : Heap} {q : Nat} {x : va_E} (hq : 32 ≤ q) (hP : va_P D clA ((conc (adr b ro) tyC h).set (q - 32) (adr b ro q, cvE (adr b ro) tyC x)) H1) (hb : b ≤ s.heap.size) (hs : s.heap.size ≤ H1.size) (hcz : s.heap.size + cells = H.size) (hz : H1.size ≤ s.heap.size + cells) : H1.size = b + (h.2.1 - 32) := by
  have h1 : Cn b ro D tyC L xs h H := C
  rw [conc_set hq] at hP
  have hz2 := C.size
  have h3 : b + (h.2.1 - 32) ≤ H1.size := by
    rcases Nat.eq_or_lt_of_le C.2.2.1 with q2 | q2
    · omega
    · have e1 := conc_at (ad := adr b ro) (tyC := tyC) (h := hset h q x) (p := h.2.1 - 1) (by omega) (by show h.2.1 - 1 < h.2.1; omega)
      have := (hP _ _ e1).lt
      simp only at this
      rw [adr_in (by omega)] at this
      omega
  omega
theorem sim_getfield {i : Nat} (F : Fr p s m args meth c b ro D tyC L xs M) (hcd : cd M pc = some (pc, .getfield i, len, info))
    (hs : stpI M pc (.getfield i) len info lsA stA h = goOn pc' lsA' stA' h') (C : Cn b ro D tyC L xs h H) (hS : va_S (fun q : Nat => b ≤ q) s.heap H locs) (hL : LR (adr b ro) lsA ls)
    (K : Nxt p l e R s m args below meth c b ro D tyC L xs Q h h' cells slots pc' lsA' stA') : W p l e R s m args below meth c H locs cells slots Q (F0 m pc ls (stA.map (cvV (adr b ro)))) := by
  obtain ⟨hx, hb, hml, hown, hnm, hts, hE⟩ := F
  obtain ⟨-, hdg, hln, hmis, hwd⟩ := cd_ok hcd
  simp only at hdg hln hmis hwd
  have hln : len = 3 := by simpa [lenI] using hln
  subst hln
  simp only [stpI] at hs
  split at hs
  · next a st0 =>
    split at hs
    · next v hv =>
      obtain ⟨rfl, rfl, rfl, rfl⟩ := goOn_inj hs
      unfold fVal at hv
      split at hv
      · next o ho =>
        obtain ⟨ci, fs⟩ := o
        split at hv
        · next k hk =>
          have hmem := fIx_mem hk
          have hm1 := List.all_eq_true.mp hmis _ hmem
          simp only at hm1
          have hw : ∀ w ∈ fW (mH M).1.cls i (ci, k), w ∈ lw_tbl ∧ goodWord w = true := by
            rcases hwd with ⟨x, hx1⟩ | hwd
            · exfalso
              rw [hx1] at hmem
              have := List.mem_singleton.mp hmem
              cases this
              rw [if_neg (by decide)] at hm1
              have := of_decide_eq_true hm1
              simp [nF, clA] at this
            · intro w hw
              exact hwd w (List.mem_flatMap.mpr ⟨_, hmem, hw⟩)
          rcases C.obj ho with ⟨h1, h2, h3, h4⟩ | ⟨h1, h2, h3⟩
          · rw [if_neg (by omega)] at hm1
            obtain ⟨r, hr, hkr⟩ := nF_get (of_decide_eq_true hm1)
            obtain ⟨g1, g2⟩ := fld_words hts hw hr h1
            have K1 := K.same C hS hL
            exact va_get hx hb hts (uw_all ci r hr) hown hE.1 C.1 (a - 32) h4 hr k hkr g1 g2 (v := cvV (adr b ro) v) (by rw [List.getElem?_map]; simp only at hv; rw [hv]; rfl) hdg K1
          · subst h2
            simp only at hv
            rw [h3] at hv
            have K1 := K.same C hS hL
            rw [if_pos rfl] at hm1
            have hk2 := of_decide_eq_true hm1
            obtain ⟨-, f2, f3, -⟩ := hE.2.1 a h1
            show W p l e R s m args below meth c H locs cells slots Q (F0 m pc ls (.ref (adr b ro a) :: st0.map (cvV (adr b ro))))
            rw [adr_lo (by omega)]
            match k, hk2 with
            | 0, _ =>
              have hv' : v = .ref (15 + a) := (Option.some.inj hv).symm
              subst hv'
              have hl1 : (Cond.fieldLink (mH M).1.cls i "java/lang/String" "value" "[B").before args s = true := hts _ (lwG_of (hw _ (by simp [fW])))
              refine vk_getf hx hb f2 hS hown hl1 (fun _ z => z) hdg ?_
              have : (Value.ref (ro (15 + a)) : Value) = cvV (adr b ro) (.ref (15 + a)) := by simp only [cvV]; rw [adr_lo (by omega)]
              rw [this]
              exact K1
            | 1, _ =>
              have hv' : v = .int 0 := (Option.some.inj hv).symm
              subst hv'
              have hl1 : (Cond.fieldLink (mH M).1.cls i "java/lang/String" "coder" "B").before args s = true := hts _ (lwG_of (hw _ (by simp [fW])))
              exact vk_getf hx hb f3 hS hown hl1 (fun _ z => z) hdg K1
        · cases hv
      · cases hv
    · exact (goOn_no hs).elim
  · exact (goOn_no hs).elim
theorem sim_putfield {i : Nat} (F : Fr p s m args meth c b ro D tyC L xs M) (hcd : cd M pc = some (pc, .putfield i, len, info))
    (hs : stpI M pc (.putfield i) len info lsA stA h = goOn pc' lsA' stA' h') (C : Cn b ro D tyC L xs h H) (hS : va_S (fun q : Nat => b ≤ q) s.heap H locs) (hL : LR (adr b ro) lsA ls) (hcz : s.heap.size + cells = H.size)
    (K : Nxt p l e R s m args below meth c b ro D tyC L xs Q h h' cells slots pc' lsA' stA') : W p l e R s m args below meth c H locs cells slots Q (F0 m pc ls (stA.map (cvV (adr b ro)))) := by
  obtain ⟨hx, hb, hml, hown, hnm, hts, hE⟩ := F
  obtain ⟨-, hdg, hln, hmis, hwd⟩ := cd_ok hcd
  simp only at hdg hln hmis hwd
  have hln : len = 3 := by simpa [lenI] using hln
  subst hln
  simp only [stpI] at hs
  split at hs
  · next v a st0 =>
    split at hs
    · next x hx0 =>
      obtain ⟨rfl, rfl, rfl, rfl⟩ := goOn_inj hs
      unfold fPut at hx0
      split at hx0
      · next o ho =>
        obtain ⟨ci, fs⟩ := o
        split at hx0
        · next k hk =>
          split at hx0
          · next hcond =>
            obtain ⟨hlen, hmay⟩ := hcond
            simp only at hk hlen hmay hx0
            have hx1 := (Option.some.inj hx0).symm
            subst hx1
            have hmem := fIx_mem hk
            have hm1 := List.all_eq_true.mp hmis _ hmem
            have hci : ci < 13 := of_decide_eq_true hm1
            have hw : ∀ w ∈ fW (mH M).1.cls i (ci, k), w ∈ lw_tbl ∧ goodWord w = true := by
              rcases hwd with ⟨x, hx1⟩ | hwd
              · exfalso
                rw [hx1] at hmem
                have := List.mem_singleton.mp hmem
                cases this
                omega
              · intro w hw
                exact hwd w (List.mem_flatMap.mpr ⟨_, hmem, hw⟩)
            rcases C.obj ho with ⟨h1, h2, h3, h4⟩ | ⟨h1, h2, h3⟩
            · unfold fMay at hmay
              split at hmay
              · next r hr =>
                simp only [Bool.and_eq_true, Bool.or_eq_true, decide_eq_true_eq, beq_iff_eq] at hmay
                obtain ⟨⟨hkr, hty⟩, hfin⟩ := hmay
                have hty0 := cl_ty hr k hkr
                rw [hty0] at hty
                simp only [Bool.and_eq_true, decide_eq_true_eq] at hty
                obtain ⟨g1, g2⟩ := fld_words hts hw hr h1
                have hnF : nF ci = r.2.2 := by unfold nF; rw [hr]
                have hkl : k < (fs.map (cvV (adr b ro))).length := by rw [List.length_map, hlen, hnF]; exact hkr
                have fin : ∀ (H1 : Heap) (locs1 : List Loc), va_P D clA ((conc (adr b ro) tyC h).set (a - 32) (adr b ro a, .inr (ci, (fs.map (cvV (adr b ro))).set k (cvV (adr b ro) v)))) H1 → va_D (fun q : Nat => b ≤ q) ((conc (adr b ro) tyC h).set (a - 32) (adr b ro a, .inr (ci, (fs.map (cvV (adr b ro))).set k (cvV (adr b ro) v)))) → va_S (fun q : Nat => b ≤ q) s.heap H1 locs1 → W p l e R s m args below meth c H1 locs1 cells slots Q (F0 m (pc + 3) ls (stA'.map (cvV (adr b ro)))) := by
                  intro H1 locs1 hP1 _ hS1
                  have hce : (va_E : Type) = va_E := rfl
                  have hset : (.inr (ci, (fs.map (cvV (adr b ro))).set k (cvV (adr b ro) v)) : va_E) = cvE (adr b ro) tyC (.inr (ci, fs.set k v)) := by
                    rw [cvE_o, List.map_set]
                  rw [hset] at hP1
                  refine W_size fun hz => ?_
                  have hw0 : wfC (h.1 a) := by rw [ho]; exact h1
                  exact K.set (C.put hw0 (show wfC (.inr (ci, fs.set k v)) from h1) hP1 (put_size (s := s) (cells := cells) C h2 hP1 hE.2.2.2.2.2.2.2.2.2.2 hS1.1 hcz hz)) hS1 hL
                by_cases hf : (r.2.1 k).2.2.2 = true
                · rcases hfin with hfin | hfin
                  · rw [hf] at hfin; cases hfin
                  · exact va_putF hx hb hts (uw_all ci r hr) (tyF r.2.1) (cl_ty hr) (cl_nm hr) hown hE.1 C.1 conc_D hS (a - 32) h4 hr k hkr g1 g2 hf ((hnm hfin.1).trans hfin.1) hfin.2 hty0 (narrow_cv hty.1) (fits_cv hty.2) hkl hdg fin
                · exact va_put hx hb hts (uw_all ci r hr) (tyF r.2.1) (cl_ty hr) (cl_nm hr) hown hE.1 C.1 conc_D hS (a - 32) h4 hr k hkr g1 g2 (by simpa using hf) hty0 (narrow_cv hty.1) (fits_cv hty.2) hkl hdg fin
              · cases hmay
            · omega
          · cases hx0
        · cases hx0
      · cases hx0
    · exact (goOn_no hs).elim
  · exact (goOn_no hs).elim
theorem sim_getstatic {i : Nat} (F : Fr p s m args meth c b ro D tyC L xs M) (hcd : cd M pc = some (pc, .getstatic i, len, info))
    (hs : stpI M pc (.getstatic i) len info lsA stA h = goOn pc' lsA' stA' h') (C : Cn b ro D tyC L xs h H) (hS : va_S (fun q : Nat => b ≤ q) s.heap H locs) (hL : LR (adr b ro) lsA ls)
    (K : Nxt p l e R s m args below meth c b ro D tyC L xs Q h h' cells slots pc' lsA' stA') : W p l e R s m args below meth c H locs cells slots Q (F0 m pc ls (stA.map (cvV (adr b ro)))) := by
  obtain ⟨hx, hb, hml, hown, hnm, hts, hE⟩ := F
  obtain ⟨-, hdg, hln, hmis, hwd⟩ := cd_ok hcd
  simp only at hdg hln hmis hwd
  have hln : len = 3 := by simpa [lenI] using hln
  subst hln
  simp only [mis, Bool.or_eq_true, decide_eq_true_eq] at hmis
  rcases hmis with rfl | rfl
  · obtain ⟨rfl, rfl, rfl, rfl⟩ := goOn_inj hs
    have hw : (Cond.fieldLink (mH M).1.cls i "java/lang/String" "COMPACT_STRINGS" "Z").before args s = true := by
      rcases hwd with ⟨x, hx1⟩ | hwd
      · cases hx1
      · exact hts _ (lwG_of (hwd _ (by simp [need])))
    exact va_gets hx hb hE.2.2.2.1 hS hown hw (fun _ z => z) hdg (K.same C hS hL)
  · obtain ⟨rfl, rfl, rfl, rfl⟩ := goOn_inj hs
    have hw : (Cond.fieldLink (mH M).1.cls i "jdk/internal/util/Preconditions" "SIOOBE_FORMATTER" "Ljava/util/function/BiFunction;").before args s = true := by
      rcases hwd with ⟨x, hx1⟩ | hwd
      · cases hx1
      · exact hts _ (lwG_of (hwd _ (by simp [need])))
    refine va_gets hx hb hE.2.2.2.2.1 hS hown hw (fun _ z => z) hdg ?_
    have h1 := K.same C hS hL
    have : fmO (ro 30) = cvV (adr b ro) (.retAddr 1) := by
      show _ = fmO (adr b ro 30)
      rw [adr_lo (by omega)]
    rw [this]
    exact h1
theorem sim_ldc {i : Nat} (F : Fr p s m args meth c b ro D tyC L xs M) (hcd : cd M pc = some (pc, .ldc i, len, info))
    (hs : stpI M pc (.ldc i) len info lsA stA h = goOn pc' lsA' stA' h') (C : Cn b ro D tyC L xs h H) (hS : va_S (fun q : Nat => b ≤ q) s.heap H locs) (hL : LR (adr b ro) lsA ls)
    (K : Nxt p l e R s m args below meth c b ro D tyC L xs Q h h' cells slots pc' lsA' stA') : W p l e R s m args below meth c H locs cells slots Q (F0 m pc ls (stA.map (cvV (adr b ro)))) := by
  obtain ⟨hx, hb, hml, hown, hnm, hts, hE⟩ := F
  obtain ⟨-, hdg, hln, hmis, hwd⟩ := cd_ok hcd
  simp only at hdg hln hmis hwd
  have hln : len = 2 := by simpa [lenI] using hln
  subst hln
  simp only [stpI] at hs
  split at hs
  · next q =>
    simp only [mis] at hmis
    split at hmis
    · next y hy =>
      simp only [Bool.and_eq_true, decide_eq_true_eq] at hmis
      obtain ⟨h1, h2⟩ := hmis
      have hZ := hE.2.2.1 q y hy
      rw [h1, h2] at hZ
      obtain ⟨rfl, rfl, rfl, rfl⟩ := goOn_inj hs
      refine va_ldcS hx hb hown hZ hdg ?_
      have hq : q < 15 := (List.getElem?_eq_some_iff.mp hy).1
      have h3 := K.same C hS hL
      have : (Value.ref (ro q) : Value) = cvV (adr b ro) (.ref q) := by simp only [cvV]; rw [adr_lo (by omega)]
      rw [this]
      exact h3
    · cases hmis
  · exact (goOn_no hs).elim
end SIM2
