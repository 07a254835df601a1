-- deps: 74.clause
/-! THE CLAUSES of a house, both readers'. -/
def WI (n g : Nat) (X W N E C : Nat → Int32) (ml : List Cl) (lv rs : Int32) (nc l : Nat) : Prop :=
  lv = la 3 20 ml ∧ rs = la 4 5 ml ∧ nc = (flt ml).length ∧ HL W N E C n (flt ml) ∧ (nc = 0 → l = 0) ∧ (∀ j, nc = j + 1 → E j = nI l) ∧ l ≤ n ∧ (∀ i, i < l → X (431 + (100 * g + i)) = mtok (C i)) ∧ (∀ (k : Nat) (x : Cl), ml[k]? = some x → X (231 + (10 * g + k)) = x.1 ∧ X (281 + (10 * g + k)) = x.2.1 ∧ X (331 + (10 * g + k)) = nI x.2.2.1 ∧ X (381 + (10 * g + k)) = nI x.2.2.2 ∧ x.2.2.2 ≤ l ∧ (x.1 = 0 ∨ x.1 = 1 ∨ x.1 = 2 → x.2.2.1 ≤ x.2.2.2 ∧ x.2.2.2 ≤ n ∧ rnD C x.2.2.1 (x.2.2.2 - x.2.2.1) 0 = some 1)) ∧ HR ml
section WH
variable {n g : Nat} {u : Nat → Nat}
theorem la_app {y : Int32} {x : Cl} : ∀ (ml : List Cl) (a : Int32), la y a (ml ++ [x]) = if x.1 = y then x.2.1 else la y a ml := by
  intro ml
  induction ml with
  | nil => intro a; rfl
  | cons z r ih =>
    intro a
    exact ih _
theorem flt_app {ml : List Cl} {x : Cl} : flt (ml ++ [x]) = flt ml ++ (if x.1 = 0 ∨ x.1 = 1 ∨ x.1 = 2 then [x] else []) := by
  unfold flt
  rw [List.filter_append]
  congr 1
  by_cases h : x.1 = 0 ∨ x.1 = 1 ∨ x.1 = 2
  · rw [if_pos h]
    simp [h]
  · rw [if_neg h]
    simp [h]
theorem w3 {w : Nat} (hw : w < 5) : (nI w = 0 ∨ nI w = 1 ∨ nI w = 2) = (w < 3) := by
  have : ∀ w, w < 5 → ((nI w = 0 ∨ nI w = 1 ∨ nI w = 2) ↔ w < 3) := by decide +kernel
  exact propext (this w hw)
theorem flt_le (ml : List Cl) : (flt ml).length ≤ ml.length := List.length_filter_le _ _
theorem nI_w {w k : Nat} (hw : w < 5) (hk : k < 5) : (nI w = nI k) = (w = k) := propext (nI_eq (by omega) (by omega))
theorem WI_step {X W N E C C' : Nat → Int32} {ml : List Cl} {lv rs : Int32} {nc l l' w m : Nat} (I : WI n g X W N E C ml lv rs nc l) (hlen : ml.length ≤ 9) (hw : w < 5) (hm : m ≤ 99) (hl : l ≤ l') (hn : l' ≤ n) (hn9 : n < 100) (hC : ∀ i, i < l → C' i = C i) (h3 : 3 ≤ w → l' = l) (hr : w < 3 → rnD C' l (l' - l) 0 = some 1) : WI n g (upd (XCF X g ml.length w m l l' C') (226 + g) (nI (ml.length + 1))) (if w < 3 then upd W nc (nI w) else W) (if w < 3 then upd N nc (nI m) else N) (if w < 3 then upd E nc (nI l') else E) C' (ml ++ [(nI w, nI m, l, l')]) (if w = 3 then nI m else lv) (if w = 4 then nI m else rs) (if w < 3 then nc + 1 else nc) l' := by
  obtain ⟨i1, i2, i3, i4, i5, i6, i7, i8, i9, i10⟩ := I
  have e3 : (nI w = 3) = (w = 3) := nI_w hw (by decide)
  have e4 : (nI w = 4) = (w = 4) := nI_w hw (by decide)
  have hlt := flt_le ml
  have rC : ∀ a b, b ≤ l → a ≤ b → rnD C' a (b - a) 0 = rnD C a (b - a) 0 := fun a b hb hab => rnD_cg _ _ _ (fun j h1 h2 => hC j (by omega))
  have fl : flt (ml ++ [(nI w, nI m, l, l')]) = flt ml ++ (if w < 3 then [(nI w, nI m, l, l')] else []) := by
    rw [flt_app]
    simp only [w3 hw]
  have fle : ∀ (c : Nat) (x : Cl), (flt ml)[c]? = some x → x.2.2.2 ≤ l := fun c x hx => by
    have hmem := List.mem_of_getElem? hx
    have hmem2 : x ∈ ml := (List.mem_filter.mp hmem).1
    obtain ⟨k, hk⟩ := List.getElem?_of_mem hmem2
    exact (i9 k x hk).2.2.2.2.1
  have old : ∀ (c : Nat) (x : Cl), (flt ml)[c]? = some x → c < nc := fun c x hx => by
    rw [i3]
    exact (List.getElem?_eq_some_iff.mp hx).1
  refine ⟨?_, ?_, ?_, ?_, ?_, ?_, hn, ?_, ?_, ?_⟩
  · rw [la_app, i1]
    simp only [e3]
  · rw [la_app, i2]
    simp only [e4]
  · rw [fl, List.length_append, ← i3]
    by_cases z : w < 3
    · rw [if_pos z, if_pos z]; rfl
    · rw [if_neg z, if_neg z]; rfl
  · rw [fl]
    obtain ⟨j1, j2, j3⟩ := i4
    by_cases z : w < 3
    · simp only [if_pos z]
      refine ⟨by rw [List.length_append]; show _ + 1 ≤ 10; omega, j2, fun c x hx => ?_⟩
      by_cases hc : c < (flt ml).length
      · rw [List.getElem?_append_left hc] at hx
        obtain ⟨k1, k2, k3, k4, k5, k6, k7, k8⟩ := j3 c x hx
        have cnc : c < nc := old c x hx
        have xl := fle c x hx
        refine ⟨by rw [upd_at, if_neg (by omega)]; exact k1, by rw [upd_at, if_neg (by omega)]; exact k2, by rw [upd_at, if_neg (by omega)]; exact k3, k4, fun k hk => by rw [upd_at, if_neg (by omega)]; exact k5 k hk, k6, by omega, by rw [rC _ _ xl k6]; exact k8⟩
      · have hcl : c < (flt ml ++ [((nI w, nI m, l, l') : Cl)]).length := (List.getElem?_eq_some_iff.mp hx).1
        rw [List.length_append] at hcl
        have hc2 : c = (flt ml).length := by
          have : c < (flt ml).length + 1 := hcl
          omega
        rw [hc2, List.getElem?_append_right (Nat.le_refl _), Nat.sub_self] at hx
        cases hx
        have hcn : c = nc := by omega
        rw [hcn]
        refine ⟨by rw [upd_at, if_pos rfl], by rw [upd_at, if_pos rfl], by rw [upd_at, if_pos rfl], fun h0 => i5 h0, fun k hk => by rw [upd_at, if_neg (by omega)]; exact i6 k hk, hl, hn, hr z⟩
    · simp only [if_neg z, List.append_nil]
      refine ⟨j1, j2, fun c x hx => ?_⟩
      obtain ⟨k1, k2, k3, k4, k5, k6, k7, k8⟩ := j3 c x hx
      exact ⟨k1, k2, k3, k4, k5, k6, k7, by rw [rC _ _ (fle c x hx) k6]; exact k8⟩
  · intro h0
    by_cases z : w < 3
    · rw [if_pos z] at h0
      omega
    · rw [if_neg z] at h0
      rw [h3 (by omega)]
      exact i5 h0
  · intro j hj
    by_cases z : w < 3
    · rw [if_pos z] at hj ⊢
      have : j = nc := by omega
      rw [this, upd_at, if_pos rfl]
    · rw [if_neg z] at hj ⊢
      rw [h3 (by omega)]
      exact i6 j hj
  · intro i hi
    unfold XCF
    rw [upd_at, if_neg (by omega), upd_at, if_neg (by omega)]
    unfold CX
    by_cases y : l ≤ i
    · rw [if_pos (by omega)]
      congr 2
      omega
    · rw [if_neg (by omega), hC i (by omega), ← i8 i (by omega)]
      unfold X1F
      rw [upd_at, if_neg (by omega), upd_at, if_neg (by omega), upd_at, if_neg (by omega)]
  · intro k x hx
    by_cases hk : k < ml.length
    · rw [List.getElem?_append_left hk] at hx
      obtain ⟨k1, k2, k3, k4, k5, k6⟩ := i9 k x hx
      have ev : ∀ b, b = 231 ∨ b = 281 ∨ b = 331 ∨ b = 381 → upd (XCF X g ml.length w m l l' C') (226 + g) (nI (ml.length + 1)) (b + (10 * g + k)) = X (b + (10 * g + k)) := fun b hb => by
        unfold XCF
        rw [upd_at, if_neg (by omega), upd_at, if_neg (by omega)]
        unfold CX
        rw [if_neg (by omega)]
        unfold X1F
        rw [upd_at, if_neg (by omega), upd_at, if_neg (by omega), upd_at, if_neg (by omega)]
      rw [ev 231 (by decide), ev 281 (by decide), ev 331 (by decide), ev 381 (by decide)]
      exact ⟨k1, k2, k3, k4, by omega, fun z => ⟨(k6 z).1, (k6 z).2.1, by rw [rC _ _ k5 (k6 z).1]; exact (k6 z).2.2⟩⟩
    · have hkl : k < (ml ++ [((nI w, nI m, l, l') : Cl)]).length := (List.getElem?_eq_some_iff.mp hx).1
      rw [List.length_append] at hkl
      have hk2 : k = ml.length := by
        have : k < ml.length + 1 := hkl
        omega
      rw [hk2, List.getElem?_append_right (Nat.le_refl _), Nat.sub_self] at hx
      cases hx
      rw [hk2]
      have hg : g < 100 ∨ 100 ≤ g := by omega
      refine ⟨?_, ?_, ?_, ?_, Nat.le_refl _, fun z => ?_⟩
      · unfold XCF
        rw [upd_at, if_neg (by omega), upd_at, if_neg (by omega)]
        unfold CX
        rw [if_neg (by omega)]
        unfold X1F
        rw [upd_at, if_neg (by omega), upd_at, if_neg (by omega), upd_at, if_pos rfl]
      · unfold XCF
        rw [upd_at, if_neg (by omega), upd_at, if_neg (by omega)]
        unfold CX
        rw [if_neg (by omega)]
        unfold X1F
        rw [upd_at, if_neg (by omega), upd_at, if_pos rfl]
      · unfold XCF
        rw [upd_at, if_neg (by omega), upd_at, if_neg (by omega)]
        unfold CX
        rw [if_neg (by omega)]
        unfold X1F
        rw [upd_at, if_pos rfl]
      · unfold XCF
        rw [upd_at, if_neg (by omega), upd_at, if_pos rfl]
      · have z' : w < 3 := by
          have := w3 hw
          rw [← this]
          exact z
        exact ⟨hl, hn, hr z'⟩
  · intro x hx
    rcases List.mem_append.mp hx with y | y
    · exact i10 x y
    · have : x = (nI w, nI m, l, l') := by simpa using y
      rw [this]
      exact ⟨⟨w, by omega, rfl⟩, ⟨m, hm, rfl⟩⟩
theorem CST_PS {h : AHp} {q p nc l w m : Nat} {lv rs : Int32} {W N E C : Nat → Int32} (hw : w < 5) : CST h q n lv rs p nc l W N E C w m = PS h q n (if w = 3 then nI m else lv) (if w = 4 then nI m else rs) p (if w < 3 then nc + 1 else nc) l (if w < 3 then upd W nc (nI w) else W) (if w < 3 then upd N nc (nI m) else N) (if w < 3 then upd E nc (nI l) else E) C := by
  unfold CST
  by_cases w3 : w = 3
  · subst w3; rfl
  · by_cases w4 : w = 4
    · subst w4; rfl
    · have z : w < 3 := by omega
      rw [if_neg w3, if_neg w4, if_neg w3, if_neg w4, if_pos z, if_pos z, if_pos z, if_pos z]
end WH
