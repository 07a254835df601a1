/-! THE PLAIN MACHINE'S CELLS in the heap of the Statement: a place is an address (places under 32 are old cells: the constant texts, their bytes, the formatter, the script). -/
def adr (b : Nat) (ro : Nat → Nat) (p : Nat) : Nat := if p < 32 then ro p else b + (p - 32)
/-- the formatter: nobody looks at it, and it may be null -/
def fmO (n : Nat) : Value := if n = 0 then .null else .ref (n - 1)
def cvV (ad : Nat → Nat) : Value → Value
  | .ref p => .ref (ad p)
  | .retAddr n => if n = 1 then fmO (ad 30) else .retAddr n
  | v => v
def cvE (ad tyC : Nat → Nat) : va_E → va_E
  | .inl (t, n, .inr (.inr (.inr (.inr f)))) => .inl (tyC t, n, .inr (.inr (.inr (.inr (fun k => (f k).map ad)))))
  | .inl (t, n, x) => .inl (tyC t, n, x)
  | .inr (ci, fs) => .inr (ci, fs.map (cvV ad))
def conc (ad tyC : Nat → Nat) (h : AHp) : va_W := (List.range (h.2.1 - 32)).map (fun i => (ad (i + 32), cvE ad tyC (h.1 (i + 32))))
def sby (i : Nat) : List Int32 := match strA[i]? with
  | some q => q.2.2.2
  | none => []
def roC (L : Nat) (xs : Nat → Int32) (p : Nat) : va_E := if p < 15 then .inr (13, [.ref (15 + p), .int 0]) else if p < 30 then .inl (11, (sby (p - 15)).length, .inl (fun j => (sby (p - 15)).getD j 0)) else if p = 31 then .inl (10, L, .inl xs) else noC
def wfC (c : va_E) : Prop := match c with
  | .inl (t, _, .inl _) => t < 3
  | .inl (t, _, .inr (.inr (.inr (.inr _)))) => t = 3
  | .inl _ => False
  | .inr o => o.1 < 13
def tysA (tyC : Nat → Nat) : List (ClassId × FieldType) := [(tyC 0, .int), (tyC 1, .byte), (tyC 2, .boolean), (tyC 3, .object RX4)]
theorem cvE_i {ad tyC : Nat → Nat} {t n : Nat} {f : Nat → Int32} : cvE ad tyC (.inl (t, n, .inl f)) = .inl (tyC t, n, .inl f) := rfl
theorem cvE_q {ad tyC : Nat → Nat} {t n : Nat} {f : Nat → Option Nat} : cvE ad tyC (.inl (t, n, .inr (.inr (.inr (.inr f))))) = .inl (tyC t, n, .inr (.inr (.inr (.inr (fun k => (f k).map ad))))) := rfl
theorem cvE_o {ad tyC : Nat → Nat} {ci : Nat} {fs : List Value} : cvE ad tyC (.inr (ci, fs)) = .inr (ci, fs.map (cvV ad)) := rfl
theorem adr_in {b p : Nat} {ro : Nat → Nat} (h : 32 ≤ p) : adr b ro p = b + (p - 32) := by
  unfold adr; rw [if_neg (by omega)]
theorem adr_lo {b p : Nat} {ro : Nat → Nat} (h : p < 32) : adr b ro p = ro p := by
  unfold adr; rw [if_pos h]
theorem conc_at {ad tyC : Nat → Nat} {h : AHp} {p : Nat} (h1 : 32 ≤ p) (h2 : p < h.2.1) : (conc ad tyC h)[p - 32]? = some (ad p, cvE ad tyC (h.1 p)) := by
  unfold conc
  rw [List.getElem?_map, List.getElem?_range (by omega), Option.map_some, Nat.sub_add_cancel h1]
theorem conc_len {ad tyC : Nat → Nat} {h : AHp} : (conc ad tyC h).length = h.2.1 - 32 := by
  unfold conc; simp
theorem conc_get {ad tyC : Nat → Nat} {h : AHp} {k : Nat} {q : Nat × va_E} (e : (conc ad tyC h)[k]? = some q) : k < h.2.1 - 32 ∧ q = (ad (k + 32), cvE ad tyC (h.1 (k + 32))) := by
  have hl : k < (conc ad tyC h).length := (List.getElem?_eq_some_iff.mp e).1
  rw [conc_len] at hl
  have h1 := conc_at (ad := ad) (tyC := tyC) (h := h) (p := k + 32) (by omega) (by omega)
  rw [Nat.add_sub_cancel] at h1
  exact ⟨hl, Option.some.inj (e.symm.trans h1)⟩
theorem conc_set {ad tyC : Nat → Nat} {h : AHp} {p : Nat} {c : va_E} (h1 : 32 ≤ p) : (conc ad tyC h).set (p - 32) (ad p, cvE ad tyC c) = conc ad tyC (hset h p c) := by
  apply List.ext_getElem?
  intro k
  by_cases hk : k < h.2.1 - 32
  · have e2 := conc_at (ad := ad) (tyC := tyC) (h := hset h p c) (p := k + 32) (by omega) (by show k + 32 < h.2.1; omega)
    rw [Nat.add_sub_cancel] at e2
    rw [e2]
    by_cases hkp : k + 32 = p
    · subst hkp
      rw [Nat.add_sub_cancel, List.getElem?_set_self (by rw [conc_len]; exact hk)]
      simp [hset]
    · rw [List.getElem?_set_ne (by omega)]
      have e1 := conc_at (ad := ad) (tyC := tyC) (h := h) (p := k + 32) (by omega) (by omega)
      rw [Nat.add_sub_cancel] at e1
      rw [e1]
      simp [hset, hkp]
  · rw [List.getElem?_eq_none (by rw [List.length_set, conc_len]; omega), List.getElem?_eq_none (by rw [conc_len]; show h.2.1 - 32 ≤ k; omega)]
theorem conc_new {ad tyC : Nat → Nat} {h : AHp} {c : va_E} {k : Nat} (h1 : 32 ≤ h.2.1) : conc ad tyC h ++ [(ad h.2.1, cvE ad tyC c)] = conc ad tyC (hnew h c k) := by
  apply List.ext_getElem?
  intro i
  rcases Nat.lt_trichotomy i (h.2.1 - 32) with q | q | q
  · rw [List.getElem?_append_left (by rw [conc_len]; exact q)]
    have e1 := conc_at (ad := ad) (tyC := tyC) (h := h) (p := i + 32) (by omega) (by omega)
    have e2 := conc_at (ad := ad) (tyC := tyC) (h := hnew h c k) (p := i + 32) (by omega) (by show i + 32 < h.2.1 + 1; omega)
    rw [Nat.add_sub_cancel] at e1 e2
    rw [e1, e2]
    simp only [hnew]
    rw [if_neg (by omega)]
  · subst q
    rw [List.getElem?_append_right (by rw [conc_len]; omega), conc_len, Nat.sub_self]
    have e2 := conc_at (ad := ad) (tyC := tyC) (h := hnew h c k) (p := h.2.1) h1 (by show h.2.1 < h.2.1 + 1; omega)
    rw [e2]
    simp [hnew]
  · rw [List.getElem?_eq_none (by rw [List.length_append, conc_len]; simp; omega), List.getElem?_eq_none (by rw [conc_len]; show h.2.1 + 1 - 32 ≤ i; omega)]
theorem conc_D {b : Nat} {ro tyC : Nat → Nat} {h : AHp} : va_D (fun q : Nat => b ≤ q) (conc (adr b ro) tyC h) := by
  refine ⟨fun i j p q hp hq e => ?_, fun k q hq => ?_⟩
  · obtain ⟨h1, rfl⟩ := conc_get hp
    obtain ⟨h2, rfl⟩ := conc_get hq
    simp only at e
    rw [adr_in (by omega), adr_in (by omega)] at e
    omega
  · obtain ⟨h1, rfl⟩ := conc_get hq
    simp only
    rw [adr_in (by omega)]
    omega
/-- the plain machine's cells are the heap's -/
def Cn (b : Nat) (ro : Nat → Nat) (D : va_G) (tyC : Nat → Nat) (L : Nat) (xs : Nat → Int32) (h : AHp) (H : Heap) : Prop :=
  va_P D clA (conc (adr b ro) tyC h) H ∧ H.size = b + (h.2.1 - 32) ∧ 32 ≤ h.2.1 ∧ (∀ p, h.2.1 ≤ p → h.1 p = noC) ∧ (∀ p, 32 ≤ p → p < h.2.1 → wfC (h.1 p)) ∧ (∀ p, p < 32 → h.1 p = roC L xs p)
section CN
variable {b : Nat} {ro : Nat → Nat} {D : va_G} {tyC : Nat → Nat} {L : Nat} {xs : Nat → Int32} {h : AHp} {H H1 : Heap}
/-- a cell of a kind that is only written lies among our own -/
theorem Cn.own (C : Cn b ro D tyC L xs h H) {p : Nat} (hw : wfC (h.1 p)) : 32 ≤ p ∧ p < h.2.1 := by
  obtain ⟨-, -, h1, h2, -, h3⟩ := C
  refine ⟨?_, ?_⟩
  · rcases Nat.lt_or_ge p 32 with q | q
    · rw [h3 p q] at hw
      exfalso
      revert hw
      unfold roC
      repeat' split
      all_goals (intro hw; simp [wfC, noC] at hw)
    · exact q
  · rcases Nat.lt_or_ge p h.2.1 with q | q
    · exact q
    · rw [h2 p q] at hw
      simp [wfC, noC] at hw
theorem Cn.at (C : Cn b ro D tyC L xs h H) {p : Nat} (hw : wfC (h.1 p)) : (conc (adr b ro) tyC h)[p - 32]? = some (adr b ro p, cvE (adr b ro) tyC (h.1 p)) := conc_at (C.own hw).1 (C.own hw).2
theorem Cn.put (C : Cn b ro D tyC L xs h H) {p : Nat} {c : va_E} (hw : wfC (h.1 p)) (hc : wfC c) (hP : va_P D clA ((conc (adr b ro) tyC h).set (p - 32) (adr b ro p, cvE (adr b ro) tyC c)) H1) (hz : H1.size = b + (h.2.1 - 32)) : Cn b ro D tyC L xs (hset h p c) H1 := by
  have ho := C.own hw
  rw [conc_set ho.1] at hP
  obtain ⟨-, -, h1, h2, h3, h4⟩ := C
  refine ⟨hP, hz, h1, fun q hq => ?_, fun q hq hq2 => ?_, fun q hq => ?_⟩
  · have hq' : h.2.1 ≤ q := hq
    simp only [hset]
    rw [if_neg (by omega)]
    exact h2 q hq
  · simp only [hset]
    split
    · exact hc
    · exact h3 q hq hq2
  · simp only [hset]
    rw [if_neg (by omega)]
    exact h4 q hq
theorem Cn.new (C : Cn b ro D tyC L xs h H) {c : va_E} {k q : Nat} (hc : wfC c) (hP : va_P D clA (conc (adr b ro) tyC h ++ [(q, cvE (adr b ro) tyC c)]) H1) (hD : va_D (fun q : Nat => b ≤ q) (conc (adr b ro) tyC h ++ [(q, cvE (adr b ro) tyC c)])) (hz : H1.size ≤ b + (h.2.1 - 32) + 1) : q = adr b ro h.2.1 ∧ Cn b ro D tyC L xs (hnew h c k) H1 := by
  obtain ⟨-, -, h1, h2, h3, h4⟩ := C
  have hlast : (conc (adr b ro) tyC h ++ [(q, cvE (adr b ro) tyC c)])[h.2.1 - 32]? = some (q, cvE (adr b ro) tyC c) := by
    rw [List.getElem?_append_right (by rw [conc_len]; omega), conc_len, Nat.sub_self]
    rfl
  have hlt : q < H1.size := (hP _ _ hlast).lt
  have hge : b ≤ q := hD.2 _ _ hlast
  have hq : q = b + (h.2.1 - 32) := by
    rcases Nat.lt_or_ge q (b + (h.2.1 - 32)) with z | z
    · exfalso
      have e1 := conc_at (ad := adr b ro) (tyC := tyC) (h := h) (p := q - b + 32) (by omega) (by omega)
      rw [Nat.add_sub_cancel, adr_in (by omega)] at e1
      have e2 : (conc (adr b ro) tyC h ++ [(q, cvE (adr b ro) tyC c)])[q - b]? = some (b + (q - b + 32 - 32), cvE (adr b ro) tyC (h.1 (q - b + 32))) := by
        rw [List.getElem?_append_left (by rw [conc_len]; omega)]; exact e1
      have := hD.1 _ _ _ _ e2 hlast (by simp only; omega)
      omega
    · omega
  have hqa : q = adr b ro h.2.1 := by rw [adr_in h1]; exact hq
  refine ⟨hqa, ?_⟩
  rw [hqa, conc_new (k := k) h1] at hP
  refine ⟨hP, ?_, ?_, fun p hp => ?_, fun p hp hp2 => ?_, fun p hp => ?_⟩
  · show H1.size = b + (h.2.1 + 1 - 32); omega
  · show 32 ≤ h.2.1 + 1; omega
  · have hp' : h.2.1 + 1 ≤ p := hp
    simp only [hnew]
    rw [if_neg (by omega)]
    exact h2 p (by omega)
  · have hp2' : p < h.2.1 + 1 := hp2
    simp only [hnew]
    split
    · exact hc
    · exact h3 p hp (by omega)
  · simp only [hnew]
    rw [if_neg (by omega)]
    exact h4 p hp
/-- no fewer cells than are listed -/
theorem Cn.low (C : Cn b ro D tyC L xs h H) (hP : va_P D clA (conc (adr b ro) tyC h) H1) {s0 : Nat} (h0 : b ≤ s0) (hs : s0 ≤ H1.size) : b + (h.2.1 - 32) ≤ H1.size := by
  obtain ⟨-, -, h1, -, -, -⟩ := C
  rcases Nat.eq_or_lt_of_le h1 with q | q
  · omega
  · have e1 := conc_at (ad := adr b ro) (tyC := tyC) (h := h) (p := h.2.1 - 1) (by omega) (by omega)
    have := (hP _ _ e1).lt
    simp only at this
    rw [adr_in (by omega)] at this
    omega
end CN
/-- the heap is no larger than the room taken -/
theorem W_size {p : Program} {l : Launch} {e : Env} {R : Room} {s : State} {m : MethodId} {args : Array Value} {below : List Frame} {meth : Method} {c : Code} {H : Heap} {locs : List Loc} {cells slots : Nat} {Q : State → Prop} {g : JFrame}
    (k : H.size ≤ s.heap.size + cells → W p l e R s m args below meth c H locs cells slots Q g) : W p l e R s m args below meth c H locs cells slots Q g := fun T hT X => k (by rw [← hT]; exact X.heapSize) T hT X
