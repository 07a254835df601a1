-- deps: 42.bargain
/-! THE WORKERS in the order of their DESKS. -/
def lnK (A : Nat → Int32) : Nat → Nat → List Nat
  | _, 0 => []
  | d, k + 1 => if sit A (nI d) = -1 then lnK A (d + 1) k else (sit A (nI d)).toNatClampNeg :: lnK A (d + 1) k
section LN
variable {d o q n cl : Nat} {kn : Nat → Nat} {A B C S : Nat → Int32} {h : AHp} {ml : List Cl}
theorem sitK_is {A : Nat → Int32} {x : Int32} {v : Nat} : ∀ (k w : Nat), w ≤ v → v < w + k → A (10 + v) = x → (∀ u, w ≤ u → u < w + k → A (10 + u) = x → u = v) → sitK A x w k = nI v := by
  intro k
  induction k with
  | zero => intro w h1 h2; omega
  | succ k ih =>
    intro w h1 h2 h3 h4
    unfold sitK
    by_cases e : A (10 + w) = x
    · rw [if_pos e, h4 w (Nat.le_refl _) (by omega) e]
    · rw [if_neg e]
      have hne : w ≠ v := fun z => e (by rw [z]; exact h3)
      exact ih (w + 1) (by omega) (by omega) h3 (fun u a b c => h4 u (by omega) (by omega) c)
theorem sit_desk (R : RG A n) {v e : Nat} (hv : v < n) (he : A (10 + v) = nI e) : sit A (nI e) = nI v := by
  unfold sit
  rw [A0c R]
  exact sitK_is n 0 (by omega) (by omega) he (fun u a b c => R.2.2.2.2.1 u v (by omega) hv (c.trans he.symm))
theorem ln_mem (R : RG A n) : ∀ (k d : Nat), d + k ≤ 10 → ∀ v, v ∈ lnK A d k ↔ (v < n ∧ ∃ e, d ≤ e ∧ e < d + k ∧ A (10 + v) = nI e) := by
  have hn := R.1
  intro k
  induction k with
  | zero =>
    intro d hd v
    simp only [lnK, List.not_mem_nil, false_iff]
    rintro ⟨-, e, h1, h2, -⟩
    omega
  | succ k ih =>
    intro d hd v
    have q := ih (d + 1) (by omega) v
    unfold lnK
    rcases sit_rng R (nI d) with e | ⟨j, hj, e, ej⟩
    · rw [if_pos e, q]
      constructor
      · rintro ⟨a, x, h1, h2, h3⟩
        exact ⟨a, x, by omega, by omega, h3⟩
      · rintro ⟨a, x, h1, h2, h3⟩
        refine ⟨a, x, ?_, by omega, h3⟩
        rcases Nat.eq_or_lt_of_le h1 with z | z
        · subst z
          have := sit_desk R a h3
          rw [this] at e
          exact absurd (show nI v < 0 by rw [e]; decide) (nI_pos (by omega))
        · omega
    · have hne : ¬ sit A (nI d) = -1 := by
        rw [e]; intro z
        exact nI_pos (n := j) (by omega) (by rw [z]; decide)
      rw [if_neg hne, e, nI_clamp (by omega), List.mem_cons, q]
      constructor
      · rintro (rfl | ⟨a, x, h1, h2, h3⟩)
        · exact ⟨hj, d, by omega, by omega, ej⟩
        · exact ⟨a, x, by omega, by omega, h3⟩
      · rintro ⟨a, x, h1, h2, h3⟩
        rcases Nat.eq_or_lt_of_le h1 with z | z
        · subst z
          left
          exact R.2.2.2.2.1 v j a hj (h3.trans ej.symm)
        · right
          exact ⟨a, x, by omega, by omega, h3⟩
theorem ln_nd (R : RG A n) : ∀ (k d : Nat), d + k ≤ 10 → (lnK A d k).Nodup := by
  have hn := R.1
  intro k
  induction k with
  | zero => intro d hd; exact List.nodup_nil
  | succ k ih =>
    intro d hd
    unfold lnK
    rcases sit_rng R (nI d) with e | ⟨j, hj, e, ej⟩
    · rw [if_pos e]; exact ih _ (by omega)
    · have hne : ¬ sit A (nI d) = -1 := by
        rw [e]; intro z
        exact nI_pos (n := j) (by omega) (by rw [z]; decide)
      rw [if_neg hne, e, nI_clamp (by omega), List.nodup_cons]
      refine ⟨fun hm => ?_, ih _ (by omega)⟩
      obtain ⟨-, x, h1, h2, h3⟩ := (ln_mem R k (d + 1) (by omega) j).mp hm
      have := (nI_eq (a := d) (b := x) (by omega) (by omega)).mp (ej.symm.trans h3)
      omega
theorem ln_app : ∀ (a d b : Nat), lnK A d (a + b) = lnK A d a ++ lnK A (d + a) b := by
  intro a
  induction a with
  | zero => intro d b; rw [Nat.zero_add]; rfl
  | succ a ih =>
    intro d b
    rw [show a + 1 + b = (a + b) + 1 by omega]
    simp only [lnK]
    rw [ih (d + 1) b, show d + 1 + a = d + (a + 1) by omega]
    split
    · rfl
    · rfl
def lnL (A : Nat → Int32) : List Nat := lnK A 0 10
theorem lnL_mem (R : RG A n) (v : Nat) : v ∈ lnL A ↔ v < n := by
  unfold lnL
  rw [ln_mem R 10 0 (by omega)]
  constructor
  · exact fun z => z.1
  · intro z
    obtain ⟨k, hk, e, -⟩ := desk_of R z
    exact ⟨z, k, by omega, by omega, e⟩
theorem lnL_perm (R : RG A n) : (lnL A).Perm (List.range n) := by
  refine (List.perm_ext_iff_of_nodup (ln_nd R 10 0 (by omega)) List.nodup_range).mpr (fun v => ?_)
  show v ∈ lnL A ↔ _
  rw [lnL_mem R, List.mem_range]
theorem lnL_len (R : RG A n) : (lnL A).length = n := by rw [(lnL_perm R).length_eq, List.length_range]
theorem lnK_lt (R : RG A n) {d k v : Nat} (hd : d + k ≤ 10) (h : v ∈ lnK A d k) : v < n := ((ln_mem R k d hd v).mp h).1
/-- the slip behind some -/
def sl (A : Nat → Int32) : Int32 → List Nat → Int32
  | c, [] => c
  | c, v :: r => sl A (remI (c + A (20 + v)) 10000) r
theorem gtk {K p : Nat} (hK : K ≤ 10) (hp : p ≤ 10) : nI K - 1 < nI p ↔ K ≤ p := by
  have : ∀ K, K ≤ 10 → ∀ p, p ≤ 10 → (nI K - 1 < nI p ↔ K ≤ p) := by decide +kernel
  exact this K hK p hp
theorem lp_slip (F : OF h o A q kn) (R : RG A n) {K : Nat} (hK : K ≤ 10) {v : Value} : ∀ (k d0 p : Nat) (c : Int32), d0 + k = 10 → p ≤ d0 → Rf d 69 8 [.ref o, .int (nI K - 1), v, .int c, .int (nI p), .int (nI d0)] [] h = some (some (.int (sl A c ((lnK A d0 k).take (K - p)))), h) := by
  have hn := R.1
  intro k
  induction k with
  | zero =>
    intro d0 p c hd hp
    have e : d0 = 10 := by omega
    subst e
    simp only [x69_0, x69_1, x69_2, x69_3, x69_5, x69_6, x69_8, x69_10, x69_12, x69_15, x69_17, x69_18, x69_21, x69_22, x69_25, x69_27, x69_28, x69_29, x69_32, x69_33, x69_34, x69_37, x69_38, x69_41, x69_43, x69_44, x69_45, x69_46, x69_49, x69_50, x69_51, x69_54, x69_57, x69_60, x69_61, show ¬ nI 10 < 10 from by decide, ↓reduceIte, lnK, List.take_nil, sl]
  | succ k ih =>
    intro d0 p c hd hp
    have c0 : nI d0 < 10 := nI_lt (a := d0) (b := 10) (by omega) (by omega)
    have c2 : inB (nI d0) 10 = true := nI_inB (by omega) (by omega)
    have c3 : (nI d0).toNatClampNeg = d0 := nI_clamp (by omega)
    rw [x69_8]
    by_cases hg : K ≤ p
    · have c4 := (gtk hK (show p ≤ 10 by omega)).mpr hg
      rw [show K - p = 0 by omega]
      simp only [x69_10, x69_12, x69_15, x69_17, x69_18, x69_21, x69_22, x69_25, x69_27, x69_28, x69_29, x69_32, x69_33, x69_34, x69_37, x69_38, x69_41, x69_43, x69_44, x69_45, x69_46, x69_49, x69_50, x69_51, x69_54, x69_57, x69_60, x69_61, c0, c4, ↓reduceIte, List.take_zero, sl]
    · have c4 : ¬ nI K - 1 < nI p := fun z => hg ((gtk hK (show p ≤ 10 by omega)).mp z)
      rcases sit_rng R (nI d0) with e | ⟨j, hj, e, -⟩
      · have e1 := ih (d0 + 1) p c (by omega) (by omega)
        simp only [x69_10, x69_12, x69_15, x69_17, x69_18, x69_21, x69_22, x69_25, x69_27, x69_28, x69_29, x69_32, x69_33, x69_34, x69_37, x69_38, x69_41, x69_43, x69_44, x69_45, x69_46, x69_49, x69_50, x69_51, x69_54, x69_57, x69_60, x69_61, F, c0, c2, c3, c4, wat_at (show d0 < 10 by omega), e, nI_1, true_or, and_self, ↓reduceIte, lnK]
        exact e1
      · have hne : ¬ nI j = -1 := fun z => nI_pos (n := j) (by omega) (by rw [z]; decide)
        have j2 : inB (nI j) 10 = true := nI_inB (by omega) (by omega)
        have j3 : (nI j).toNatClampNeg = j := nI_clamp (by omega)
        have e1 := ih (d0 + 1) (p + 1) (remI (c + A (20 + j)) 10000) (by omega) (by omega)
        rw [show K - p = (K - (p + 1)) + 1 by omega]
        simp only [x69_10, x69_12, x69_15, x69_17, x69_18, x69_21, x69_22, x69_25, x69_27, x69_28, x69_29, x69_32, x69_33, x69_34, x69_37, x69_38, x69_41, x69_43, x69_44, x69_45, x69_46, x69_49, x69_50, x69_51, x69_54, x69_57, x69_60, x69_61, F, c0, c2, c3, c4, wat_at (show d0 < 10 by omega), sub_at (show j < 10 by omega), e, hne, j2, j3, nI_1, true_or, and_self, ↓reduceIte, litZ, not_false_eq_true, lnK, List.take_succ_cons, sl]
        exact e1
theorem sp_slipBehind (F : OF h o A q kn) (R : RG A n) {K : Nat} (hK : K ≤ 10) {c : Int32} : Rf d 69 0 [.ref o, .int (nI K - 1), .int c, noV, noV, noV] [] h = some (some (.int (sl A c ((lnL A).take K))), h) := by
  have e1 := lp_slip (d := d) F R hK (v := .int c) 10 0 0 c (by omega) (by omega)
  simp only [nI_0, Nat.sub_zero] at e1
  simp only [x69_0, x69_1, x69_2, x69_3, x69_5, x69_6]
  exact e1
def pyN (A : Nat → Int32) (v : Nat) : Nat := (A (20 + v)).toNatClampNeg
theorem py_of (R : RG A n) {v : Nat} (hv : v < n) : A (20 + v) = nI (pyN A v) ∧ pyN A v ≤ 999 := by
  obtain ⟨k, hk, e⟩ := (R.2.2.1 v hv).2.1
  have z : pyN A v = k := by unfold pyN; rw [e]; exact nI_clamp (by omega)
  rw [z]
  exact ⟨e, hk⟩
theorem sl_nat (R : RG A n) : ∀ (l : List Nat) (c : Nat), (∀ v ∈ l, v < n) → c < 10000 → sl A (nI c) l = nI ((c + (l.map (pyN A)).sum) % 10000) := by
  intro l
  induction l with
  | nil =>
    intro c _ hc
    simp only [sl, List.map_nil, List.sum_nil, Nat.add_zero, Nat.mod_eq_of_lt hc]
  | cons v l ih =>
    intro c hl hc
    obtain ⟨e, hp⟩ := py_of R (hl v List.mem_cons_self)
    simp only [sl, List.map_cons, List.sum_cons]
    rw [e, nI_add]
    have e2 : remI (nI (c + pyN A v)) 10000 = nI ((c + pyN A v) % 10000) := pk_rem (d := 10000) (by omega) (by omega) (by omega)
    rw [e2, ih _ (fun u hu => hl u (List.mem_cons_of_mem _ hu)) (Nat.mod_lt _ (by omega))]
    congr 1
    omega
theorem py_nat (R : RG A n) : ∀ (k w c : Nat), w + k = n → pyF A (nI c) w k = nI (c + ((List.range' w k).map (pyN A)).sum) := by
  intro k
  induction k with
  | zero => intro w c hw; simp [pyF, lpF]
  | succ k ih =>
    intro w c hw
    obtain ⟨e, hp⟩ := py_of R (show w < n by omega)
    show pyF A (nI c + A (20 + w)) (w + 1) k = _
    rw [e, nI_add, ih _ _ (by omega), List.range'_succ, List.map_cons, List.sum_cons]
    congr 1
    omega
theorem sum_le (R : RG A n) : ∀ (l : List Nat), (∀ v ∈ l, v < n) → (l.map (pyN A)).sum ≤ 999 * l.length := by
  intro l
  induction l with
  | nil => intro _; simp
  | cons v l ih =>
    intro hl
    have := ih (fun u hu => hl u (List.mem_cons_of_mem _ hu))
    have h2 := (py_of R (hl v List.mem_cons_self)).2
    simp only [List.map_cons, List.sum_cons, List.length_cons]
    omega
theorem pays_nat (R : RG A n) : pays A = nI ((lnL A).map (pyN A)).sum ∧ ((lnL A).map (pyN A)).sum ≤ 9990 := by
  have hn := R.1
  constructor
  · unfold pays
    rw [A0c R]
    have := py_nat R n 0 0 (by omega)
    rw [nI_0, Nat.zero_add, ← List.range_eq_range'] at this
    rw [this, ((lnL_perm R).map (pyN A)).sum_nat]
  · have := sum_le R (lnL A) (fun v hv => (lnL_mem R v).mp hv)
    rw [lnL_len R] at this
    omega
theorem fm_neg0 : ∀ a, a < 100 → ∀ b, b < 100 → 0 < 100 * a + b → (0 - nI (100 * a + b)) / 10000 = 0 ∧ (0 - nI (100 * a + b)) ^^^ 10000 < 0 ∧ ¬ (0 - nI (100 * a + b)) = 0 := by decide +kernel
theorem fm_neg {t : Nat} (ht : t < 10000) (h0 : 0 < t) : (0 - nI t) / 10000 = 0 ∧ (0 - nI t) ^^^ 10000 < 0 ∧ ¬ (0 - nI t) = 0 := by
  have := fm_neg0 (t / 100) (by omega) (t % 100) (by omega) (by omega)
  rwa [show 100 * (t / 100) + t % 100 = t by omega] at this
theorem fm_pos0 : ∀ a, a < 100 → ∀ b, b < 100 → ¬ nI (100 * a + b) ^^^ 10000 < 0 := by decide +kernel
theorem sub_neg {a b : Nat} (h : a ≤ b) : nI a - nI b = 0 - nI (b - a) := by
  have e : nI b = nI a + nI (b - a) := by rw [nI_add]; congr 1; omega
  rw [e, Int32.sub_eq_add_neg, Int32.neg_add, Int32.sub_eq_add_neg (-nI a), ← Int32.add_assoc, ← Int32.sub_eq_add_neg (nI a), Int32.sub_self, ← Int32.sub_eq_add_neg]
/-- the bag's sum out of what the last slip tells -/
theorem sp_floor {x e : Nat} (hx : x ≤ 9990) (he : e < 10000) : Rf d 199 0 [.int (nI ((e + x) % 10000) - nI e), .int 10000, noV] [] h = some (some (.int (nI x)), h) := by
  by_cases hs : e + x < 10000
  · have e1 : nI ((e + x) % 10000) - nI e = nI x := by
      rw [Nat.mod_eq_of_lt hs, pk_sub (by omega), Nat.add_sub_cancel_left]
    have e2 : remI (nI x) 10000 = nI (x % 10000) := pk_rem (d := 10000) (by omega) (by omega) (by omega)
    rw [Nat.mod_eq_of_lt (show x < 10000 by omega)] at e2
    have e3 : ¬ nI x ^^^ 10000 < 0 := by
      have q := fm_pos0 (x / 100) (by omega) (x % 100) (by omega)
      have z : 100 * (x / 100) + x % 100 = x := by omega
      rw [z] at q
      exact q
    rw [e1]
    simp only [x199_0, x199_1, x199_2, x199_3, x199_4, x199_5, x199_6, x199_7, x199_10, x199_11, x199_14, x199_15, x199_16, x199_17, x199_18, x199_19, litZ, not_false_eq_true, ↓reduceIte, e2, e3]
  · have e0 : (e + x) % 10000 = e + x - 10000 := by omega
    have e1 : nI ((e + x) % 10000) - nI e = 0 - nI (10000 - x) := by
      have z : e - (e + x - 10000) = 10000 - x := by omega
      rw [e0, sub_neg (by omega), z]
    obtain ⟨y1, y2, y3⟩ := fm_neg (t := 10000 - x) (by omega) (by omega)
    have e2 : remI (0 - nI (10000 - x)) 10000 = 0 - nI (10000 - x) := by
      unfold remI
      rw [y1, Int32.zero_mul, Int32.sub_zero]
    have e4 : 0 - nI (10000 - x) + 10000 = nI x := by
      have z : nI (10000 - x) + nI x = 10000 := by rw [nI_add, show 10000 - x + x = 10000 by omega]; rfl
      rw [← z, ← Int32.add_assoc, Int32.sub_add_cancel, Int32.zero_add]
    rw [e1]
    simp only [x199_0, x199_1, x199_2, x199_3, x199_4, x199_5, x199_6, x199_7, x199_10, x199_11, x199_14, x199_15, x199_16, x199_17, x199_18, x199_19, litZ, not_false_eq_true, ↓reduceIte, e2, y2, y3, e4]
/-- THE PAPERS -/
abbrev PP (h : AHp) (o : Nat) (A : Nat → Int32) : Prop :=
  cls (h.1 o) = 7 ∧ oL (h.1 o) = 9 ∧ oKr (h.1 o) 0 = true ∧ oR (h.1 o) 0 = o + 1 ∧ oKi (h.1 o) 1 = true ∧ oN (h.1 o) 1 = A 4 ∧ oKi (h.1 o) 2 = true ∧ oN (h.1 o) 2 = A 7 ∧ oKr (h.1 o) 3 = true ∧ oR (h.1 o) 3 = o + 2 ∧ oKr (h.1 o) 4 = true ∧ oR (h.1 o) 4 = o + 3 ∧ oKr (h.1 o) 5 = true ∧ oR (h.1 o) 5 = o + 4 ∧ oKi (h.1 o) 6 = true ∧ oN (h.1 o) 6 = A 2 ∧ oKr (h.1 o) 7 = true ∧ oR (h.1 o) 7 = o + 5 ∧ oKi (h.1 o) 8 = true ∧ oN (h.1 o) 8 = A 3 ∧
  aT (h.1 (o + 1)) = 1 ∧ aN (h.1 (o + 1)) = 100 ∧ aF (h.1 (o + 1)) = sub A 126 100 ∧ aT (h.1 (o + 2)) = 0 ∧ aN (h.1 (o + 2)) = 12 ∧ aF (h.1 (o + 2)) = sub A 80 12 ∧ aT (h.1 (o + 3)) = 0 ∧ aN (h.1 (o + 3)) = 12 ∧ aF (h.1 (o + 3)) = sub A 92 12 ∧ aT (h.1 (o + 4)) = 0 ∧ aN (h.1 (o + 4)) = 12 ∧ aF (h.1 (o + 4)) = sub A 104 12 ∧ aT (h.1 (o + 5)) = 0 ∧ aN (h.1 (o + 5)) = 10 ∧ aF (h.1 (o + 5)) = sub A 116 10
/-- the numbers of the papers -/
def RP (A : Nat → Int32) : Prop := (∃ k, k ≤ 12 ∧ A 2 = nI k) ∧ (∃ k, k ≤ 10 ∧ A 3 = nI k) ∧ (∃ k, k ≤ 100 ∧ A 4 = nI k) ∧ (∃ k, k ≤ 9999 ∧ A 7 = nI k) ∧ (∀ i, i < 12 → (∃ k, k ≤ 999 ∧ A (92 + i) = nI k) ∧ (∃ k, k ≤ 999 ∧ A (104 + i) = nI k)) ∧ (∀ i, i < 100 → ∃ k, k ≤ 127 ∧ A (126 + i) = nI k)
def slP (A : Nat → Int32) (n : Nat) (k : Int32) : Int32 := if k < -1 then -1 else if k < A 0 then (if k = -1 then pays A else sl A (A 7) ((lnL A).take (k.toNatClampNeg + 1))) else -1
theorem slip_cases (R : RG A n) (k : Int32) : k < -1 ∨ (¬ k < -1 ∧ ¬ k < A 0) ∨ k = -1 ∨ ∃ j, j < n ∧ k = nI j := by
  have hn := R.1
  by_cases h1 : k < -1
  · exact Or.inl h1
  · by_cases h2 : k < A 0
    · right; right
      by_cases h3 : k < 0
      · left
        have a := Int32.not_lt.mp h1
        have a1 := Int32.le_iff_toInt_le.mp a
        have b1 := Int32.lt_iff_toInt_lt.mp h3
        apply Int32.toInt_inj.mp
        have e1 : (-1 : Int32).toInt = -1 := by decide
        have e2 : (0 : Int32).toInt = 0 := by decide
        rw [e1] at a1 ⊢
        rw [e2] at b1
        omega
      · right
        exact isW_of R ⟨h3, h2⟩
    · exact Or.inr (Or.inl ⟨h1, h2⟩)
theorem m1_lt (R : RG A n) : (-1 : Int32) < A 0 ∧ ¬ (-1 : Int32) < -1 := by
  have hn := R.1
  refine ⟨?_, by decide⟩
  rw [R.2.1, Int32.lt_iff_toInt_lt, nI_toInt (by omega)]
  have e1 : (-1 : Int32).toInt = -1 := by decide
  omega
theorem sp_slip (G : XF h) (F : OF h 33 A q kn) (D : PP h 60 A) (R : RG A n) (Q : RP A) {k : Int32} : Rf (d + 1) 112 0 [.ref 32, .int k, noV] [] h = some (some (.int (slP A n k)), h) := by
  have hn := R.1
  obtain ⟨e, he, he2⟩ := Q.2.2.2.1
  unfold slP
  rcases slip_cases R k with h1 | ⟨h1, h2⟩ | rfl | ⟨j, hj, rfl⟩
  · simp only [x112_0, x112_1, x112_2, x112_5, x112_6, x112_7, x112_10, x112_13, x112_16, x112_17, h1, ↓reduceIte]
  · simp only [x112_0, x112_1, x112_2, x112_5, x112_6, x112_7, x112_10, x112_13, x112_16, x112_17, G, F, h1, h2, and_self, ↓reduceIte]
  · obtain ⟨m1, m2⟩ := m1_lt R
    have e1 := sp_slipBehind (d := d) F R (K := n) hn (c := A 7)
    obtain ⟨p1, p2⟩ := pays_nat R
    rw [List.take_of_length_le (by rw [lnL_len R]; exact Nat.le_refl _), he2, sl_nat R _ _ (fun v hv => (lnL_mem R v).mp hv) (by omega)] at e1
    have e3 := sp_floor (d := d) (h := h) (x := ((lnL A).map (pyN A)).sum) (e := e) p2 (by omega)
    rw [R.2.1] at m1
    simp only [x112_0, x112_1, x112_2, x112_5, x112_6, x112_7, x112_10, x112_13, x112_16, x112_17, x112_18, x112_19, x112_20, x112_23, x112_24, x112_27, x112_28, x112_31, x112_34, x112_35, x112_36, x112_37, x112_40, x112_46, x112_47, x112_48, x112_49, x112_52, x112_55, x112_56, x112_62, xc112_75 F.1 e1, xc112_43 F.1 e1, xc112_59 e3, G, F, D, R.2.1, he2, m1, m2, and_self, ↓reduceIte, p1]
  · have c1 : ¬ nI j < -1 := fun z => nI_pos (n := j) (by omega) (by
      rw [Int32.lt_iff_toInt_lt] at z ⊢
      have e1 : (-1 : Int32).toInt = -1 := by decide
      have e2 : (0 : Int32).toInt = 0 := by decide
      omega)
    have c2 : ¬ nI j = -1 := fun z => nI_pos (n := j) (by omega) (by rw [z]; decide)
    have c3 : nI j < A 0 := (isW_in R hj).2
    have e1 := sp_slipBehind (d := d) F R (K := j + 1) (by omega) (c := A 7)
    rw [nI_pred] at e1
    simp only [x112_0, x112_1, x112_2, x112_5, x112_6, x112_7, x112_10, x112_13, x112_16, x112_17, x112_18, x112_19, x112_20, x112_23, x112_24, x112_27, x112_28, x112_31, x112_34, x112_35, x112_36, x112_37, x112_40, x112_46, x112_47, x112_48, x112_49, x112_52, x112_55, x112_56, x112_62, x112_63, x112_64, x112_67, x112_68, x112_69, x112_72, x112_78, xc112_75 F.1 e1, G, F, D, c1, c2, c3, and_self, ↓reduceIte, nI_clamp (show j < 2 ^ 31 by omega)]
/-- the model's row, in the order of the DESKS -/
def rwt (h : AHp) (o : Nat) (T : Nat → Int32) : AHp := hset h (o + 4) (.inl (0, 10, .inl T))
theorem MF_rwt (F : MF h o A B) (T : Nat → Int32) : MF (rwt h o T) o A B := by
  simp only [MF, rwt, hset_at, plus_ne o 1 4 (by decide), plus_ne o 2 4 (by decide), plus_ne o 3 4 (by decide), plus_ne o 5 4 (by decide), plus_ne o 6 4 (by decide), plus_ne o 7 4 (by decide), plus_ne0 o 4 (by decide), ↓reduceIte, aT_i, aN_i, F, and_self]
theorem rwtF (T : Nat → Int32) : aT ((rwt h o T).1 (o + 4)) = 0 ∧ aN ((rwt h o T).1 (o + 4)) = 10 ∧ aF ((rwt h o T).1 (o + 4)) = T := by
  unfold rwt
  rw [hset_at, if_pos rfl]; exact ⟨rfl, rfl, rfl⟩
theorem rwt_w {T U : Nat → Int32} : hset (rwt h o T) (o + 4) (.inl (0, 10, .inl U)) = rwt h o U := hset_hset
theorem rwt_self (F : MF h o A B) : ∃ T, h = rwt h o T := by
  refine ⟨aF (h.1 (o + 4)), ?_⟩
  have e3 := cell_eq (c := h.1 (o + 4)) (t := 0) (by simp only [F]) (by decide)
  have n3 : aN (h.1 (o + 4)) = 10 := by simp only [F]
  rw [n3] at e3
  exact (hset_self e3).symm
theorem lp_line (F : MF h o A B) (R : RG A n) : ∀ (k d0 p : Nat) (T : Nat → Int32), d0 + k = 10 → p ≤ d0 → ∃ U, (∀ i, i < p → U i = T i) ∧ (∀ i v, (lnK A d0 k)[i]? = some v → U (p + i) = nI v) ∧ Rf (d + 1) 178 4 [.ref o, .int (nI p), .int (nI d0)] [] (rwt h o T) = some (none, rwt h o U) := by
  have hn := R.1
  have F1 := MF_rwt F
  intro k
  induction k with
  | zero =>
    intro d0 p T hd hp
    have e : d0 = 10 := by omega
    subst e
    refine ⟨T, fun i _ => rfl, fun i v hv => (by cases hv), ?_⟩
    simp only [x178_0, x178_1, x178_2, x178_3, x178_4, x178_5, x178_7, x178_10, x178_11, x178_15, x178_18, x178_19, x178_22, x178_23, x178_26, x178_27, x178_31, x178_32, x178_35, x178_38, show ¬ nI 10 < 10 from by decide, ↓reduceIte]
  | succ k ih =>
    intro d0 p T hd hp
    have c0 : nI d0 < 10 := nI_lt (a := d0) (b := 10) (by omega) (by omega)
    have e0 := fun T => sp_sits (d := d) (F1 T) R (x := nI d0)
    rw [x178_4]
    rcases sit_rng R (nI d0) with e | ⟨j, hj, e, -⟩
    · obtain ⟨U, u1, u2, u3⟩ := ih (d0 + 1) p T (by omega) (by omega)
      refine ⟨U, u1, fun i v hv => u2 i v (by unfold lnK at hv; rwa [if_pos e] at hv), ?_⟩
      simp only [x178_5, x178_7, x178_10, x178_11, x178_15, x178_18, x178_19, x178_22, x178_23, x178_26, x178_27, x178_31, x178_32, x178_35, xc178_12 (F1 _).1 (e0 _), xc178_28 (F1 _).1 (e0 _), c0, e, show (-1 : Int32) < 0 from by decide, nI_1, ↓reduceIte]
      exact u3
    · have hne : ¬ sit A (nI d0) = -1 := by
        rw [e]; intro z
        exact nI_pos (n := j) (by omega) (by rw [z]; decide)
      have p2 : inB (nI p) 10 = true := nI_inB (by omega) (by omega)
      have p3 : (nI p).toNatClampNeg = p := nI_clamp (by omega)
      obtain ⟨U, u1, u2, u3⟩ := ih (d0 + 1) (p + 1) (upd T p (nI j)) (by omega) (by omega)
      refine ⟨U, fun i hi => by rw [u1 i (by omega), upd_at, if_neg (by omega)], fun i v hv => ?_, ?_⟩
      · unfold lnK at hv
        rw [if_neg hne, e, nI_clamp (by omega)] at hv
        cases i with
        | zero =>
          cases hv
          rw [Nat.add_zero, u1 p (by omega), upd_at, if_pos rfl]
        | succ i =>
          have := u2 i v hv
          rwa [show p + 1 + i = p + (i + 1) by omega] at this
      · simp only [x178_5, x178_7, x178_10, x178_11, x178_15, x178_18, x178_19, x178_22, x178_23, x178_26, x178_27, x178_31, x178_32, x178_35, xc178_12 (F1 _).1 (e0 _), xc178_28 (F1 _).1 (e0 _), F1, rwtF, rwt_w, c0, e, nI_pos (n := j) (by omega), p2, p3, nI_1, true_or, and_self, ↓reduceIte]
        exact u3
theorem sp_line (F : MF h o A B) (R : RG A n) : ∃ U, (∀ i v, (lnL A)[i]? = some v → U i = nI v) ∧ Rf (d + 1) 178 0 [.ref o, noV, noV] [] h = some (none, rwt h o U) := by
  obtain ⟨T, hT⟩ := rwt_self F
  obtain ⟨U, u1, u2, u3⟩ := lp_line (d := d) F R 10 0 0 T (by omega) (by omega)
  rw [← hT] at u3
  simp only [nI_0] at u3
  refine ⟨U, fun i v hv => by have := u2 i v hv; rwa [Nat.zero_add] at this, ?_⟩
  simp only [x178_0, x178_1, x178_2, x178_3]
  exact u3
theorem MM_rwt {im rn : Int32} {T0 : Nat → Int32} (M : MM h o A B im rn T0) (T : Nat → Int32) : MM (rwt h o T) o A B im rn T0 := by
  obtain ⟨F, a, b, c⟩ := M
  refine ⟨MF_rwt F T, ?_, ?_, ?_⟩
  · simp only [rwt, hset_at, plus_ne0 o 4 (by decide), ↓reduceIte, a]
  · simp only [rwt, hset_at, plus_ne0 o 4 (by decide), ↓reduceIte, b]
  · simp only [rwt, hset_at, plus_ne o 7 4 (by decide), ↓reduceIte, c]
theorem lp_mslip (F : MF h o A B) (R : RG A n) {K : Nat} (hK : K < n) {U : Nat → Int32} (r1 : aT (h.1 (o + 4)) = 0 ∧ aN (h.1 (o + 4)) = 10 ∧ aF (h.1 (o + 4)) = U) (hU : ∀ i v, (lnL A)[i]? = some v → U i = nI v) : ∀ (k i : Nat) (c : Int32), i + k = K + 1 → Rf d 179 45 [.ref o, .int (nI K), .int c, .int (nI i)] [] h = some (some (.int (sl A c (((lnL A).take (K + 1)).drop i))), h) := by
  have hn := R.1
  have hl := lnL_len R
  intro k
  induction k with
  | zero =>
    intro i c hi
    have c1 : nI K < nI i := nI_lt (by omega) (by omega)
    rw [List.drop_of_length_le (by rw [List.length_take, hl]; omega)]
    simp only [x179_45, x179_46, x179_47, x179_50, x179_51, x179_52, x179_55, x179_57, x179_58, x179_61, x179_62, x179_63, x179_64, x179_65, x179_66, x179_69, x179_70, x179_71, x179_74, x179_77, x179_78, c1, ↓reduceIte, sl]
  | succ k ih =>
    intro i c hi
    have c1 : ¬ nI K < nI i := nI_nlt (by omega) (by omega)
    obtain ⟨v, hv⟩ : ∃ v, (lnL A)[i]? = some v := ⟨(lnL A)[i]'(by rw [hl]; omega), List.getElem?_eq_getElem _⟩
    have hvn : v < n := (lnL_mem R v).mp (List.mem_of_getElem? hv)
    have hd : ((lnL A).take (K + 1)).drop i = v :: ((lnL A).take (K + 1)).drop (i + 1) := by
      have h2 : ((lnL A).take (K + 1))[i]? = some v := by rw [List.getElem?_take_of_lt (by omega)]; exact hv
      obtain ⟨hlt, he⟩ := List.getElem?_eq_some_iff.mp h2
      rw [List.drop_eq_getElem_cons hlt, he]
    have i2 : inB (nI i) 10 = true := nI_inB (by omega) (by omega)
    have i3 : (nI i).toNatClampNeg = i := nI_clamp (by omega)
    have i20 : (20 : Int32) + nI v = nI (20 + v) ∧ inB (nI (20 + v)) 931 = true ∧ (nI (20 + v)).toNatClampNeg = 20 + v := ixs 20 v (by omega)
    have e1 := ih (i + 1) (remI (c + A (20 + v)) 10000) (by omega)
    rw [x179_45, hd]
    simp only [x179_46, x179_47, x179_50, x179_51, x179_52, x179_55, x179_57, x179_58, x179_61, x179_62, x179_63, x179_64, x179_65, x179_66, x179_69, x179_70, x179_71, x179_74, F, r1, c1, i2, i3, hU i v hv, i20, nI_1, true_or, and_self, ↓reduceIte, litZ, not_false_eq_true, sl]
    exact e1
theorem sp_mslip {im rn : Int32} {T0 : Nat → Int32} (M : MM h o A B im rn T0) (R : RG A n) (Q : RP A) {k : Int32} : ∃ h', Rf (d + 2) 179 0 [.ref o, .int k, noV, noV] [] h = some (some (.int (slP A n k)), h') ∧ MM h' o A B im rn T0 ∧ ME h h' o := by
  have hn := R.1
  have F := M.1
  obtain ⟨e, he, he2⟩ := Q.2.2.2.1
  have w0 : ∀ k : Int32, (¬ k < -1 ∧ ¬ A 0 - 1 < k) ↔ (¬ k < -1 ∧ k < A 0) := by
    intro k
    constructor
    · rintro ⟨a, b⟩
      refine ⟨a, ?_⟩
      rcases slip_cases R k with y | ⟨y1, y2⟩ | y | ⟨j, hj, y⟩
      · exact absurd y a
      · exfalso
        apply b
        rw [R.2.1] at y2 ⊢
        have y3 := Int32.not_lt.mp y2
        have y4 := Int32.le_iff_toInt_le.mp y3
        rw [nI_toInt (by omega)] at y4
        rw [Int32.lt_iff_toInt_lt]
        have : (nI n - 1).toInt = (n : Int) - 1 := by
          have := pk_sub_toInt (a := n) (b := 1) (by omega) (by omega)
          exact this
        omega
      · rw [y]; exact (m1_lt R).1
      · rw [y]; exact (isW_in R hj).2
    · rintro ⟨a, b⟩
      refine ⟨a, fun z => ?_⟩
      rw [R.2.1, Int32.lt_iff_toInt_lt] at b z
      have y : (nI n - 1).toInt = (n : Int) - 1 := pk_sub_toInt (a := n) (b := 1) (by omega) (by omega)
      rw [nI_toInt (by omega)] at b
      omega
  unfold slP
  by_cases hw : ¬ k < -1 ∧ k < A 0
  · have hw2 := (w0 k).mpr hw
    rcases slip_cases R k with h1 | ⟨h1, h2⟩ | rfl | ⟨j, hj, rfl⟩
    · exact absurd h1 hw.1
    · exact absurd hw.2 h2
    · have e1 := sp_mpays (d := d + 1) F R
      obtain ⟨p1, p2⟩ := pays_nat R
      have e2 : remI (pays A) 10000 = pays A := by
        rw [p1]
        have : remI (nI ((lnL A).map (pyN A)).sum) 10000 = nI (((lnL A).map (pyN A)).sum % 10000) := pk_rem (d := 10000) (by omega) (by omega) (by omega)
        rw [this, Nat.mod_eq_of_lt (by omega)]
      refine ⟨h, ?_, M, ME_rf⟩
      simp only [x179_0, x179_1, x179_2, x179_3, x179_6, x179_7, x179_8, x179_9, x179_13, x179_16, x179_17, x179_18, x179_19, x179_22, x179_26, x179_29, x179_30, xc179_10 (sp_mwithin (d := d + 1)), xc179_23 F.1 e1, F, ixL, b2_0, hw, hw2, true_or, not_true_eq_false, not_false_eq_true, and_self, ↓reduceIte, show (-1 : Int32) < 0 from by decide, litZ, e2]
    · obtain ⟨U, hU, e1⟩ := sp_line (d := d) F R
      have F2 := MF_rwt F U
      have e2 := lp_mslip (d := d + 2) F2 R hj (rwtF U) hU (j + 1) 0 (A 7) (by omega)
      rw [nI_0, List.drop_zero] at e2
      have c2 : ¬ nI j = -1 := fun z => nI_pos (n := j) (by omega) (by rw [z]; decide)
      refine ⟨rwt h o U, ?_, MM_rwt M U, ME_set (k := 4) (by decide)⟩
      simp only [x179_0, x179_1, x179_2, x179_3, x179_6, x179_7, x179_8, x179_9, x179_13, x179_16, x179_17, x179_18, x179_19, x179_22, x179_26, x179_29, x179_30, x179_31, x179_35, x179_36, x179_39, x179_41, x179_42, x179_43, x179_44, xc179_10 (sp_mwithin (d := d + 1)), xc179_32 F.1 e1, F, F2, ixL, b2_0, hw, hw2, true_or, not_true_eq_false, not_false_eq_true, and_self, ↓reduceIte, nI_pos (show j < 2 ^ 31 by omega), nI_clamp (show j < 2 ^ 31 by omega), c2]
      exact e2
  · have hw2 : ¬ (¬ k < -1 ∧ ¬ A 0 - 1 < k) := fun z => hw ((w0 k).mp z)
    refine ⟨h, ?_, M, ME_rf⟩
    simp only [x179_0, x179_1, x179_2, x179_3, x179_6, x179_7, x179_8, x179_9, x179_13, x179_16, x179_17, xc179_10 (sp_mwithin (d := d + 1)), F, ixL, b2_0, hw2, true_or, not_false_eq_true, and_self, ↓reduceIte]
    by_cases y : k < -1
    · simp only [y, ↓reduceIte]
    · have y2 : ¬ k < A 0 := fun z => hw ⟨y, z⟩
      simp only [y, y2, ↓reduceIte]
end LN
