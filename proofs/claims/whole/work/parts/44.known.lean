-- deps: 43.line 29.bits
/-! KNOWN. -/
def bI (v : Nat) : Int32 := (1 : Int32) <<< (nI v &&& 31)
theorem bt_bI {v i : Nat} (hv : v < 32) (hi : i < 32) : bt (bI v) i = decide (i = v) := by
  unfold bI
  rw [b_shl v hv 1 hi]
  by_cases h : i = v
  · subst h
    simp [bt_1 0 (by decide)]
  · by_cases h2 : v ≤ i
    · rw [bt_1 (i - v) (by omega)]
      simp [h, h2]
      omega
    · simp [h, h2]
theorem sh1 {s : Int32} {v : Nat} (hv : v < 32) : (s >>> (nI v &&& 31)) &&& 1 = if bt s v = true then 1 else 0 := by
  apply b_ext
  intro i hi
  rw [b_and, b_sshr v hv s hi, bt_1 i hi]
  by_cases e : i = 0
  · subst e
    rw [if_pos (by omega), Nat.add_zero]
    cases h : bt s v
    · simp [b_0]
    · simp [bt_1 0 (by decide)]
  · cases h : bt s v
    · simp [e, b_0]
    · simp [e, bt_1 i hi]
theorem and0 {s : Int32} {v : Nat} (hv : v < 32) : s &&& bI v = 0 ↔ bt s v = false := by
  constructor
  · intro h
    have : bt (s &&& bI v) v = bt 0 v := by rw [h]
    rw [b_and, bt_bI hv hv, b_0] at this
    simpa using this
  · intro h
    apply b_ext
    intro i hi
    rw [b_and, bt_bI hv hi, b_0]
    by_cases e : i = v
    · subst e; simp [h]
    · simp [e]
theorem last_iff {s all : Int32} {v : Nat} (hv : v < 32) (hs : s &&& (all ^^^ (-1)) = 0) (h0 : bt s v = false) : all &&& (s ^^^ (-1)) = bI v ↔ s ||| bI v = all := by
  have sub : ∀ i, i < 32 → bt s i = true → bt all i = true := by
    intro i hi h
    have : bt (s &&& (all ^^^ (-1))) i = bt 0 i := by rw [hs]
    rw [b_and, b_xor, b_m1 i hi, b_0, h] at this
    simpa using this
  constructor
  · intro h
    apply b_ext
    intro i hi
    have : bt (all &&& (s ^^^ (-1))) i = bt (bI v) i := by rw [h]
    rw [b_and, b_xor, b_m1 i hi, bt_bI hv hi] at this
    rw [b_or, bt_bI hv hi]
    have q := sub i hi
    cases ha : bt all i <;> cases hb : bt s i <;> simp_all
  · intro h
    apply b_ext
    intro i hi
    have : bt (s ||| bI v) i = bt all i := by rw [h]
    rw [b_or, bt_bI hv hi] at this
    rw [b_and, b_xor, b_m1 i hi, bt_bI hv hi]
    by_cases e : i = v
    · subst e
      simp_all
    · simp_all
def orL (K : Nat → Bool) : Int32 → List Nat → Int32
  | a, [] => a
  | a, v :: r => orL K (if K v = true then a ||| bI v else a) r
theorem orL_bt {K : Nat → Bool} : ∀ (l : List Nat) (a : Int32), (∀ v ∈ l, v < 32) → ∀ i, i < 32 → bt (orL K a l) i = (bt a i || l.any (fun v => K v && decide (v = i))) := by
  intro l
  induction l with
  | nil => intro a _ i hi; simp [orL]
  | cons v l ih =>
    intro a hl i hi
    have hv := hl v List.mem_cons_self
    simp only [orL]
    rw [ih _ (fun u hu => hl u (List.mem_cons_of_mem _ hu)) i hi]
    simp only [List.any_cons]
    cases hk : K v
    · simp
    · simp only [↓reduceIte, b_or, bt_bI hv hi, Bool.true_and]
      rw [Bool.or_assoc]
      congr 2
      by_cases e : i = v
      · simp [e]
      · simp [e, Ne.symm e]
theorem orL_perm {K : Nat → Bool} {l l' : List Nat} (h : ∀ v, v ∈ l ↔ v ∈ l') (hl : ∀ v ∈ l, v < 32) : orL K 0 l = orL K 0 l' := by
  apply b_ext
  intro i hi
  rw [orL_bt l 0 hl i hi, orL_bt l' 0 (fun v hv => hl v ((h v).mpr hv)) i hi]
  congr 1
  rw [Bool.eq_iff_iff, List.any_eq_true, List.any_eq_true]
  constructor
  · rintro ⟨v, a, b⟩; exact ⟨v, (h v).mp a, b⟩
  · rintro ⟨v, a, b⟩; exact ⟨v, (h v).mpr a, b⟩
def lstO (l : List Nat) : Int32 := match l.getLast? with
  | some v => nI v
  | none => -1
def hdO (l : List Nat) : Int32 := match l.head? with
  | some v => nI v
  | none => -1
def aR (A : Nat → Int32) (w : Nat) : Int32 := if ahead A w = -1 then (if ahK A 10 = -1 then 0 else ahK A 10) else ahead A w
def bR (A : Nat → Int32) (w : Nat) : Int32 := if behind A w = -1 then (if bhK A 0 10 = -1 then 0 else bhK A 0 10) else behind A w
/-- is that one known to those? -/
def kbB (A : Nat → Int32) (s all : Int32) (v : Nat) : Bool := !bt s v && ((decide (¬ (s >>> (aR A v &&& 31)) &&& 1 = 0) && decide (¬ (s >>> (bR A v &&& 31)) &&& 1 = 0)) || decide (all &&& (s ^^^ (-1)) = bI v))
section KW
variable {d o q n cl : Nat} {kn : Nat → Nat} {A B C S : Nat → Int32} {h : AHp} {ml : List Cl}
theorem ne_m1 {j : Nat} (hj : j < 2 ^ 31) : ¬ nI j = -1 := fun z => nI_pos hj (by rw [z]; decide)
theorem ahK_lst (R : RG A n) : ∀ e, e ≤ 10 → ahK A e = lstO (lnK A 0 e) := by
  have hn := R.1
  intro e
  induction e with
  | zero => intro _; rfl
  | succ e ih =>
    intro he
    rw [ln_app e 0 1, Nat.zero_add]
    unfold ahK
    simp only [lnK]
    rcases sit_rng R (nI e) with z | ⟨j, hj, z, -⟩
    · rw [if_pos z, if_pos z, List.append_nil]
      exact ih (by omega)
    · rw [z, if_neg (ne_m1 (by omega)), if_neg (ne_m1 (by omega)), nI_clamp (by omega)]
      unfold lstO
      rw [List.getLast?_append]
      rfl
theorem bhK_hd (R : RG A n) : ∀ k d, d + k ≤ 10 → bhK A d k = hdO (lnK A d k) := by
  have hn := R.1
  intro k
  induction k with
  | zero => intro d _; rfl
  | succ k ih =>
    intro d hd
    unfold bhK
    simp only [lnK]
    rcases sit_rng R (nI d) with z | ⟨j, hj, z, -⟩
    · rw [if_pos z, if_pos z]
      exact ih _ (by omega)
    · rw [z, if_neg (ne_m1 (by omega)), if_neg (ne_m1 (by omega)), nI_clamp (by omega)]
      rfl
/-- the two beside one, round the row -/
theorem round_of (R : RG A n) {i v : Nat} (hv : (lnL A)[i]? = some v) : ∃ a b, (lnL A)[(i + n - 1) % n]? = some a ∧ (lnL A)[(i + 1) % n]? = some b ∧ a < n ∧ b < n ∧ aR A v = nI a ∧ bR A v = nI b := by
  have hn := R.1
  have hl := lnL_len R
  have hi : i < n := by have := (List.getElem?_eq_some_iff.mp hv).1; omega
  have hvn := (lnL_mem R v).mp (List.mem_of_getElem? hv)
  obtain ⟨k, hk, e1, e2⟩ := desk_of R hvn
  have hL : lnL A = lnK A 0 k ++ v :: lnK A (k + 1) (9 - k) := by
    unfold lnL
    rw [show (10 : Nat) = k + ((9 - k) + 1) by omega, ln_app k 0, Nat.zero_add]
    congr 1
    simp only [lnK]
    rw [sit_desk R hvn e1, if_neg (ne_m1 (by omega)), nI_clamp (by omega)]
  have hP : (lnK A 0 k).length = i := by
    have h1 : (lnL A)[(lnK A 0 k).length]? = some v := by rw [hL, List.getElem?_append_right (Nat.le_refl _), Nat.sub_self]; rfl
    have h2 : (lnK A 0 k).length < (lnK A 0 10).length := (List.getElem?_eq_some_iff.mp h1).1
    exact (List.getElem?_inj h2 (ln_nd R 10 0 (by omega))).mp (h1.trans hv.symm)
  have hQ : (lnK A (k + 1) (9 - k)).length = n - 1 - i := by
    have := congrArg List.length hL
    rw [hl, List.length_append, List.length_cons, hP] at this
    omega
  have g : ∀ j, j < n → ∃ u, (lnL A)[j]? = some u ∧ u < n := by
    intro j hj
    have h1 : (lnL A)[j]? = some ((lnL A)[j]'(by omega)) := List.getElem?_eq_getElem (by omega)
    exact ⟨_, h1, (lnL_mem R _).mp (List.mem_of_getElem? h1)⟩
  obtain ⟨a, ha, han⟩ := g ((i + n - 1) % n) (Nat.mod_lt _ (by omega))
  obtain ⟨b, hb, hbn⟩ := g ((i + 1) % n) (Nat.mod_lt _ (by omega))
  refine ⟨a, b, ha, hb, han, hbn, ?_, ?_⟩
  · unfold aR ahead
    rw [e2, ahK_lst R k (by omega), ahK_lst R 10 (by omega)]
    by_cases z : i = 0
    · subst z
      have hnil : lnK A 0 k = [] := List.length_eq_zero_iff.mp hP
      rw [hnil, if_pos (by rfl)]
      have hla : (lnK A 0 10).getLast? = some a := by
        rw [List.getLast?_eq_getElem?]
        show (lnL A)[(lnL A).length - 1]? = some a
        rw [hl]
        rwa [show (0 + n - 1) % n = n - 1 by rw [Nat.mod_eq_of_lt (by omega)]; omega] at ha
      unfold lstO
      rw [hla]
      simp only
      rw [if_neg (ne_m1 (by omega))]
    · have hla : (lnK A 0 k).getLast? = some a := by
        rw [List.getLast?_eq_getElem?, hP]
        rw [show (i + n - 1) % n = i - 1 by rw [show i + n - 1 = (i - 1) + n by omega, Nat.add_mod_right, Nat.mod_eq_of_lt (by omega)], hL, List.getElem?_append_left (by omega)] at ha
        exact ha
      have e : lstO (lnK A 0 k) = nI a := by unfold lstO; rw [hla]
      rw [e, if_neg (ne_m1 (by omega))]
  · unfold bR behind
    rw [e2, bhK_hd R (9 - k) (k + 1) (by omega), bhK_hd R 10 0 (by omega)]
    by_cases z : i + 1 = n
    · have hnil : lnK A (k + 1) (9 - k) = [] := List.length_eq_zero_iff.mp (by omega)
      rw [hnil, if_pos (by rfl)]
      have hla : (lnK A 0 10).head? = some b := by
        rw [List.head?_eq_getElem?]
        show (lnL A)[0]? = some b
        rwa [z, Nat.mod_self] at hb
      unfold hdO
      rw [hla]
      simp only
      rw [if_neg (ne_m1 (by omega))]
    · have hla : (lnK A (k + 1) (9 - k)).head? = some b := by
        rw [List.head?_eq_getElem?]
        rw [Nat.mod_eq_of_lt (by omega), hL, List.getElem?_append_right (by omega), hP, Nat.add_sub_cancel_left] at hb
        exact hb
      have e : hdO (lnK A (k + 1) (9 - k)) = nI b := by unfold hdO; rw [hla]
      rw [e, if_neg (ne_m1 (by omega))]
theorem lp_first (F : OF h o A q kn) : ∀ (k e : Nat), e + k = 10 → Rf d 74 2 [.ref o, .int (nI e)] [] h = some (some (.int (if bhK A e k = -1 then 0 else bhK A e k)), h) := by
  intro k
  induction k with
  | zero =>
    intro e he
    have : e = 10 := by omega
    subst this
    simp only [x74_0, x74_1, x74_2, x74_3, x74_5, x74_8, x74_9, x74_12, x74_13, x74_14, x74_15, x74_18, x74_19, x74_22, x74_23, x74_24, x74_25, x74_28, x74_31, x74_32, show ¬ nI 10 < 10 from by decide, ↓reduceIte, bhK]
  | succ k ih =>
    intro e he
    have c1 : nI e < 10 := nI_lt (a := e) (b := 10) (by omega) (by omega)
    have c2 : inB (nI e) 10 = true := nI_inB (by omega) (by omega)
    have c3 : (nI e).toNatClampNeg = e := nI_clamp (by omega)
    have e1 := ih (e + 1) (by omega)
    rw [x74_2]
    simp only [x74_3, x74_5, x74_8, x74_9, x74_12, x74_13, x74_14, x74_15, x74_18, x74_19, x74_22, x74_23, x74_24, x74_25, x74_28, x74_31, x74_32, F, c1, c2, c3, wat_at (show e < 10 by omega), nI_1, true_or, and_self, ↓reduceIte, bhK]
    by_cases z : sit A (nI e) = -1
    · simp only [z, ↓reduceIte]
      exact e1
    · simp only [z, ↓reduceIte]
theorem lp_lastW (F : OF h o A q kn) : ∀ (e : Nat), e ≤ 10 → Rf d 75 3 [.ref o, .int (nI e + -1)] [] h = some (some (.int (if ahK A e = -1 then 0 else ahK A e)), h) := by
  intro e
  induction e with
  | zero =>
    intro _
    rw [nI_0, show (0 : Int32) + -1 = -1 from by decide]
    simp only [x75_0, x75_2, x75_3, x75_4, x75_7, x75_8, x75_11, x75_12, x75_13, x75_14, x75_17, x75_18, x75_21, x75_22, x75_23, x75_24, x75_27, x75_30, x75_31, ahK, show (-1 : Int32) < 0 from by decide, ↓reduceIte]
  | succ e ih =>
    intro he
    have c1 : ¬ nI e < 0 := nI_pos (by omega)
    have c2 : inB (nI e) 10 = true := nI_inB (by omega) (by omega)
    have c3 : (nI e).toNatClampNeg = e := nI_clamp (by omega)
    have e1 := ih (by omega)
    rw [pk_m1]
    rw [x75_3]
    simp only [x75_4, x75_7, x75_8, x75_11, x75_12, x75_13, x75_14, x75_17, x75_18, x75_21, x75_22, x75_23, x75_24, x75_27, x75_30, x75_31, F, c1, c2, c3, wat_at (show e < 10 by omega), true_or, and_self, ↓reduceIte, ahK]
    by_cases z : sit A (nI e) = -1
    · simp only [z, ↓reduceIte]
      exact e1
    · simp only [z, ↓reduceIte]
theorem sp_aheadR (F : OF h o A q kn) (R : RG A n) {w : Nat} (hw : w < n) : Rf (d + 1) 72 0 [.ref o, .int (nI w), noV] [] h = some (some (.int (aR A w)), h) := by
  have e1 := sp_ahead (d := d) F R hw
  have e2 : Rf d 75 0 [.ref o, noV] [] h = some (some (.int (if ahK A 10 = -1 then 0 else ahK A 10)), h) := by
    have := lp_lastW (d := d) F 10 (by omega)
    rw [show nI 10 + -1 = 9 from by decide] at this
    simp only [x75_0, x75_2]
    exact this
  simp only [x72_0, x72_1, x72_5, x72_6, x72_7, x72_8, x72_11, x72_12, x72_15, x72_19, xc72_2 F.1 e1, xc72_16 F.1 e2, aR]
  by_cases z : ahead A w = -1
  · simp only [z, ↓reduceIte]
  · simp only [z, ↓reduceIte]
theorem sp_behindR (F : OF h o A q kn) (R : RG A n) {w : Nat} (hw : w < n) : Rf (d + 1) 73 0 [.ref o, .int (nI w), noV] [] h = some (some (.int (bR A w)), h) := by
  have e1 := sp_behind (d := d) F R hw
  have e2 : Rf d 74 0 [.ref o, noV] [] h = some (some (.int (if bhK A 0 10 = -1 then 0 else bhK A 0 10)), h) := by
    have := lp_first (d := d) F 10 0 (by omega)
    rw [nI_0] at this
    simp only [x74_0, x74_1]
    exact this
  simp only [x73_0, x73_1, x73_5, x73_6, x73_7, x73_8, x73_11, x73_12, x73_15, x73_19, xc73_2 F.1 e1, xc73_16 F.1 e2, bR]
  by_cases z : behind A w = -1
  · simp only [z, ↓reduceIte]
  · simp only [z, ↓reduceIte]
theorem sp_isOneOf {s x : Int32} : Rf d 71 0 [.int s, .int x] [] h = some (some (.int (b2 (¬ (s >>> (x &&& 31)) &&& 1 = 0))), h) := by
  simp only [x71_0, x71_1, x71_2, x71_3, x71_4, x71_5, x71_8, x71_9, x71_12, x71_13, retI_z0, retI_z1, ↓reduceIte]
  unfold b2
  by_cases z : (s >>> (x &&& 31)) &&& 1 = 0
  · simp only [z, not_true_eq_false, ↓reduceIte]
  · simp only [z, not_false_eq_true, ↓reduceIte]
theorem lp_known (F : OF h o A q kn) (R : RG A n) {s all : Int32} : ∀ (k w : Nat) (a : Int32) (v5 v6 v7 : Value), w + k = n → Rf (d + 2) 70 5 [.ref o, .int s, .int all, .int a, .int (nI w), v5, v6, v7] [] h = some (some (.int (orL (kbB A s all) a (List.range' w k))), h) := by
  have hn := R.1
  have h0 := R.2.1
  intro k
  induction k with
  | zero =>
    intro w a v5 v6 v7 hw
    have c1 : ¬ nI w < nI n := nI_nlt (by omega) (by omega)
    simp only [x70_0, x70_1, x70_2, x70_3, x70_5, x70_7, x70_8, x70_11, x70_14, x70_15, x70_17, x70_18, x70_20, x70_21, x70_22, x70_30, x70_33, x70_34, x70_35, x70_43, x70_46, x70_47, x70_50, x70_51, x70_53, x70_54, x70_55, x70_56, x70_57, x70_58, x70_60, x70_63, x70_64, x70_67, x70_68, x70_70, x70_71, x70_73, x70_74, x70_77, x70_79, x70_82, x70_84, x70_87, x70_88, x70_90, x70_91, x70_92, x70_95, x70_98, x70_99, F, h0, c1, and_self, ↓reduceIte, List.range'_zero, orL]
  | succ k ih =>
    intro w a v5 v6 v7 hw
    have c1 : nI w < nI n := nI_lt (by omega) (by omega)
    have e1 := sp_aheadR (d := d) F R (w := w) (by omega)
    have e2 := sp_behindR (d := d) F R (w := w) (by omega)
    have e3 := fun v5 v6 v7 => ih (w + 1) (if kbB A s all w = true then a ||| bI w else a) v5 v6 v7 (by omega)
    have hb : (1 : Int32) <<< (nI w &&& 31) = bI w := rfl
    have z0 := and0 (s := s) (v := w) (by omega)
    rw [x70_5]
    simp only [x70_7, x70_8, x70_11, x70_14, x70_15, x70_17, x70_18, x70_20, x70_21, x70_22, x70_30, x70_33, x70_34, x70_35, x70_43, x70_46, x70_47, x70_50, x70_51, x70_53, x70_54, x70_55, x70_56, x70_57, x70_58, x70_60, x70_63, x70_64, x70_67, x70_68, x70_70, x70_71, x70_73, x70_74, x70_77, x70_79, x70_82, x70_84, x70_87, x70_88, x70_90, x70_91, x70_92, x70_95, xc70_24 F.1 e1, xc70_37 F.1 e2, xc70_27 (sp_isOneOf (d := d + 1)), xc70_40 (sp_isOneOf (d := d + 1)), F, h0, c1, hb, b2_0, Decidable.not_not, nI_1, and_self, ↓reduceIte, List.range'_succ, orL]
    cases hbt : bt s w
    · have z1 := z0.mpr hbt
      by_cases y1 : (s >>> (aR A w &&& 31)) &&& 1 = 0
      · by_cases y3 : all &&& (s ^^^ (-1)) = bI w
        · have hk : kbB A s all w = true := by simp only [kbB, hbt, y1, y3, Bool.not_false, Bool.not_true, not_true_eq_false, not_false_eq_true, decide_true, decide_false, Bool.true_and, Bool.false_and, Bool.and_true, Bool.false_or, Bool.true_or, Bool.or_true, Bool.or_false, Bool.and_false, Bool.and_self]
          simp only [z1, y1, y3, hk, ↓reduceIte, litZ] at e3 ⊢
          exact e3 _ _ _
        · have hk : kbB A s all w = false := by simp only [kbB, hbt, y1, y3, Bool.not_false, Bool.not_true, not_true_eq_false, not_false_eq_true, decide_true, decide_false, Bool.true_and, Bool.false_and, Bool.and_true, Bool.false_or, Bool.true_or, Bool.or_true, Bool.or_false, Bool.and_false, Bool.and_self]
          simp only [z1, y1, y3, hk, ↓reduceIte, litZ, Bool.false_eq_true] at e3 ⊢
          exact e3 _ _ _
      · by_cases y2 : (s >>> (bR A w &&& 31)) &&& 1 = 0
        · by_cases y3 : all &&& (s ^^^ (-1)) = bI w
          · have hk : kbB A s all w = true := by simp only [kbB, hbt, y2, y3, Bool.not_false, Bool.not_true, not_true_eq_false, not_false_eq_true, decide_true, decide_false, Bool.true_and, Bool.false_and, Bool.and_true, Bool.false_or, Bool.true_or, Bool.or_true, Bool.or_false, Bool.and_false, Bool.and_self]
            simp only [z1, y1, y2, y3, hk, ↓reduceIte, litZ] at e3 ⊢
            exact e3 _ _ _
          · have hk : kbB A s all w = false := by simp only [kbB, hbt, y2, y3, Bool.not_false, Bool.not_true, not_true_eq_false, not_false_eq_true, decide_true, decide_false, Bool.true_and, Bool.false_and, Bool.and_true, Bool.false_or, Bool.true_or, Bool.or_true, Bool.or_false, Bool.and_false, Bool.and_self]
            simp only [z1, y1, y2, y3, hk, ↓reduceIte, litZ, Bool.false_eq_true] at e3 ⊢
            exact e3 _ _ _
        · have hk : kbB A s all w = true := by simp only [kbB, hbt, y1, y2, Bool.not_false, Bool.not_true, not_true_eq_false, not_false_eq_true, decide_true, decide_false, Bool.true_and, Bool.false_and, Bool.and_true, Bool.false_or, Bool.true_or, Bool.or_true, Bool.or_false, Bool.and_false, Bool.and_self]
          simp only [z1, y1, y2, hk, ↓reduceIte, litZ] at e3 ⊢
          by_cases y3 : all &&& (s ^^^ (-1)) = bI w
          · simp only [y3, ↓reduceIte]
            exact e3 _ _ _
          · simp only [y3, ↓reduceIte]
            exact e3 _ _ _
    · have z1 : ¬ s &&& bI w = 0 := fun z => by rw [z0.mp z] at hbt; cases hbt
      have hk : kbB A s all w = false := by simp only [kbB, hbt, Bool.not_false, Bool.not_true, not_true_eq_false, not_false_eq_true, decide_true, decide_false, Bool.true_and, Bool.false_and, Bool.and_true, Bool.false_or, Bool.true_or, Bool.or_true, Bool.or_false, Bool.and_false, Bool.and_self]
      simp only [hk, Bool.false_eq_true, ↓reduceIte] at e3 ⊢
      by_cases y1 : (s >>> (aR A w &&& 31)) &&& 1 = 0
      · by_cases y3 : all &&& (s ^^^ (-1)) = bI w
        · simp only [z1, y1, y3, ↓reduceIte]
          exact e3 _ _ _
        · simp only [z1, y1, y3, ↓reduceIte]
          exact e3 _ _ _
      · by_cases y2 : (s >>> (bR A w &&& 31)) &&& 1 = 0
        · by_cases y3 : all &&& (s ^^^ (-1)) = bI w
          · simp only [z1, y1, y2, y3, ↓reduceIte]
            exact e3 _ _ _
          · simp only [z1, y1, y2, y3, ↓reduceIte]
            exact e3 _ _ _
        · by_cases y3 : all &&& (s ^^^ (-1)) = bI w
          · simp only [z1, y1, y2, y3, ↓reduceIte]
            exact e3 _ _ _
          · simp only [z1, y1, y2, y3, ↓reduceIte]
            exact e3 _ _ _
def alF (A : Nat → Int32) : Int32 := ((1 : Int32) <<< (A 0 &&& 31)) - 1
def knP (A : Nat → Int32) (n : Nat) (s : Int32) : Int32 := if s &&& (alF A ^^^ (-1)) = 0 then orL (kbB A s (alF A)) 0 (List.range' 0 n) else -2
theorem sp_known (G : XF h) (F : OF h 33 A q kn) (R : RG A n) {s : Int32} : Rf (d + 3) 113 0 [.ref 32, .int s, noV] [] h = some (some (.int (knP A n s)), h) := by
  have e0 := lp_known (d := d) F R (s := s) (all := alF A) n 0 0 noV noV noV (by omega)
  rw [nI_0] at e0
  have e1 : Rf (d + 2) 70 0 [.ref 33, .int s, .int (alF A), noV, noV, noV, noV, noV] [] h = some (some (.int (orL (kbB A s (alF A)) 0 (List.range' 0 n))), h) := by
    simp only [x70_0, x70_1, x70_2, x70_3]
    exact e0
  have ha : ((1 : Int32) <<< (A 0 &&& 31)) - 1 = alF A := rfl
  simp only [x113_0, x113_1, x113_2, x113_5, x113_8, x113_9, x113_10, x113_11, x113_12, x113_13, x113_14, x113_15, x113_16, x113_17, x113_20, x113_22, x113_25, x113_26, x113_29, x113_30, x113_34, xc113_31 F.1 e1, G, F, ha, and_self, ↓reduceIte, knP]
  by_cases z : s &&& (alF A ^^^ (-1)) = 0
  · simp only [z, ↓reduceIte]
  · simp only [z, ↓reduceIte]
theorem lp_mknown (F : MF h o A B) (R : RG A n) {s : Int32} {U : Nat → Int32} (r1 : aT (h.1 (o + 4)) = 0 ∧ aN (h.1 (o + 4)) = 10 ∧ aF (h.1 (o + 4)) = U) (hU : ∀ i v, (lnL A)[i]? = some v → U i = nI v) (hs : s &&& (alF A ^^^ (-1)) = 0) : ∀ (k i : Nat) (a : Int32) (v5 v6 : Value), i + k = n → Rf d 180 31 [.ref o, .int s, .int (alF A), .int a, .int (nI i), v5, v6] [] h = some (some (.int (orL (kbB A s (alF A)) a ((lnL A).drop i))), h) := by
  have hn := R.1
  have h0 := R.2.1
  have hl := lnL_len R
  intro k
  induction k with
  | zero =>
    intro i a v5 v6 hi
    have c1 : ¬ nI i < nI n := nI_nlt (by omega) (by omega)
    rw [List.drop_of_length_le (by omega)]
    simp only [x180_31, x180_33, x180_34, x180_37, x180_38, x180_39, x180_42, x180_43, x180_46, x180_48, x180_49, x180_51, x180_52, x180_54, x180_55, x180_56, x180_57, x180_58, x180_61, x180_64, x180_65, x180_66, x180_68, x180_69, x180_70, x180_71, x180_74, x180_75, x180_78, x180_79, x180_81, x180_82, x180_83, x180_86, x180_88, x180_89, x180_92, x180_93, x180_94, x180_95, x180_96, x180_97, x180_98, x180_101, x180_102, x180_103, x180_104, x180_105, x180_106, x180_107, x180_108, x180_109, x180_112, x180_113, x180_114, x180_117, x180_119, x180_120, x180_121, x180_122, x180_125, x180_126, x180_127, x180_128, x180_129, x180_130, x180_131, x180_132, x180_133, x180_136, x180_137, x180_139, x180_141, x180_144, x180_145, x180_146, x180_148, x180_149, x180_150, x180_151, x180_154, x180_157, x180_158, F, ixL, h0, c1, true_or, and_self, ↓reduceIte, orL]
  | succ k ih =>
    intro i a v5 v6 hi
    have c1 : nI i < nI n := nI_lt (by omega) (by omega)
    have c2 : inB (nI i) 10 = true := nI_inB (by omega) (by omega)
    have c3 : (nI i).toNatClampNeg = i := nI_clamp (by omega)
    have hz : ¬ nI n = 0 := nI_ne0 (by omega) (by omega)
    obtain ⟨v, hv⟩ : ∃ v, (lnL A)[i]? = some v := ⟨(lnL A)[i]'(by omega), List.getElem?_eq_getElem _⟩
    have hvn : v < n := (lnL_mem R v).mp (List.mem_of_getElem? hv)
    obtain ⟨x, y, hx, hy, hxn, hyn, ex, ey⟩ := round_of R hv
    have hd : (lnL A).drop i = v :: (lnL A).drop (i + 1) := by
      obtain ⟨hlt, he⟩ := List.getElem?_eq_some_iff.mp hv
      rw [List.drop_eq_getElem_cons hlt, he]
    have p1 : nI i + nI n - 1 = nI (i + n - 1) := by
      rw [nI_add]
      obtain ⟨j, hj⟩ : ∃ j, i + n = j + 1 := ⟨i + n - 1, by omega⟩
      rw [hj, nI_pred, Nat.add_sub_cancel]
    have p2 : remI (nI (i + n - 1)) (nI n) = nI ((i + n - 1) % n) := pk_rem (by omega) (by omega) (by omega)
    have p3 : remI (nI (i + 1)) (nI n) = nI ((i + 1) % n) := pk_rem (by omega) (by omega) (by omega)
    have m1 := Nat.mod_lt (i + n - 1) (show n > 0 by omega)
    have m2 := Nat.mod_lt (i + 1) (show n > 0 by omega)
    have p4 : inB (nI ((i + n - 1) % n)) 10 = true := nI_inB (by omega) (by omega)
    have p5 : (nI ((i + n - 1) % n)).toNatClampNeg = (i + n - 1) % n := nI_clamp (by omega)
    have p6 : inB (nI ((i + 1) % n)) 10 = true := nI_inB (by omega) (by omega)
    have p7 : (nI ((i + 1) % n)).toNatClampNeg = (i + 1) % n := nI_clamp (by omega)
    have e3 := fun v5 v6 => ih (i + 1) (if kbB A s (alF A) v = true then a ||| bI v else a) v5 v6 (by omega)
    have hb : (1 : Int32) <<< (nI v &&& 31) = bI v := rfl
    have s1 := sh1 (s := s) (v := v) (by omega)
    have s2 := sh1 (s := s) (v := x) (by omega)
    have s3 := sh1 (s := s) (v := y) (by omega)
    rw [x180_31, hd]
    simp only [x180_33, x180_34, x180_37, x180_38, x180_39, x180_42, x180_43, x180_46, x180_48, x180_49, x180_51, x180_52, x180_54, x180_55, x180_56, x180_57, x180_58, x180_61, x180_64, x180_65, x180_66, x180_68, x180_69, x180_70, x180_71, x180_74, x180_75, x180_78, x180_79, x180_81, x180_82, x180_83, x180_86, x180_88, x180_89, x180_92, x180_93, x180_94, x180_95, x180_96, x180_97, x180_98, x180_101, x180_102, x180_103, x180_104, x180_105, x180_106, x180_107, x180_108, x180_109, x180_112, x180_113, x180_114, x180_117, x180_119, x180_120, x180_121, x180_122, x180_125, x180_126, x180_127, x180_128, x180_129, x180_130, x180_131, x180_132, x180_133, x180_136, x180_137, x180_139, x180_141, x180_144, x180_145, x180_146, x180_148, x180_149, x180_150, x180_151, x180_154, F, r1, ixL, h0, c1, c2, c3, hz, hU i v hv, hU _ x hx, hU _ y hy, p1, p2, p3, p4, p5, p6, p7, s1, s2, s3, hb, nI_1, true_or, and_self, not_false_eq_true, ↓reduceIte, orL]
    cases hbt : bt s v
    · have li := last_iff (s := s) (all := alF A) (v := v) (by omega) hs hbt
      have hk : kbB A s (alF A) v = ((bt s x && bt s y) || decide (s ||| bI v = alF A)) := by
        unfold kbB
        rw [ex, ey, s2, s3, hbt]
        cases bt s x <;> cases bt s y <;> simp only [li, Bool.false_eq_true, ↓reduceIte, litZ, Bool.not_false, Bool.not_true, not_true_eq_false, not_false_eq_true, decide_true, decide_false, Bool.true_and, Bool.false_and, Bool.and_true, Bool.false_or, Bool.true_or, Bool.or_true, Bool.or_false, Bool.and_false, Bool.and_self]
      rw [hk] at e3 ⊢
      by_cases y3 : s ||| bI v = alF A
      · cases hbx : bt s x <;> cases hby : bt s y <;> simp only [hbx, hby, y3, Bool.false_eq_true, ↓reduceIte, Bool.or_true, Bool.or_false, decide_true, litZ, Bool.and_true, Bool.and_false, show ¬ (0 : Int32) = 1 from by decide] at e3 ⊢ <;> exact e3 _ _
      · cases hbx : bt s x <;> cases hby : bt s y <;> simp only [hbx, hby, y3, Bool.false_eq_true, ↓reduceIte, Bool.or_true, Bool.or_false, decide_false, litZ, Bool.and_true, Bool.and_false, show ¬ (0 : Int32) = 1 from by decide] at e3 ⊢ <;> exact e3 _ _
    · have hk : kbB A s (alF A) v = false := by simp only [kbB, hbt, Bool.not_false, Bool.not_true, not_true_eq_false, not_false_eq_true, decide_true, decide_false, Bool.true_and, Bool.false_and, Bool.and_true, Bool.false_or, Bool.true_or, Bool.or_true, Bool.or_false, Bool.and_false, Bool.and_self]
      simp only [hk, Bool.false_eq_true, ↓reduceIte] at e3 ⊢
      exact e3 _ _
theorem sp_mknown {im rn : Int32} {T0 : Nat → Int32} (M : MM h o A B im rn T0) (R : RG A n) {s : Int32} : ∃ h', Rf (d + 2) 180 0 [.ref o, .int s, noV, noV, noV, noV, noV] [] h = some (some (.int (knP A n s)), h') ∧ MM h' o A B im rn T0 ∧ ME h h' o := by
  have hn := R.1
  have F := M.1
  have ha : ((1 : Int32) <<< (A 0 &&& 31)) - 1 = alF A := rfl
  unfold knP
  by_cases z : s &&& (alF A ^^^ (-1)) = 0
  · obtain ⟨U, hU, e1⟩ := sp_line (d := d) F R
    have F2 := MF_rwt F U
    have e2 := lp_mknown (d := d + 2) F2 R (rwtF U) hU z n 0 0 noV noV (by omega)
    rw [nI_0, List.drop_zero] at e2
    refine ⟨rwt h o U, ?_, MM_rwt M U, ME_set (k := 4) (by decide)⟩
    rw [if_pos z, ← List.range_eq_range', ← orL_perm (fun v => (lnL_mem R v).trans List.mem_range.symm) (fun v hv => by have := (lnL_mem R v).mp hv; omega)]
    simp only [x180_0, x180_1, x180_2, x180_5, x180_6, x180_7, x180_8, x180_9, x180_10, x180_11, x180_12, x180_13, x180_14, x180_15, x180_16, x180_19, x180_21, x180_22, x180_26, x180_27, x180_28, x180_29, xc180_23 F.1 e1, F, ixL, ha, z, true_or, and_self, ↓reduceIte]
    exact e2
  · refine ⟨h, ?_, M, ME_rf⟩
    simp only [x180_0, x180_1, x180_2, x180_5, x180_6, x180_7, x180_8, x180_9, x180_10, x180_11, x180_12, x180_13, x180_14, x180_15, x180_16, x180_19, x180_21, F, ixL, ha, z, true_or, and_self, ↓reduceIte]
end KW
