-- deps: 80.law
section LL
variable {h : AHp} {L i : Nat} {xs : Nat → Int32}
def PHs : Prop := ∀ h, GI h → LO h → sgH h < 100 → PR h 96 145 [.ref 32, noV, noV] [.ref 128, noV]
theorem lw_sw (ph : PHs) (G : GI h) (Lo : LO h) (sg : sgH h < 100) (S : SC h L xs) (hL : L ≤ 320) (hi : i + 4 < L) : ∃ h2, Rf 1000 217 26 [.ref 31, .ref 32, .ref 128, .int (nI i)] [] h = Rf 1000 217 1008 [.ref 31, .ref 32, .ref 128, .int (nI i)] [] h2 ∧ NX h h2 := by
  have c2 : inB (nI i) L = true := nI_inB (by omega) (by omega)
  have c3 : (nI i).toNatClampNeg = i := nI_clamp (by omega)
  have S0 := S
  unfold SC at S0
  have e : Rf 1000 217 26 [.ref 31, .ref 32, .ref 128, .int (nI i)] [] h = Rf 1000 217 32 [.ref 31, .ref 32, .ref 128, .int (nI i)] [.int (xs i &&& 31)] h := by
    simp only [x217_26, x217_27, x217_28, x217_29, x217_31, S0, c2, c3, or_true, and_self, ↓reduceIte]
  rw [e]
  generalize xs i &&& 31 = v
  rw [x217_32]
  by_cases v0 : v = 0
  · rw [if_pos v0]
    exact lw_0 S hL hi (pr_feed G)
  rw [if_neg v0]
  by_cases v1 : v = 1
  · rw [if_pos v1]
    exact lw_1 S hL hi (ph h G Lo sg)
  rw [if_neg v1]
  by_cases v2 : v = 2
  · rw [if_pos v2]
    exact lw_2 S hL hi (pr_told G)
  rw [if_neg v2]
  by_cases v3 : v = 3
  · rw [if_pos v3]
    exact lw_3 S hL hi (pr_worker G)
  rw [if_neg v3]
  by_cases v4 : v = 4
  · rw [if_pos v4]
    exact lw_4 S hL hi (pr_knowing G)
  rw [if_neg v4]
  by_cases v5 : v = 5
  · rw [if_pos v5]
    exact lw_5 S hL hi (pr_friend G)
  rw [if_neg v5]
  by_cases v6 : v = 6
  · rw [if_pos v6]
    exact lw_6 S hL hi (pr_of G)
  rw [if_neg v6]
  by_cases v7 : v = 7
  · rw [if_pos v7]
    exact lw_7 S hL hi (pr_set G)
  rw [if_neg v7]
  by_cases v8 : v = 8
  · rw [if_pos v8]
    exact lw_8 S hL hi (pr_telling G)
  rw [if_neg v8]
  by_cases v9 : v = 9
  · rw [if_pos v9]
    exact lw_9 S hL hi (pr_year G)
  rw [if_neg v9]
  by_cases v10 : v = 10
  · rw [if_pos v10]
    exact lw_10 S hL hi (pr_years G)
  rw [if_neg v10]
  by_cases v11 : v = 11
  · rw [if_pos v11]
    exact lw_11 S hL hi (pr_best G)
  rw [if_neg v11]
  by_cases v12 : v = 12
  · rw [if_pos v12]
    exact lw_12 S hL hi (pr_even G)
  rw [if_neg v12]
  by_cases v13 : v = 13
  · rw [if_pos v13]
    exact lw_13 S hL hi (pr_spread G)
  rw [if_neg v13]
  by_cases v14 : v = 14
  · rw [if_pos v14]
    exact lw_14 S hL hi (pr_bargain G)
  rw [if_neg v14]
  by_cases v15 : v = 15
  · rw [if_pos v15]
    exact lw_15 S hL hi (pr_die G)
  rw [if_neg v15]
  by_cases v16 : v = 16
  · rw [if_pos v16]
    exact lw_16 S hL hi (pr_slip G)
  rw [if_neg v16]
  by_cases v17 : v = 17
  · rw [if_pos v17]
    exact lw_17 S hL hi (pr_known G)
  rw [if_neg v17]
  by_cases v18 : v = 18
  · rw [if_pos v18]
    exact lw_18 S hL hi (pr_advert G)
  rw [if_neg v18]
  by_cases v19 : v = 19
  · rw [if_pos v19]
    exact lw_19 S hL hi (pr_clear G)
  rw [if_neg v19]
  by_cases v20 : v = 20
  · rw [if_pos v20]
    exact lw_20 S hL hi (pr_span G)
  rw [if_neg v20]
  by_cases v21 : v = 21
  · rw [if_pos v21]
    exact lw_21 S hL hi (pr_can G)
  rw [if_neg v21]
  by_cases v22 : v = 22
  · rw [if_pos v22]
    exact lw_22 S hL hi (pr_list G)
  rw [if_neg v22]
  by_cases v23 : v = 23
  · rw [if_pos v23]
    exact lw_23 S hL hi (pr_looked G)
  rw [if_neg v23]
  by_cases v24 : v = 24
  · rw [if_pos v24]
    exact lw_24 S hL hi (pr_act G)
  rw [if_neg v24]
  by_cases v25 : v = 25
  · rw [if_pos v25]
    exact lw_25 S hL hi (pr_trace G)
  rw [if_neg v25]
  by_cases v26 : v = 26
  · rw [if_pos v26]
    exact lw_26 S hL hi (pr_as G)
  rw [if_neg v26]
  by_cases v27 : v = 27
  · rw [if_pos v27]
    exact lw_27 S hL hi (pr_image G)
  rw [if_neg v27]
  by_cases v28 : v = 28
  · rw [if_pos v28]
    exact lw_28 S hL hi (pr_undo G)
  rw [if_neg v28]
  by_cases v29 : v = 29
  · rw [if_pos v29]
    exact lw_29 S hL hi (pr_count G)
  rw [if_neg v29]
  exact ⟨h, rfl, G, Nat.le_add_right _ _, Nat.le_add_right _ _, Nat.le_add_right _ _, FZ_rf⟩
theorem ex_c (hL : L ≤ 320) (hi : i ≤ 400) : (nI L - 5 < nI i) = (L < i + 5) := by
  have hi0 : ¬ nI i < 0 := nI_pos (by omega)
  by_cases h5 : L < 5
  · have : ∀ L, L < 5 → nI L - 5 < 0 := by decide +kernel
    have h1 := this L h5
    have h2 : (0 : Int32) ≤ nI i := Int32.not_lt.mp hi0
    have h3 : nI L - 5 < nI i := Int32.lt_of_lt_of_le h1 h2
    exact propext ⟨fun _ => by omega, fun _ => h3⟩
  · have e : nI L - 5 = nI (L - 5) := by
      have := nI_add (L - 5) 5
      rw [Nat.sub_add_cancel (by omega)] at this
      rw [← this]
      exact Int32.add_sub_cancel _ _
    rw [e]
    apply propext
    rw [nI_ltI (by omega) (by omega)]
    omega
theorem lw_loop (ph : PHs) (hL : L ≤ 320) : ∀ (k c : Nat) (h : AHp), L ≤ 5 * c + 5 * k → 5 * c ≤ L + 4 → GI h → LO h → SC h L xs → sgH h ≤ c → h.2.1 ≤ 136 + 6 * c → h.2.2 ≤ 10000 + 300 * c → ∃ hE, Rf 1000 217 18 [.ref 31, .ref 32, .ref 128, .int (nI (5 * c))] [] h = some (some (.int 1), hE) ∧ hE.2.1 ≤ 600032 ∧ hE.2.2 ≤ 7302250 := by
  have ex : ∀ (c : Nat) (h : AHp), L < 5 * c + 5 → 5 * c ≤ L + 4 → SC h L xs → h.2.1 ≤ 136 + 6 * c → h.2.2 ≤ 10000 + 300 * c → ∃ hE, Rf 1000 217 18 [.ref 31, .ref 32, .ref 128, .int (nI (5 * c))] [] h = some (some (.int 1), hE) ∧ hE.2.1 ≤ 600032 ∧ hE.2.2 ≤ 7302250 := by
    intro c h h1 h2 S b1 b2
    have c1 : nI L - 5 < nI (5 * c) := by rw [ex_c hL (by omega)]; exact h1
    unfold SC at S
    exact ⟨h, by simp only [x217_18, x217_19, x217_20, x217_21, x217_22, x217_23, x217_1014, x217_1015, S, c1, retI_z1, or_true, true_or, ↓reduceIte], by omega, by omega⟩
  intro k
  induction k with
  | zero =>
    intro c h h1 h2 G Lo S sg b1 b2
    exact ex c h (by omega) h2 S b1 b2
  | succ k ih =>
    intro c h h1 h2 G Lo S sg b1 b2
    by_cases hx : L < 5 * c + 5
    · exact ex c h hx h2 S b1 b2
    · have c1 : ¬ nI L - 5 < nI (5 * c) := by rw [ex_c hL (by omega)]; exact hx
      obtain ⟨h3, e1, G3, d1, d2, d3, F3⟩ := lw_sw ph G Lo (by omega) S hL (i := 5 * c) (by omega)
      have hs : 136 ≤ h.2.1 := S.2.2.2.2.2
      obtain ⟨hE, e2, e3⟩ := ih (c + 1) h3 (by omega) (by omega) G3 (LO_fz Lo F3 (Nat.le_trans (by decide) hs)) (SC_2 S F3 G3) (Nat.le_trans d3 (Nat.succ_le_succ sg)) (Nat.le_trans d1 (by clear G Lo S F3 G3 ih ex e1; omega)) (Nat.le_trans d2 (by clear G Lo S F3 G3 ih ex e1; omega))
      refine ⟨hE, ?_, e3⟩
      have a5 : nI (5 * c) + 5 = nI (5 * (c + 1)) := nI_add (5 * c) 5
      unfold SC at S
      simp only [x217_18, x217_19, x217_20, x217_21, x217_22, x217_23, S, c1, or_true, true_or, ↓reduceIte]
      rw [e1]
      simp only [x217_1008, x217_1011, a5]
      exact e2
theorem law_all (ph : PHs) (xs : Nat → Int32) (hL : L ≤ 320) : ∃ hE : AHp, Rf 1000 217 0 [.ref 31, noV, noV, noV] [] (h0A L xs) = some (some (.int 1), hE) ∧ hE.2.1 ≤ 600032 ∧ hE.2.2 ≤ 7302250 := by
  obtain ⟨h, e1, G, sg, n1, n2, lo⟩ := law_start (d := 995) (L := L) xs
  have Lo : LO h := fun p hp => by
    rw [lo p (by omega), lo (15 + p) (by omega)]
    unfold roC
    rw [if_pos hp, if_neg (by omega), if_pos (by omega), Nat.add_sub_cancel_left]
    exact ⟨rfl, rfl⟩
  have h31 : h.1 31 = .inl (10, L, .inl xs) := by
    rw [lo 31 (by decide)]
    rfl
  have S : SC h L xs := by
    refine ⟨by rw [h31]; rfl, by rw [h31]; rfl, by rw [h31]; rfl, GI_32 G, ?_, by rw [n1]; decide⟩
    obtain ⟨A, B, im, rn, T, n, C, cl, ml, q, kn, n2, C2, cl2, ml2, q2, kn2, G⟩ := G
    exact G.2.2.2.2.2.2.2.2.1.1.1
  obtain ⟨hE, e2, e3⟩ := lw_loop ph hL 64 0 h (by omega) (by omega) G Lo S (by omega) (by omega) (by omega)
  exact ⟨hE, e1.trans e2, e3⟩
end LL
