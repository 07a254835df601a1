-- deps: 62.init 63.text
def A0 : Nat → Int32 := fun _ => 0
theorem sub_A0 {b n : Nat} : sub A0 b n = fun _ => 0 := by
  funext j
  unfold sub A0
  split <;> rfl
theorem wat_A0 : wat A0 = fun j => if j < 10 then -1 else 0 := by
  funext j
  unfold wat
  split
  · unfold sit
    rw [show (A0 0).toNatClampNeg = 0 from by decide]
    rfl
  · rfl
theorem frR_A0 : frR A0 = fun _ => 0 := by
  funext j
  unfold frR
  split
  · show frF 0 = 0
    decide
  · rfl
theorem RG_A0 : RG A0 0 := by
  refine ⟨by decide, rfl, fun w hw => absurd hw (Nat.not_lt_zero _), fun w hw => ⟨⟨0, by decide, rfl⟩, ⟨0, by decide, rfl⟩⟩, fun w v hw => absurd hw (Nat.not_lt_zero _), ⟨0, by decide, rfl⟩, ⟨0, by decide, rfl⟩⟩
theorem RP_A0 : RP A0 := ⟨⟨0, by decide, rfl⟩, ⟨0, by decide, rfl⟩, ⟨0, by decide, rfl⟩, ⟨0, by decide, rfl⟩, fun i _ => ⟨⟨0, by decide, rfl⟩, ⟨0, by decide, rfl⟩⟩, fun i _ => ⟨0, by decide, rfl⟩⟩
theorem YB_A0 : YB A0 := ⟨0, by decide, rfl⟩
theorem MH_A0 : MH A0 A0 0 [] := Or.inl ⟨rfl, rfl⟩
theorem HR_nil : HR [] := fun x hx => absurd hx (by simp)
section IP
variable {d o a n : Nat} {h : AHp} {C : va_E}
theorem in_papers (c : h.1 o = .inr (7, defV 7)) (n : h.2.1 = o + 1) : ∃ h', Rf d 76 0 [.ref o] [] h = some (none, h') ∧ PP h' o A0 ∧ h'.2 = (o + 6, h.2.2 + 146) ∧ ∀ p, p < o → h'.1 p = h.1 p := by
  rw [df7] at c
  have b0 : Rf d 76 0 [.ref o] [] h = Rf d 76 4 [.ref o] [] h := by simp only [x76_0, x76_1]
  obtain ⟨h1, b1, c1, r1, n1, f1⟩ := al_X7_init_4 (d := d) (v := noV) c rfl rfl n (by omega)
  obtain ⟨h2, b2, c2, r2, n2, f2⟩ := al_X7_init_12 (d := d) (v := noV) (a := o + 2) c1 rfl rfl (by rw [n1]) (by omega)
  obtain ⟨h3, b3, c3, r3, n3, f3⟩ := al_X7_init_20 (d := d) (v := noV) (a := o + 3) c2 rfl rfl (by rw [n2]) (by omega)
  obtain ⟨h4, b4, c4, r4, n4, f4⟩ := al_X7_init_28 (d := d) (v := noV) (a := o + 4) c3 rfl rfl (by rw [n3]) (by omega)
  obtain ⟨h5, b5, c5, r5, n5, f5⟩ := al_X7_init_36 (d := d) (v := noV) (a := o + 5) c4 rfl rfl (by rw [n4]) (by omega)
  have b6 : Rf d 76 44 [.ref o] [] h5 = some (none, h5) := by simp only [x76_44]
  have e1 : h5.1 (o + 1) = zr 1 100 := by rw [f5 _ (by omega) (by omega), f4 _ (by omega) (by omega), f3 _ (by omega) (by omega), f2 _ (by omega) (by omega), r1]
  have e2 : h5.1 (o + 2) = zr 0 12 := by rw [f5 _ (by omega) (by omega), f4 _ (by omega) (by omega), f3 _ (by omega) (by omega), r2]
  have e3 : h5.1 (o + 3) = zr 0 12 := by rw [f5 _ (by omega) (by omega), f4 _ (by omega) (by omega), r3]
  have e4 : h5.1 (o + 4) = zr 0 12 := by rw [f5 _ (by omega) (by omega), r4]
  refine ⟨h5, b0.trans (b1.trans (b2.trans (b3.trans (b4.trans (b5.trans b6))))), ?_, ?_, fun p hp => ?_⟩
  · unfold PP
    rw [c5, e1, e2, e3, e4, r5, sub_A0, sub_A0, sub_A0, sub_A0, sub_A0]
    repeat' apply And.intro
    all_goals rfl
  · rw [n5, n4, n3, n2, n1]
  · rw [f5 p (by omega) (by omega), f4 p (by omega) (by omega), f3 p (by omega) (by omega), f2 p (by omega) (by omega), f1 p (by omega) (by omega)]
theorem in_trace (c : h.1 o = .inr (10, defV 10)) (n : h.2.1 = o + 1) : ∃ h', Rf d 92 0 [.ref o] [] h = some (none, h') ∧ h'.1 o = .inr (10, [.ref (o + 1), .int 0]) ∧ h'.1 (o + 1) = zr 0 20 ∧ h'.2 = (o + 2, h.2.2 + 20) ∧ ∀ p, p < o → h'.1 p = h.1 p := by
  rw [df10] at c
  have b0 : Rf d 92 0 [.ref o] [] h = Rf d 92 4 [.ref o] [] h := by simp only [x92_0, x92_1]
  obtain ⟨h1, b1, c1, r1, n1, f1⟩ := al_X10_init_4 (d := d) (v := noV) c rfl rfl n (by omega)
  have b2 : Rf d 92 12 [.ref o] [] h1 = some (none, h1) := by simp only [x92_12]
  exact ⟨h1, b0.trans (b1.trans b2), c1, r1, n1, fun p hp => f1 p (by omega) (by omega)⟩
theorem in_model (c : h.1 o = .inr (12, defV 12)) (n : h.2.1 = o + 1) : ∃ h', Rf d 130 0 [.ref o] [] h = some (none, h') ∧ MM h' o A0 A0 0 0 (fun _ => 0) ∧ h'.2 = (o + 8, h.2.2 + 2025) ∧ ∀ p, p < o → h'.1 p = h.1 p := by
  rw [df12] at c
  have b0 : Rf d 130 0 [.ref o] [] h = Rf d 130 4 [.ref o] [] h := by simp only [x130_0, x130_1]
  obtain ⟨h1, b1, c1, r1, n1, f1⟩ := al_X12_init_4 (d := d) (v := noV) c rfl rfl n (by omega)
  obtain ⟨h2, b2, c2, r2, n2, f2⟩ := al_X12_init_13 (d := d) (v := noV) (a := o + 2) c1 rfl rfl (by rw [n1]) (by omega)
  obtain ⟨h3, b3, c3, r3, n3, f3⟩ := al_X12_init_22 (d := d) (v := noV) (a := o + 3) c2 rfl rfl (by rw [n2]) (by omega)
  obtain ⟨h4, b4, c4, r4, n4, f4⟩ := al_X12_init_30 (d := d) (v := noV) (a := o + 4) c3 rfl rfl (by rw [n3]) (by omega)
  obtain ⟨h5, b5, c5, r5, n5, f5⟩ := al_X12_init_38 (d := d) (v := noV) (a := o + 5) c4 rfl rfl (by rw [n4]) (by omega)
  obtain ⟨h6, b6, c6, r6, n6, f6⟩ := al_X12_init_46 (d := d) (v := noV) (a := o + 6) c5 rfl rfl (by rw [n5]) (by omega)
  obtain ⟨h7, b7, c7, r7, n7, f7⟩ := al_X12_init_54 (d := d) (v := noV) (a := o + 7) c6 rfl rfl (by rw [n6]) (by omega)
  have b8 : Rf d 130 62 [.ref o] [] h7 = some (none, h7) := by simp only [x130_62]
  have e1 : h7.1 (o + 1) = zr 0 931 := by rw [f7 _ (by omega) (by omega), f6 _ (by omega) (by omega), f5 _ (by omega) (by omega), f4 _ (by omega) (by omega), f3 _ (by omega) (by omega), f2 _ (by omega) (by omega), r1]
  have e2 : h7.1 (o + 2) = zr 0 931 := by rw [f7 _ (by omega) (by omega), f6 _ (by omega) (by omega), f5 _ (by omega) (by omega), f4 _ (by omega) (by omega), f3 _ (by omega) (by omega), r2]
  have e3 : h7.1 (o + 3) = zr 0 101 := by rw [f7 _ (by omega) (by omega), f6 _ (by omega) (by omega), f5 _ (by omega) (by omega), f4 _ (by omega) (by omega), r3]
  have e4 : h7.1 (o + 4) = zr 0 10 := by rw [f7 _ (by omega) (by omega), f6 _ (by omega) (by omega), f5 _ (by omega) (by omega), r4]
  have e5 : h7.1 (o + 5) = zr 0 10 := by rw [f7 _ (by omega) (by omega), f6 _ (by omega) (by omega), r5]
  have e6 : h7.1 (o + 6) = zr 0 22 := by rw [f7 _ (by omega) (by omega), r6]
  refine ⟨h7, b0.trans (b1.trans (b2.trans (b3.trans (b4.trans (b5.trans (b6.trans (b7.trans b8))))))), ⟨?_, ?_, ?_, ?_⟩, ?_, fun p hp => ?_⟩
  · unfold MF
    rw [c7, e1, e2, e3, e4, e5, e6, r7]
    repeat' apply And.intro
    all_goals rfl
  · rw [c7]; rfl
  · rw [c7]; rfl
  · rw [r7]; rfl
  · rw [n7, n6, n5, n4, n3, n2, n1]
  · rw [f7 p (by omega) (by omega), f6 p (by omega) (by omega), f5 p (by omega) (by omega), f4 p (by omega) (by omega), f3 p (by omega) (by omega), f2 p (by omega) (by omega), f1 p (by omega) (by omega)]
theorem lp_fill {v : Int32} : ∀ (k i : Nat) (X : Nat → Int32), i + k = 10 → Rf d 214 5 [.ref a, .int v, .int (nI i), .int 10] [] (hset h a (.inl (0, 10, .inl X))) = some (none, hset h a (.inl (0, 10, .inl (fun j => if i ≤ j ∧ j < 10 then v else X j)))) := by
  intro k
  induction k with
  | zero =>
    intro i X hi
    have e0 : i = 10 := by omega
    subst e0
    have c1 : ¬ nI 10 < 10 := by decide
    have ex : (fun j => if 10 ≤ j ∧ j < 10 then v else X j) = X := by
      funext j
      rw [if_neg (by omega)]
    rw [ex]
    simp only [x214_5, x214_6, x214_7, x214_20, c1, ↓reduceIte]
  | succ k ih =>
    intro i X hi
    have c1 : nI i < 10 := nI_lt (a := i) (b := 10) (by omega) (by decide)
    have c2 : inB (nI i) 10 = true := nI_inB (by omega) (by decide)
    have c3 : (nI i).toNatClampNeg = i := nI_clamp (by omega)
    have e1 := ih (i + 1) (upd X i v) (by omega)
    have ex : (fun j => if i + 1 ≤ j ∧ j < 10 then v else upd X i v j) = (fun j => if i ≤ j ∧ j < 10 then v else X j) := by
      funext j
      by_cases z : j = i
      · subst z
        rw [if_neg (by omega), if_pos (by omega), upd_at, if_pos rfl]
      · by_cases y : i + 1 ≤ j ∧ j < 10
        · rw [if_pos y, if_pos (by omega)]
        · rw [if_neg y, if_neg (by omega), upd_at, if_neg z]
    rw [ex] at e1
    rw [x214_5]
    simp only [x214_6, x214_7, x214_10, x214_11, x214_12, x214_13, x214_14, x214_17, hset_at, aT_i, aN_i, aF_i, c1, c2, c3, hset_hset, nI_1, and_self, ↓reduceIte]
    exact e1
theorem sp_fill {v : Int32} (c : h.1 a = zr 0 10) : Rf d 214 0 [.ref a, .int v, noV, noV] [] h = some (none, hset h a (.inl (0, 10, .inl (fun j => if j < 10 then v else 0)))) := by
  have e := lp_fill (d := d) (h := h) (a := a) (v := v) 10 0 (fun _ => 0) (by omega)
  have hs : hset h a (.inl (0, 10, .inl (fun _ => 0))) = h := hset_self c
  rw [hs, nI_0] at e
  have ex : (fun j => if 0 ≤ j ∧ j < 10 then v else (0 : Int32)) = (fun j => if j < 10 then v else 0) := by
    funext j
    by_cases y : j < 10
    · rw [if_pos ⟨by omega, y⟩, if_pos y]
    · rw [if_neg (by omega), if_neg y]
  rw [ex] at e
  simp only [x214_0, x214_1, x214_2, x214_3, x214_4, c, zr, aT_i, aN_i, true_or, ↓reduceIte]
  exact e
/-- the first Knowings -/
theorem lp_kn0 (ho : 32 ≤ o) {C : va_E} (cC : cls C = 6) (k7 : oKr C 7 = true) (r7 : oR C 7 = o + 7) : ∀ (k w : Nat) (u : Nat → Option Nat) (h : AHp), w + k = 10 → h.1 o = C → h.1 (o + 7) = .inl (3, 10, .inr (.inr (.inr (.inr u)))) → h.2.1 = o + 11 + w → (∀ j, j < w → u j = some (o + 11 + j) ∧ h.1 (o + 11 + j) = .inr (4, [.int (nI j), .int 0])) → (∀ j, 10 ≤ j → u j = none) → ∃ h', Rf (d + 1) 39 98 [.ref o, .int (nI w)] [] h = Rf (d + 1) 39 125 [.ref o, .int (nI 10)] [] h' ∧ h'.1 (o + 7) = .inl (3, 10, .inr (.inr (.inr (.inr (krR (fun j => o + 11 + j)))))) ∧ (∀ j, j < 10 → h'.1 (o + 11 + j) = .inr (4, [.int (nI j), .int 0])) ∧ h'.2 = (o + 21, h.2.2 + 2 * k) ∧ ∀ p, p < o + 11 → ¬ p = o + 7 → h'.1 p = h.1 p := by
  intro k
  induction k with
  | zero =>
    intro w u h hw hc h7 hn hj hz
    have e0 : w = 10 := by omega
    subst e0
    have c1 : ¬ nI 10 < 10 := by decide
    have eu : u = krR (fun j => o + 11 + j) := by
      funext j
      unfold krR
      by_cases y : j < 10
      · rw [if_pos y]; exact (hj j y).1
      · rw [if_neg y]; exact hz j (by omega)
    refine ⟨h, by simp only [x39_98, x39_99, x39_101, c1, ↓reduceIte], by rw [h7, eu], fun j y => (hj j y).2, Prod.ext hn rfl, fun p _ _ => rfl⟩
  | succ k ih =>
    intro w u h hw hc h7 hn hj hz
    have c1 : nI w < 10 := nI_lt (a := w) (b := 10) (by omega) (by decide)
    have c2 : inB (nI w) 10 = true := nI_inB (by omega) (by decide)
    have c3 : (nI w).toNatClampNeg = w := nI_clamp (by omega)
    have e1 := i4_4 (d := d) (h := h) (w := nI w) (v := 0)
    have ncl : cls ((hnew h (.inr (4, [.int 0, .int 0])) 2).1 h.2.1) < 13 := by rw [hnew_new]; show 4 < 13; decide
    have n7 : (o + 7 = h.2.1) = False := by rw [hn]; simp; omega
    have n0 : (o = h.2.1) = False := by rw [hn]; simp; omega
    obtain ⟨h', q1, q2, q3, q4, q5⟩ := ih (w + 1) (va_up u w (some h.2.1)) (hset (hnew h (.inr (4, [.int (nI w), .int 0])) 2) (o + 7) (.inl (3, 10, .inr (.inr (.inr (.inr (va_up u w (some h.2.1)))))))) (by omega) (by rw [hset_ne (by omega), hnew_at, if_neg (by omega)]; exact hc) (by rw [hset_at, if_pos rfl]) (by show h.2.1 + 1 = _; omega) (fun j y => by
      unfold va_up
      by_cases z : j = w
      · subst z
        refine ⟨by rw [if_pos rfl, hn], ?_⟩
        rw [hset_ne (by omega), hnew_at, if_pos (by omega)]
      · obtain ⟨a1, a2⟩ := hj j (by omega)
        refine ⟨by rw [if_neg z]; exact a1, ?_⟩
        rw [hset_ne (by omega), hnew_at, if_neg (by omega)]
        exact a2) (fun j y => by
      unfold va_up
      rw [if_neg (by omega)]
      exact hz j y)
    refine ⟨h', ?_, q2, q3, q4.trans ?_, fun p hp hp7 => (q5 p hp hp7).trans ?_⟩
    · rw [x39_98]
      simp only [x39_99, x39_101, x39_104, x39_105, x39_108, x39_109, x39_112, x39_113, x39_114, x39_118, x39_119, x39_122, xc39_115 ncl e1, hc, cC, k7, r7, h7, hnew_at, hnew_new, n7, n0, aTq_k, c1, c2, c3, show isKn (.inr (4, [.int (nI w), .int 0])) = true from rfl, nI_1, and_self, ↓reduceIte]
      exact q1
    · show (o + 21, h.2.2 + 2 + 2 * k) = (o + 21, h.2.2 + 2 * (k + 1))
      congr 1
      omega
    · rw [hset_ne hp7, hnew_at, if_neg (by omega)]
end IP
