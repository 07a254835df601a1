-- deps: 76.loop
/-! THE TAPE taken; the model's reader begun and left. -/
section TP
variable {d o n g pt op md t pp : Nat} {h : AHp} {X A B : Nat → Int32} {u : Nat → Nat}
theorem MS_start (F : MF h o A B) : hset (hset (hset h o (oSet (h.1 o) 3 (.int 0))) o (oSet (oSet (h.1 o) 3 (.int 0)) 4 (.int 0))) o (oSet (oSet (oSet (h.1 o) 3 (.int 0)) 4 (.int 0)) 5 (.int 0)) = MS h o 0 0 0 A := by
  have hA : h.1 (o + 1) = .inl (0, 931, .inl A) := by
    have := cell_eq (c := h.1 (o + 1)) (t := 0) (by simp only [F]) (by decide)
    rw [show aN (h.1 (o + 1)) = 931 by simp only [F], show aF (h.1 (o + 1)) = A by simp only [F]] at this
    exact this
  rw [hset_hset, hset_hset]
  unfold hset MS oc3
  refine Prod.ext (funext fun a => ?_) rfl
  simp only
  by_cases e : a = o
  · simp only [e, ↓reduceIte]
    rfl
  · simp only [e, ↓reduceIte]
    by_cases e1 : a = o + 1
    · simp only [e1, ↓reduceIte]
      exact hA
    · simp only [e1, ↓reduceIte]
theorem MF_MS (F : MF h o A B) : MF (MS h o pt op md X) o X B := by
  have O := ocf (pt := pt) (op := op) (md := md) F
  have a : ∀ i, 1 < i → (MS h o pt op md X).1 (o + i) = h.1 (o + i) := fun i hi => MS_ne (by clear F O; omega) (by clear F O; omega)
  have c : ∀ k, ¬ k = 3 → ¬ k = 4 → ¬ k = 5 → oKr (oc3 (h.1 o) pt op md) k = oKr (h.1 o) k ∧ oR (oc3 (h.1 o) pt op md) k = oR (h.1 o) k ∧ oKi (oc3 (h.1 o) pt op md) k = oKi (h.1 o) k := fun k h1 h2 h3 => by
    unfold oc3
    rw [oKr_ne h3, oKr_ne h2, oKr_ne h1, oR_ne h3, oR_ne h2, oR_ne h1, oKi_ne h3, oKi_ne h2, oKi_ne h1]
    exact ⟨rfl, rfl, rfl⟩
  simp only [MF, MS_o, MS_1, a 2 (by decide), a 3 (by decide), a 4 (by decide), a 5 (by decide), a 6 (by decide), a 7 (by decide), O, aT_i, aN_i, aF_i,
    c 1 (by decide) (by decide) (by decide),
    c 2 (by decide) (by decide) (by decide),
    c 6 (by decide) (by decide) (by decide),
    c 7 (by decide) (by decide) (by decide),
    c 8 (by decide) (by decide) (by decide),
    c 9 (by decide) (by decide) (by decide),
    c 10 (by decide) (by decide) (by decide),
    c 11 (by decide) (by decide) (by decide),
    F, and_self]
theorem MM_MS {im rn : Int32} {T : Nat → Int32} (M : MM h o A B im rn T) : MM (MS h o pt op md X) o X B im rn T := by
  refine ⟨MF_MS M.1, ?_, ?_, ?_⟩
  · rw [MS_o]
    unfold oc3
    rw [oN_ne (by decide), oN_ne (by decide), oN_ne (by decide)]
    exact M.2.1
  · rw [MS_o]
    unfold oc3
    rw [oN_ne (by decide), oN_ne (by decide), oN_ne (by decide)]
    exact M.2.2.1
  · rw [MS_ne (by omega) (by omega)]
    exact M.2.2.2
theorem okN_n (ht : t < 100) : okN (nI t) = true := by
  have z1 : ¬ nI t < 0 := nI_pos (by omega)
  have z2 : (nI t).toNatClampNeg = t := nI_clamp (by omega)
  simp only [okN, z1, z2]
  simp
  omega
theorem mn_100 (ht : t < 100) : mn 100 (nI t) = nI t := by
  unfold mn
  rw [if_pos (show nI t < 100 from nI_lt (a := t) (b := 100) ht (by decide))]
/-- the tape's bytes, as far as it goes -/
theorem cp_part {s c : va_E} {f : Nat → Int32} (ht : t < 100) (s1 : aT s = 1) (s2 : aN s = 100) (s3 : aF s = f) (c1 : c = .inl (1, t, .inl (fun _ => 0))) (b : ∀ j, j < 100 → ∃ k, k ≤ 127 ∧ f j = nI k) : copyC s c 0 0 (nI t) = some (.inl (1, t, .inl (va_cpy f (fun _ => 0) 0 0 t))) := by
  have hs := cell_eq s1 (by decide)
  rw [s2, s3] at hs
  rw [hs, c1]
  have k1 : ¬ nI t < 0 := nI_pos (by omega)
  have k2 : (nI t).toNatClampNeg = t := nI_clamp (by omega)
  have z2 : (0 : Int32).toNatClampNeg = 0 := by decide
  show (if _ then _ else _) = _
  rw [if_pos ⟨rfl, by decide, by decide, by decide, k1, by rw [k2, z2]; omega, by rw [k2, z2]; omega, fun _ i hi => by
    rw [k2] at hi
    rw [z2]
    obtain ⟨k, hk, ek⟩ := b (0 + i) (by omega)
    rw [ek]
    exact fit_b k hk⟩, k2, z2]
theorem sp_takeTape (F : PP h pp A) (Q : RP A) (h4 : A 4 = nI t) (ht : t < 100) (hpp : pp + 5 < h.2.1) : ∃ h', Rf (d + 2) 79 0 [.ref pp, noV] [] h = some (some (.ref h.2.1), h') ∧ PP h' pp (upd A 4 0) ∧ aT (h'.1 h.2.1) = 1 ∧ aN (h'.1 h.2.1) = t ∧ (∀ i, i < t → aF (h'.1 h.2.1) i = A (126 + i)) ∧ h'.2 = (h.2.1 + 1, h.2.2 + t) ∧ ∀ p, p < h.2.1 → ¬ p = pp → h'.1 p = h.1 p := by
  have k2 : (nI t).toNatClampNeg = t := nI_clamp (by omega)
  have nz : (nI t = 100) = False := eq_false fun z => by
    have := (nI_eq (a := t) (b := 100) (by omega) (by decide)).mp z
    omega
  have fo : cls (h.1 pp) = 7 ∧ oL (h.1 pp) = 9 ∧ oKr (h.1 pp) 0 = true ∧ oR (h.1 pp) 0 = pp + 1 ∧ oKi (h.1 pp) 1 = true ∧ oN (h.1 pp) 1 = nI t := by
    rw [← h4]
    simp only [F, and_self]
  have ft : aT (h.1 (pp + 1)) = 1 ∧ aN (h.1 (pp + 1)) = 100 ∧ aF (h.1 (pp + 1)) = sub A 126 100 := by simp only [F, and_self]
  generalize hq : h.2.1 = q at hpp
  have nq : (pp = q) = False := by
    clear F
    simp
    omega
  have nq1 : (pp + 1 = q) = False := by
    clear F
    simp
    omega
  have cp := cp_part (s := h.1 (pp + 1)) (c := .inl (1, t, .inl (fun _ => 0))) (f := sub A 126 100) ht ft.1 ft.2.1 ft.2.2 rfl (fun j hj => by rw [sub_at hj]; exact Q.2.2.2.2.2 j hj)
  have e1 : Rf (d + 1) 215 0 [.ref (pp + 1), .int (nI t), noV] [] h = some (some (.ref q), hset (hnew h (.inl (1, t, .inl (fun _ => 0))) t) q (.inl (1, t, .inl (va_cpy (sub A 126 100) (fun _ => 0) 0 0 t)))) := by
    have m1 := fun hh => sp_min (d := d) (a := 100) (b := nI t) (h := hh)
    simp only [mn_100 ht] at m1
    have n100 : nI 100 = 100 := rfl
    simp only [x215_0, x215_1, x215_2, x215_3, x215_14, x215_15, x215_17, x215_18, x215_19, x215_20, x215_21, x215_22, x215_23, x215_24, x215_28, x215_31, x215_32, ft, hq, nz, n100, okN_n ht, k2, xc215_25 (m1 _), hnew_at, nq1, cp, Option.isSome_some, Option.getD_some, true_or, or_true, and_self, ↓reduceIte]
  generalize eB : hset (hnew h (.inl (1, t, .inl (fun _ => 0))) t) q (.inl (1, t, .inl (va_cpy (sub A 126 100) (fun _ => 0) 0 0 t))) = hB at e1
  have gB : ∀ p, ¬ p = q → hB.1 p = h.1 p := fun p hp => by
    rw [← eB, hset_ne hp, hnew_at, if_neg (by rw [hq]; exact hp)]
  have gq : hB.1 q = .inl (1, t, .inl (va_cpy (sub A 126 100) (fun _ => 0) 0 0 t)) := by
    rw [← eB, hset_at, if_pos rfl]
  have zB : hB.2 = (q + 1, h.2.2 + t) := by
    rw [← eB]
    show (h.2.1 + 1, h.2.2 + t) = _
    rw [hq]
  have PB : PP hB pp A := PP_ne F (fun p a b => gB p (by clear F; omega))
  have cpp : hB.1 pp = h.1 pp := gB pp (by clear F PB; omega)
  refine ⟨hset hB pp (oSet (hB.1 pp) 1 (.int 0)), ?_, PP_sgn PB 0, ?_, ?_, fun i hi => ?_, zB, fun p hp hpp2 => ?_⟩
  · simp only [x79_0, x79_1, x79_4, x79_5, x79_11, x79_12, x79_13, x79_14, x79_17, x79_18, xc79_8 e1, fo, cpp, and_self, ↓reduceIte]
  · rw [hset_ne (by clear F PB; omega), gq]; rfl
  · rw [hset_ne (by clear F PB; omega), gq]; rfl
  · rw [hset_ne (by clear F PB; omega), gq]
    show va_cpy (sub A 126 100) (fun _ => 0) 0 0 t i = _
    unfold va_cpy
    rw [if_pos ⟨by omega, by omega⟩, sub_at (by omega)]
    congr 1
    omega
  · rw [hset_ne hpp2, gB p (by omega)]
theorem sp_moveInto {q q0 n : Nat} {kn : Nat → Nat} (F : OF h o A q0 kn) (R0 : A 0 = nI n) (hn : n ≤ 10) (h1 : A 1 = nI g) : Rf d 45 0 [.ref o, .ref q] [] h = some (some (.int (nI g)), hset (hset h o (oSet (h.1 o) 11 (.ref q))) o (oSet ((hset h o (oSet (h.1 o) 11 (.ref q))).1 o) 10 (.int (nI (g + 1))))) := by
  have F1 := OF_hq F q
  have F2 := OF_hou F1 R0 hn (nI (g + 1))
  have e1 : nI (g + 1) - 1 = nI g := pk_sub (b := 1) (by clear F F1 F2; omega)
  have e2 : (upd A 1 (nI (g + 1))) 1 = nI (g + 1) := if_pos rfl
  simp only [x45_0, x45_1, x45_2, x45_5, x45_6, x45_7, x45_10, x45_11, x45_12, x45_15, x45_16, x45_19, x45_20, x45_21, F, F1, F2, h1, nI_1, e2, e1, and_self, ↓reduceIte]
end TP
