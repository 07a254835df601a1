/-! STEPS of the plain machine as equations: what each instruction comes to, with what is asked of the cells as a condition. -/
/-- stuck, or not looked at -/
noncomputable def Rx (d m pc : Nat) (ls st : List Value) (h : AHp) : Option (Option Value × AHp) := Rf d m pc ls st h
theorem stp_of {m pc : Nat} {e : En} {ls st : List Value} {h : AHp} (hc : cd m pc = some e) : stp m pc ls st h = stpI m pc e.2.1 e.2.2.1 e.2.2.2 ls st h := by rw [stp, hc]
theorem Rf_if {d m pc pc' : Nat} {ls st ls' st' : List Value} {h h' : AHp} {c : Prop} [Decidable c] (e : c → stp m pc ls st h = goOn pc' ls' st' h') : Rf d m pc ls st h = if c then Rf d m pc' ls' st' h' else Rx d m pc ls st h := by
  split
  · next hc => exact Rf_go (e hc)
  · rfl
theorem Rf_ife {d m pc : Nat} {ls st : List Value} {h : AHp} {v : Option Value} {c : Prop} [Decidable c] (e : c → stp m pc ls st h = ends v h) : Rf d m pc ls st h = if c then some (v, h) else Rx d m pc ls st h := by
  split
  · next hc => exact Rf_end (e hc)
  · rfl
theorem Rf_br {d m pc p q : Nat} {ls st st' : List Value} {h : AHp} {c : Prop} [Decidable c] (e : stp m pc ls st h = goOn (if c then p else q) ls st' h) : Rf d m pc ls st h = if c then Rf d m p ls st' h else Rf d m q ls st' h := by
  rw [Rf_go e]
  split <;> rfl
theorem Rf_brn {d m pc p q : Nat} {ls st st' : List Value} {h : AHp} {c : Prop} [Decidable c] (e : stp m pc ls st h = goOn (if (!decide c) = true then p else q) ls st' h) : Rf d m pc ls st h = if c then Rf d m q ls st' h else Rf d m p ls st' h := by
  rw [Rf_go e]
  by_cases hc : c <;> simp [hc]
theorem Rf_brd {d m pc p q : Nat} {ls st st' : List Value} {h : AHp} {c : Prop} [Decidable c] (e : stp m pc ls st h = goOn (if (decide c) = true then p else q) ls st' h) : Rf d m pc ls st h = if c then Rf d m p ls st' h else Rf d m q ls st' h := by
  rw [Rf_go e]
  by_cases hc : c <;> simp [hc]
-- cells, looked at by their kind
def oN (c : va_E) (k : Nat) : Int32 := match c with
  | .inr o => match o.2[k]? with
    | some (.int x) => x
    | _ => 0
  | _ => 0
def oR (c : va_E) (k : Nat) : Nat := match c with
  | .inr o => match o.2[k]? with
    | some (.ref x) => x
    | _ => 0
  | _ => 0
/-- an object that has in its k-th field a number -/
def oKi (c : va_E) (k : Nat) : Bool := match c with
  | .inr o => match o.2[k]? with
    | some (.int _) => true
    | _ => false
  | _ => false
def oKr (c : va_E) (k : Nat) : Bool := match c with
  | .inr o => match o.2[k]? with
    | some (.ref _) => true
    | _ => false
  | _ => false
/-- an object with n fields -/
def oL (c : va_E) : Nat := match c with
  | .inr o => o.2.length
  | _ => 0
def oSet (c : va_E) (k : Nat) (v : Value) : va_E := match c with
  | .inr o => .inr (o.1, o.2.set k v)
  | c => c
/-- a row: its kind, its places, what they hold -/
def aT (c : va_E) : Nat := match c with
  | .inl a => match a.2.2 with
    | .inl _ => a.1
    | _ => 98
  | _ => 97
def aTq (c : va_E) : Nat := match c with
  | .inl a => match a.2.2 with
    | .inr (.inr (.inr (.inr _))) => a.1
    | _ => 98
  | _ => 97
def aN (c : va_E) : Nat := match c with
  | .inl a => a.2.1
  | _ => 0
def aF (c : va_E) : Nat → Int32 := match c with
  | .inl a => match a.2.2 with
    | .inl f => f
    | _ => fun _ => 0
  | _ => fun _ => 0
def aG (c : va_E) : Nat → Option Nat := match c with
  | .inl a => match a.2.2 with
    | .inr (.inr (.inr (.inr f))) => f
    | _ => fun _ => none
  | _ => fun _ => none
theorem getI {m pc i len ci k : Nat} {a d : Nat} {ls st : List Value} {h : AHp} (hc : cd m pc = some (pc, .getfield i, len, [(ci, k)])) : Rf d m pc ls (.ref a :: st) h = if cls (h.1 a) = ci ∧ oKi (h.1 a) k = true then Rf d m (pc + 3) ls (.int (oN (h.1 a) k) :: st) h else Rx d m pc ls (.ref a :: st) h := by
  refine Rf_if fun hk => ?_
  rw [stp_of hc]
  obtain ⟨h1, h2⟩ := hk
  generalize he : h.1 a = e at h1 h2 ⊢
  rcases e with e | ⟨ci', fs⟩
  · cases h2
  · subst h1
    simp only [stpI, he, fVal, fIx, cls, List.find?_cons_of_pos, beq_self_eq_true, Option.map_some]
    simp only [oKi] at h2
    simp only [oN]
    cases hv : fs[k]? with
    | none => rw [hv] at h2; cases h2
    | some v => rw [hv] at h2; cases v <;> first | rfl | cases h2
theorem getR {m pc i len ci k : Nat} {a d : Nat} {ls st : List Value} {h : AHp} (hc : cd m pc = some (pc, .getfield i, len, [(ci, k)])) : Rf d m pc ls (.ref a :: st) h = if cls (h.1 a) = ci ∧ oKr (h.1 a) k = true then Rf d m (pc + 3) ls (.ref (oR (h.1 a) k) :: st) h else Rx d m pc ls (.ref a :: st) h := by
  refine Rf_if fun hk => ?_
  rw [stp_of hc]
  obtain ⟨h1, h2⟩ := hk
  generalize he : h.1 a = e at h1 h2 ⊢
  rcases e with e | ⟨ci', fs⟩
  · cases h2
  · subst h1
    simp only [stpI, he, fVal, fIx, cls, List.find?_cons_of_pos, beq_self_eq_true, Option.map_some]
    simp only [oKr] at h2
    simp only [oR]
    cases hv : fs[k]? with
    | none => rw [hv] at h2; cases h2
    | some v => rw [hv] at h2; cases v <;> first | rfl | cases h2
/-- a field of the same place in several classes -/
theorem getIk {m pc i len k : Nat} {info : List (Nat × Nat)} {a d : Nat} {ls st : List Value} {h : AHp} (hc : cd m pc = some (pc, .getfield i, len, info)) : Rf d m pc ls (.ref a :: st) h = if fIx info (cls (h.1 a)) = some k ∧ oKi (h.1 a) k = true then Rf d m (pc + 3) ls (.int (oN (h.1 a) k) :: st) h else Rx d m pc ls (.ref a :: st) h := by
  refine Rf_if fun hk => ?_
  rw [stp_of hc]
  obtain ⟨h1, h2⟩ := hk
  generalize he : h.1 a = e at h1 h2 ⊢
  rcases e with e | ⟨ci', fs⟩
  · cases h2
  · simp only [cls] at h1
    simp only [stpI, he, fVal, h1]
    simp only [oKi] at h2
    simp only [oN]
    cases hv : fs[k]? with
    | none => rw [hv] at h2; cases h2
    | some v => rw [hv] at h2; cases v <;> first | rfl | cases h2
/-- what is asked of a field that is written: by the tables -/
def fTy (m ci k : Nat) (ty : FieldType) : Bool := match clA[ci]? with
  | some r => decide (k < r.2.2) && decide (parseFieldDescriptor (r.2.1 k).2.2.1 = some ty) && ((r.2.1 k).2.2.2 == false || (decide ((mH m).1.name = "<init>") && decide ((r.2.1 k).1 = (mH m).1.cls)))
  | none => false
theorem fMay_i {m ci k : Nat} {v : Int32} (h : fTy m ci k .int = true) : fMay m ci k (.int v) = true := by
  unfold fTy at h
  unfold fMay
  split at h
  · next r hr =>
    simp only [Bool.and_eq_true, decide_eq_true_eq] at h
    obtain ⟨⟨h1, h2⟩, h3⟩ := h
    simp only [hr, h1, h2, h3, narrow, fits, Bool.and_true, decide_true]
  · cases h
theorem fMay_z {m ci k : Nat} {v : Int32} (h : fTy m ci k .boolean = true) (hv : v = 0 ∨ v = 1) : fMay m ci k (.int v) = true := by
  unfold fTy at h
  unfold fMay
  split at h
  · next r hr =>
    simp only [Bool.and_eq_true, decide_eq_true_eq] at h
    obtain ⟨⟨h1, h2⟩, h3⟩ := h
    simp only [hr, h1, h2, h3]
    rcases hv with rfl | rfl <;> decide
  · cases h
theorem fMay_o {m ci k a : Nat} {C : String} (h : fTy m ci k (.object C) = true) : fMay m ci k (.ref a) = true := by
  unfold fTy at h
  unfold fMay
  split at h
  · next r hr =>
    simp only [Bool.and_eq_true, decide_eq_true_eq] at h
    obtain ⟨⟨h1, h2⟩, h3⟩ := h
    simp only [hr, h1, h2, h3, narrow, fits, Value.isRef, Bool.and_true, decide_true]
  · cases h
theorem fMay_a {m ci k a : Nat} {t : FieldType} (h : fTy m ci k (.array t) = true) : fMay m ci k (.ref a) = true := by
  unfold fTy at h
  unfold fMay
  split at h
  · next r hr =>
    simp only [Bool.and_eq_true, decide_eq_true_eq] at h
    obtain ⟨⟨h1, h2⟩, h3⟩ := h
    simp only [hr, h1, h2, h3, narrow, fits, Value.isRef, Bool.and_true, decide_true]
  · cases h
theorem putV {m pc i len ci k N : Nat} {a d : Nat} {v : Value} {ls st : List Value} {h : AHp} (hc : cd m pc = some (pc, .putfield i, len, [(ci, k)])) (hN : nF ci = N) (hm : fMay m ci k v = true) : Rf d m pc ls (v :: .ref a :: st) h = if cls (h.1 a) = ci ∧ oL (h.1 a) = N then Rf d m (pc + 3) ls st (hset h a (oSet (h.1 a) k v)) else Rx d m pc ls (v :: .ref a :: st) h := by
  refine Rf_if fun hk => ?_
  rw [stp_of hc]
  obtain ⟨h1, h2⟩ := hk
  generalize he : h.1 a = e at h1 h2 ⊢
  rcases e with e | ⟨ci', fs⟩
  · subst hN
    simp only [cls] at h1
    subst h1
    simp only [fMay, clA] at hm
    cases hm
  · subst h1
    simp only [oL] at h2
    simp only [cls] at hN hm
    simp only [stpI, he, fPut, fIx, cls, List.find?_cons_of_pos, beq_self_eq_true, Option.map_some, h2, hN, hm, and_self, if_true, oSet]
theorem putVk {m pc i len ci k N : Nat} {info : List (Nat × Nat)} {a d : Nat} {v : Value} {ls st : List Value} {h : AHp} (hc : cd m pc = some (pc, .putfield i, len, info)) (hf : fIx info ci = some k) (hN : nF ci = N) (hm : fMay m ci k v = true) : Rf d m pc ls (v :: .ref a :: st) h = if cls (h.1 a) = ci ∧ oL (h.1 a) = N then Rf d m (pc + 3) ls st (hset h a (oSet (h.1 a) k v)) else Rx d m pc ls (v :: .ref a :: st) h := by
  refine Rf_if fun hk => ?_
  rw [stp_of hc]
  obtain ⟨h1, h2⟩ := hk
  generalize he : h.1 a = e at h1 h2 ⊢
  rcases e with e | ⟨ci', fs⟩
  · subst hN
    simp only [cls] at h1
    subst h1
    simp only [fMay, clA] at hm
    cases hm
  · subst h1
    simp only [oL] at h2
    simp only [cls] at hN hm hf
    simp only [stpI, he, fPut, hf, h2, hN, hm, and_self, if_true, oSet]
theorem ldI {m pc a d : Nat} {i : Int32} {ls st : List Value} {h : AHp} (hc : cd m pc = some (pc, .iaload, 1, [])) : Rf d m pc ls (.int i :: .ref a :: st) h = if (aT (h.1 a) = 0 ∨ aT (h.1 a) = 10) ∧ inB i (aN (h.1 a)) = true then Rf d m (pc + 1) ls (.int (aF (h.1 a) i.toNatClampNeg) :: st) h else Rx d m pc ls (.int i :: .ref a :: st) h := by
  refine Rf_if fun hk => ?_
  rw [stp_of hc]
  obtain ⟨h1, h2⟩ := hk
  generalize he : h.1 a = e at h1 h2 ⊢
  rcases e with ⟨t, n, f | f⟩ | e
  · simp only [aT, aN] at h1 h2
    have e1 : aI (.inl (t, n, .inl f)) 0 10 i = some (f i.toNatClampNeg) := if_pos ⟨h1, h2⟩
    simp only [stpI, he, e1, aF]
  · simp [aT] at h1
  · simp [aT] at h1
theorem ldB {m pc a d : Nat} {i : Int32} {ls st : List Value} {h : AHp} (hc : cd m pc = some (pc, .baload, 1, [])) : Rf d m pc ls (.int i :: .ref a :: st) h = if (aT (h.1 a) = 1 ∨ aT (h.1 a) = 2 ∨ aT (h.1 a) = 11) ∧ inB i (aN (h.1 a)) = true then Rf d m (pc + 1) ls (.int (aF (h.1 a) i.toNatClampNeg) :: st) h else Rx d m pc ls (.int i :: .ref a :: st) h := by
  refine Rf_if fun hk => ?_
  rw [stp_of hc]
  obtain ⟨h1, h2⟩ := hk
  generalize he : h.1 a = e at h1 h2 ⊢
  rcases e with ⟨t, n, f | f⟩ | e
  · simp only [aT, aN] at h1 h2
    have e1 : aB (.inl (t, n, .inl f)) i = some (f i.toNatClampNeg) := if_pos ⟨h1, h2⟩
    simp only [stpI, he, e1, aF]
  · simp [aT] at h1
  · simp [aT] at h1
theorem ldQ {m pc a d : Nat} {i : Int32} {ls st : List Value} {h : AHp} (hc : cd m pc = some (pc, .aaload, 1, [])) : Rf d m pc ls (.int i :: .ref a :: st) h = if aTq (h.1 a) = 3 ∧ inB i (aN (h.1 a)) = true ∧ (aG (h.1 a) i.toNatClampNeg).isSome = true then Rf d m (pc + 1) ls (.ref ((aG (h.1 a) i.toNatClampNeg).getD 0) :: st) h else Rx d m pc ls (.int i :: .ref a :: st) h := by
  refine Rf_if fun hk => ?_
  rw [stp_of hc]
  obtain ⟨h1, h2, h3⟩ := hk
  generalize he : h.1 a = e at h1 h2 h3 ⊢
  rcases e with ⟨t, n, f | f | f | f | f⟩ | e
  · simp [aTq] at h1
  · simp [aTq] at h1
  · simp [aTq] at h1
  · simp [aTq] at h1
  · simp only [aTq, aN, aG] at h1 h2 h3
    cases hf : f i.toNatClampNeg with
    | none => rw [hf] at h3; cases h3
    | some q =>
      have e1 : aQ (.inl (t, n, .inr (.inr (.inr (.inr f))))) i = some q := by rw [← hf]; exact if_pos ⟨h1, h2⟩
      simp only [stpI, he, e1, aG, hf, Option.getD_some]
  · simp [aTq] at h1
theorem stI {m pc a d : Nat} {i x : Int32} {ls st : List Value} {h : AHp} (hc : cd m pc = some (pc, .iastore, 1, [])) : Rf d m pc ls (.int x :: .int i :: .ref a :: st) h = if aT (h.1 a) = 0 ∧ inB i (aN (h.1 a)) = true then Rf d m (pc + 1) ls st (hset h a (.inl (0, aN (h.1 a), .inl (upd (aF (h.1 a)) i.toNatClampNeg x)))) else Rx d m pc ls (.int x :: .int i :: .ref a :: st) h := by
  refine Rf_if fun hk => ?_
  rw [stp_of hc]
  obtain ⟨h1, h2⟩ := hk
  generalize he : h.1 a = e at h1 h2 ⊢
  rcases e with ⟨t, n, f | f⟩ | e
  · simp only [aT, aN] at h1 h2
    subst h1
    have e1 : aPutI (.inl (0, n, .inl f)) i x = some (.inl (0, n, .inl (upd f i.toNatClampNeg x))) := if_pos ⟨rfl, h2⟩
    simp only [stpI, he, e1, aF, aN]
  · simp [aT] at h1
  · simp [aT] at h1
theorem stB {m pc a d : Nat} {i x : Int32} {ls st : List Value} {h : AHp} (hc : cd m pc = some (pc, .bastore, 1, [])) : Rf d m pc ls (.int x :: .int i :: .ref a :: st) h = if aT (h.1 a) = 1 ∧ inB i (aN (h.1 a)) = true then Rf d m (pc + 1) ls st (hset h a (.inl (1, aN (h.1 a), .inl (upd (aF (h.1 a)) i.toNatClampNeg (vp_nar .byte x))))) else if aT (h.1 a) = 2 ∧ inB i (aN (h.1 a)) = true then Rf d m (pc + 1) ls st (hset h a (.inl (2, aN (h.1 a), .inl (upd (aF (h.1 a)) i.toNatClampNeg (vp_nar .boolean x))))) else Rx d m pc ls (.int x :: .int i :: .ref a :: st) h := by
  split
  · next hk =>
    apply Rf_go
    rw [stp_of hc]
    obtain ⟨h1, h2⟩ := hk
    generalize he : h.1 a = e at h1 h2 ⊢
    rcases e with ⟨t, n, f | f⟩ | e
    · simp only [aT, aN] at h1 h2
      subst h1
      have e1 : aPutB (.inl (1, n, .inl f)) i x = some (.inl (1, n, .inl (upd f i.toNatClampNeg (vp_nar .byte x)))) := if_pos ⟨rfl, h2⟩
      simp only [stpI, he, e1, aF, aN]
    · simp [aT] at h1
    · simp [aT] at h1
  · refine Rf_if fun hk => ?_
    rw [stp_of hc]
    obtain ⟨h1, h2⟩ := hk
    generalize he : h.1 a = e at h1 h2 ⊢
    rcases e with ⟨t, n, f | f⟩ | e
    · simp only [aT, aN] at h1 h2
      subst h1
      have e1 : aPutB (.inl (2, n, .inl f)) i x = some (.inl (2, n, .inl (upd f i.toNatClampNeg (vp_nar .boolean x)))) := by
        simp only [aPutB]
        rw [if_neg (by simp), if_pos ⟨trivial, h2⟩]
      simp only [stpI, he, e1, aF, aN]
    · simp [aT] at h1
    · simp [aT] at h1
theorem stQ {m pc a v d : Nat} {i : Int32} {ls st : List Value} {h : AHp} (hc : cd m pc = some (pc, .aastore, 1, [])) : Rf d m pc ls (.ref v :: .int i :: .ref a :: st) h = if isKn (h.1 v) = true ∧ aTq (h.1 a) = 3 ∧ inB i (aN (h.1 a)) = true then Rf d m (pc + 1) ls st (hset h a (.inl (3, aN (h.1 a), .inr (.inr (.inr (.inr (va_up (aG (h.1 a)) i.toNatClampNeg (some v)))))))) else Rx d m pc ls (.ref v :: .int i :: .ref a :: st) h := by
  refine Rf_if fun hk => ?_
  rw [stp_of hc]
  obtain ⟨h0, h1, h2⟩ := hk
  generalize he : h.1 a = e at h1 h2 ⊢
  rcases e with ⟨t, n, f | f | f | f | f⟩ | e
  · simp [aTq] at h1
  · simp [aTq] at h1
  · simp [aTq] at h1
  · simp [aTq] at h1
  · simp only [aTq, aN] at h1 h2
    subst h1
    have e1 : aPutQ (.inl (3, n, .inr (.inr (.inr (.inr f))))) i v = some (.inl (3, n, .inr (.inr (.inr (.inr (va_up f i.toNatClampNeg (some v))))))) := if_pos ⟨rfl, h2⟩
    simp only [stpI, he, e1, h0, if_true, aG, aN]
  · simp [aTq] at h1
theorem alI {m pc a d : Nat} {ls st : List Value} {h : AHp} (hc : cd m pc = some (pc, .arraylength, 1, [])) : Rf d m pc ls (.ref a :: st) h = if aT (h.1 a) = 0 ∨ aT (h.1 a) = 1 ∨ aT (h.1 a) = 10 ∨ aT (h.1 a) = 11 then Rf d m (pc + 1) ls (.int (nI (aN (h.1 a))) :: st) h else Rx d m pc ls (.ref a :: st) h := by
  refine Rf_if fun h1 => ?_
  rw [stp_of hc]
  generalize he : h.1 a = e at h1 ⊢
  rcases e with ⟨t, n, f | f⟩ | e
  · simp only [aT] at h1
    simp only [stpI, he, aLen, h1, if_true, aN]
  · simp [aT] at h1
  · simp [aT] at h1
theorem insI {m pc i a d b : Nat} {info : List (Nat × Nat)} {ls st : List Value} {h : AHp} (hc : cd m pc = some (pc, .instanceof i, 3, info)) : Rf d m pc ls (.ref a :: st) h = if (fIx info (cls (h.1 a))).isSome = true then Rf d m (pc + 3) ls (.int (nI ((fIx info (cls (h.1 a))).getD 0)) :: st) h else Rx d m pc ls (.ref a :: st) h := by
  refine Rf_if fun h1 => ?_
  rw [stp_of hc]
  cases he : fIx info (cls (h.1 a)) with
  | none => rw [he] at h1; cases h1
  | some q => simp only [stpI, he, Option.getD_some]
theorem nwA {m pc t x d : Nat} {aty : ArrayType} {n : Int32} {ls st : List Value} {h : AHp} (hc : cd m pc = some (pc, .newarray aty, 2, [(t, x)])) : Rf d m pc ls (.int n :: st) h = if okN n = true then Rf d m (pc + 2) ls (.ref h.2.1 :: st) (hnew h (.inl (t, n.toNatClampNeg, .inl (fun _ => 0))) n.toNatClampNeg) else Rx d m pc ls (.int n :: st) h := by
  refine Rf_if fun h1 => ?_
  rw [stp_of hc]
  simp only [stpI, h1, if_true]
theorem nwQ {m pc t x i d : Nat} {n : Int32} {ls st : List Value} {h : AHp} (hc : cd m pc = some (pc, .anewarray i, 3, [(t, x)])) : Rf d m pc ls (.int n :: st) h = if okN n = true then Rf d m (pc + 3) ls (.ref h.2.1 :: st) (hnew h (.inl (t, n.toNatClampNeg, .inr (.inr (.inr (.inr (fun _ => none)))))) n.toNatClampNeg) else Rx d m pc ls (.int n :: st) h := by
  refine Rf_if fun h1 => ?_
  rw [stp_of hc]
  simp only [stpI, h1, if_true]
theorem divE {m pc d : Nat} {ins : Instr} {f : Int32 → Int32 → Int32} {x y : Int32} {ls st : List Value} {h : AHp} (hc : cd m pc = some (pc, ins, 1, [])) (hi : ∀ (ls st : List Value) (h : AHp), stpI m pc ins 1 [] ls st h = opD2 f (pc + 1) ls st h) : Rf d m pc ls (.int y :: .int x :: st) h = if ¬ y = 0 then Rf d m (pc + 1) ls (.int (f x y) :: st) h else Rx d m pc ls (.int y :: .int x :: st) h := by
  refine Rf_if fun h1 => ?_
  rw [stp_of hc, hi]
  simp only [opD2, h1, if_false]
theorem cpA {m pc i a b y d : Nat} {sp dp n : Int32} {ls st : List Value} {h : AHp} (hc : cd m pc = some (pc, .invokestatic i, 3, [(1000, y)])) (hl : st.length ≤ 8) : Rf d m pc ls (.int n :: .int dp :: .ref b :: .int sp :: .ref a :: st) h = if (copyC (h.1 a) (h.1 b) sp dp n).isSome = true then Rf d m (pc + 3) ls st (hset h b ((copyC (h.1 a) (h.1 b) sp dp n).getD noC)) else Rx d m pc ls (.int n :: .int dp :: .ref b :: .int sp :: .ref a :: st) h := by
  refine Rf_if fun h1 => ?_
  rw [stp_of hc]
  cases he : copyC (h.1 a) (h.1 b) sp dp n with
  | none => rw [he] at h1; cases h1
  | some q => simp only [stpI, inS, if_true, he, Option.getD_some, hl]
/-- calls: what the called method answers is known -/
theorem clS {m pc i x c d : Nat} {ls st as r : List Value} {h : AHp} {q : Option Value × AHp} (hc : cd m pc = some (pc, .invokestatic i, 3, [(x, c)])) (hx : (x == 1000) = false) (hp : popA (mH c).2.2.2 st = some (as, r)) (hl : r.length ≤ 8 ∧ (as ++ r).all isV = true) (hq : Rf d c 0 (padL c as) [] h = some q) : Rf (d + 1) m pc ls st h = Rf (d + 1) m (pc + 3) ls (q.1.toList ++ r) q.2 := by
  refine Rf_call (c := c) (as := as) ?_ hq
  rw [stp_of hc]
  have hx' : ¬ x = 1000 := by simpa using hx
  simp only [stpI, inS, if_neg hx', hp, if_pos hl]
theorem clV {m pc i x c0 c a d : Nat} {info : List (Nat × Nat)} {ls st as r : List Value} {h : AHp} {q : Option Value × AHp} (hc : cd m pc = some (pc, .invokevirtual i, 3, (x, c0) :: info)) (hp : popA ((mH c0).2.2.2 + 1) st = some (.ref a :: as, r)) (hl : r.length ≤ 8 ∧ (as ++ r).all isV = true) (hr : fIx ((x, c0) :: info) (cls (h.1 a)) = some c) (hq : Rf d c 0 (padL c (.ref a :: as)) [] h = some q) : Rf (d + 1) m pc ls st h = Rf (d + 1) m (pc + 3) ls (q.1.toList ++ r) q.2 := by
  refine Rf_call (c := c) (as := .ref a :: as) ?_ hq
  rw [stp_of hc]
  simp only [stpI, inV, hp, hr, if_pos hl]
theorem clP {m pc i x c a d : Nat} {ls st as r : List Value} {h : AHp} {q : Option Value × AHp} (hc : cd m pc = some (pc, .invokespecial i, 3, [(x, c)])) (hx : (x == 1001) = false) (hp : popA ((mH c).2.2.2 + 1) st = some (.ref a :: as, r)) (hl : r.length ≤ 8 ∧ (as ++ r).all isV = true) (hr : cls (h.1 a) < 13) (hq : Rf d c 0 (padL c (.ref a :: as)) [] h = some q) : Rf (d + 1) m pc ls st h = Rf (d + 1) m (pc + 3) ls (q.1.toList ++ r) q.2 := by
  refine Rf_call (c := c) (as := .ref a :: as) ?_ hq
  rw [stp_of hc]
  have hx' : ¬ x = 1001 := by simpa using hx
  simp only [stpI, inP, if_neg hx', hp]
  rw [if_pos ⟨hl.1, hr, hl.2⟩]
theorem swE {m pc d e : Nat} {ins : Instr} {len : Nat} {info : List (Nat × Nat)} {x : Int32} {ls st : List Value} {h : AHp} (hc : cd m pc = some (pc, ins, len, info)) (hi : stpI m pc ins len info ls (.int x :: st) h = goOn (swT x (info.drop 1) e) ls st h) : Rf d m pc ls (.int x :: st) h = Rf d m (swT x (info.drop 1) e) ls st h := by
  apply Rf_go
  rw [stp_of hc, hi]
theorem Rf_ite {d m p q : Nat} {ls st : List Value} {h : AHp} {c : Prop} [Decidable c] : Rf d m (if c then p else q) ls st h = if c then Rf d m p ls st h else Rf d m q ls st h := by split <;> rfl
theorem retI_int {v : Int32} : retI (some .int) v = true := by simp [retI, narrow]
theorem retI_z0 : retI (some .boolean) 0 = true := by decide
theorem retI_z1 : retI (some .boolean) 1 = true := by decide
theorem endA {m pc len : Nat} {info : List (Nat × Nat)} {ls : List Value} {x : Nat} {h : AHp} (c : cd m pc = some (pc, .areturn, len, info)) (hr : retA (mH m).2.2.1 = true) : stp m pc ls [.ref x] h = ends (some (.ref x)) h := by
  rw [stp_of c]
  show (if retA (mH m).2.2.1 = true then ends (some (.ref x)) h else none) = _
  rw [if_pos hr]
theorem endV {m pc len : Nat} {info : List (Nat × Nat)} {ls : List Value} {h : AHp} (c : cd m pc = some (pc, .return_, len, info)) (hr : (mH m).2.2.1.isNone = true) : stp m pc ls [] h = ends none h := by
  rw [stp_of c]
  show (if (mH m).2.2.1.isNone = true then ends none h else none) = _
  rw [if_pos hr]
