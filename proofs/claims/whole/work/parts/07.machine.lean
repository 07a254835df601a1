/-! A PLAIN MACHINE OF OUR OWN: its cells are a function of places, its code is the tables of 02; what it does is proved to be what the machine of the Statement does (part 05). -/
abbrev AHp : Type := (Nat → va_E) × Nat × Nat
/-- nothing lies there -/
def noC : va_E := .inl (99, 0, .inl (fun _ => 0))
def hset (h : AHp) (p : Nat) (c : va_E) : AHp := (fun q => if q = p then c else h.1 q, h.2)
def hnew (h : AHp) (c : va_E) (k : Nat) : AHp := (fun q => if q = h.2.1 then c else h.1 q, h.2.1 + 1, h.2.2 + k)
/-- no value: a local that holds none -/
def noV : Value := .retAddr 0
/-- what a step comes to: it goes on; it answers; it calls -/
abbrev AOut : Type := Option ((Nat × List Value × List Value × AHp) ⊕ (Option Value × AHp) ⊕ (Nat × List Value × Nat × List Value × List Value × AHp))
def goOn (pc : Nat) (ls st : List Value) (h : AHp) : AOut := some (.inl (pc, ls, st, h))
def ends (v : Option Value) (h : AHp) : AOut := some (.inr (.inl (v, h)))
def calls (c : Nat) (as : List Value) (pc : Nat) (ls st : List Value) (h : AHp) : AOut := some (.inr (.inr (c, as, pc, ls, st, h)))
def loadI (pc i : Nat) (ls st : List Value) (h : AHp) : AOut := match ls[i]? with
  | some (.int x) => goOn pc ls (.int x :: st) h
  | _ => none
def loadA (pc i : Nat) (ls st : List Value) (h : AHp) : AOut := match ls[i]? with
  | some (.ref x) => goOn pc ls (.ref x :: st) h
  | _ => none
def storeI (pc i : Nat) (ls st : List Value) (h : AHp) : AOut := match st with
  | .int x :: st => if i < ls.length then goOn pc (ls.set i (.int x)) st h else none
  | _ => none
def storeA (pc i : Nat) (ls st : List Value) (h : AHp) : AOut := match st with
  | .ref x :: st => if i < ls.length then goOn pc (ls.set i (.ref x)) st h else none
  | _ => none
def opI1 (f : Int32 → Int32) (pc : Nat) (ls st : List Value) (h : AHp) : AOut := match st with
  | .int x :: st => goOn pc ls (.int (f x) :: st) h
  | _ => none
def opI2 (f : Int32 → Int32 → Int32) (pc : Nat) (ls st : List Value) (h : AHp) : AOut := match st with
  | .int y :: .int x :: st => goOn pc ls (.int (f x y) :: st) h
  | _ => none
def opD2 (f : Int32 → Int32 → Int32) (pc : Nat) (ls st : List Value) (h : AHp) : AOut := match st with
  | .int y :: .int x :: st => if y = 0 then none else goOn pc ls (.int (f x y) :: st) h
  | _ => none
def remI (x y : Int32) : Int32 := x - x / y * y
/-- is it so (a test of one number)? -/
def if1 (c : ClassFile.Cond) (x : Int32) : Bool := match c with
  | .eq => decide (x = 0)
  | .ne => !decide (x = 0)
  | .lt => decide (x < 0)
  | .ge => !decide (x < 0)
  | .gt => decide (0 < x)
  | .le => !decide (0 < x)
def if2 (c : ClassFile.Cond) (x y : Int32) : Bool := match c with
  | .eq => decide (x = y)
  | .ne => !decide (x = y)
  | .lt => decide (x < y)
  | .ge => !decide (x < y)
  | .gt => decide (y < x)
  | .le => !decide (y < x)
def br1 (c : ClassFile.Cond) (pc tgt : Nat) (ls st : List Value) (h : AHp) : AOut := match st with
  | .int x :: st => goOn (if if1 c x then tgt else pc) ls st h
  | _ => none
def br2 (c : ClassFile.Cond) (pc tgt : Nat) (ls st : List Value) (h : AHp) : AOut := match st with
  | .int y :: .int x :: st => goOn (if if2 c x y then tgt else pc) ls st h
  | _ => none
def fVal (c : va_E) (info : List (Nat × Nat)) : Option Value := match c with
  | .inr o => match fIx info o.1 with
    | some k => o.2[k]?
    | none => none
  | .inl _ => none
/-- may that be written into the k-th field of an object of class ci (in the method m)? -/
def fMay (m ci k : Nat) (v : Value) : Bool := match clA[ci]? with
  | some r => decide (k < r.2.2) && (match parseFieldDescriptor (r.2.1 k).2.2.1 with
      | some ty => (decide (narrow ty v = v)) && fits ty v
      | none => false) && ((r.2.1 k).2.2.2 == false || (decide ((mH m).1.name = "<init>") && decide ((r.2.1 k).1 = (mH m).1.cls)))
  | none => false
def fPut (m : Nat) (c : va_E) (info : List (Nat × Nat)) (v : Value) : Option va_E := match c with
  | .inr o => match fIx info o.1 with
    | some k => if o.2.length = nF o.1 ∧ fMay m o.1 k v = true then some (.inr (o.1, o.2.set k v)) else none
    | none => none
  | .inl _ => none
def inB (i : Int32) (n : Nat) : Bool := !decide (i < 0) && decide (i.toNatClampNeg < n)
/-- kinds of rows: 0 of ints, 1 of bytes, 2 of truth values, 3 of Knowings; 10 the script, 11 a constant text's bytes -/
def aI (c : va_E) (t1 t2 : Nat) (i : Int32) : Option Int32 := match c with
  | .inl (t, n, .inl f) => if (t = t1 ∨ t = t2) ∧ inB i n = true then some (f i.toNatClampNeg) else none
  | _ => none
def aB (c : va_E) (i : Int32) : Option Int32 := match c with
  | .inl (t, n, .inl f) => if (t = 1 ∨ t = 2 ∨ t = 11) ∧ inB i n = true then some (f i.toNatClampNeg) else none
  | _ => none
def aQ (c : va_E) (i : Int32) : Option Nat := match c with
  | .inl (t, n, .inr (.inr (.inr (.inr f)))) => if t = 3 ∧ inB i n = true then f i.toNatClampNeg else none
  | _ => none
def aLen (c : va_E) : Option Int32 := match c with
  | .inl (t, n, .inl _) => if t = 0 ∨ t = 1 ∨ t = 10 ∨ t = 11 then some (nI n) else none
  | _ => none
def aPutI (c : va_E) (i x : Int32) : Option va_E := match c with
  | .inl (t, n, .inl f) => if t = 0 ∧ inB i n = true then some (.inl (t, n, .inl (upd f i.toNatClampNeg x))) else none
  | _ => none
def aPutB (c : va_E) (i x : Int32) : Option va_E := match c with
  | .inl (t, n, .inl f) => if t = 1 ∧ inB i n = true then some (.inl (t, n, .inl (upd f i.toNatClampNeg (vp_nar .byte x)))) else
      if t = 2 ∧ inB i n = true then some (.inl (t, n, .inl (upd f i.toNatClampNeg (vp_nar .boolean x)))) else none
  | _ => none
/-- the classes of Knowings -/
def isKn (c : va_E) : Bool := match c with
  | .inr (ci, _) => ci == 0 || ci == 1 || ci == 2 || ci == 4 || ci == 5 || ci == 8 || ci == 9
  | _ => false
def aPutQ (c : va_E) (i : Int32) (v : Nat) : Option va_E := match c with
  | .inl (t, n, .inr (.inr (.inr (.inr f)))) => if t = 3 ∧ inB i n = true then some (.inl (t, n, .inr (.inr (.inr (.inr (va_up f i.toNatClampNeg (some v))))))) else none
  | _ => none
def okN (n : Int32) : Bool := !decide (n < 0) && decide (n.toNatClampNeg ≤ 100000)
def copyC (s t : va_E) (sp dp n : Int32) : Option va_E := match s, t with
  | .inl (t1, n1, .inl f), .inl (t2, n2, .inl g) => if t1 = t2 ∧ t1 < 2 ∧ ¬ sp < 0 ∧ ¬ dp < 0 ∧ ¬ n < 0 ∧ sp.toNatClampNeg + n.toNatClampNeg ≤ n1 ∧ dp.toNatClampNeg + n.toNatClampNeg ≤ n2 ∧ (t1 = 1 → ∀ i, i < n.toNatClampNeg → fits .byte (.int (f (sp.toNatClampNeg + i))) = true) then some (.inl (t2, n2, .inl (va_cpy f g sp.toNatClampNeg dp.toNatClampNeg n.toNatClampNeg))) else none
  | _, _ => none
def isV (v : Value) : Bool := match v with
  | .int _ => true
  | .ref _ => true
  | .retAddr n => n == 1
  | _ => false
def popA : Nat → List Value → Option (List Value × List Value)
  | 0, st => some ([], st)
  | n + 1, v :: st => match popA n st with
    | some (as, r) => some (as ++ [v], r)
    | none => none
  | _ + 1, [] => none
def padL (c : Nat) (as : List Value) : List Value := as ++ List.replicate ((mH c).2.1 - as.length) noV
def inS (info : List (Nat × Nat)) (pc : Nat) (ls st : List Value) (h : AHp) : AOut := match info with
  | [(k, c)] => if k = 1000 then (match st with
      | .int n :: .int dp :: .ref b :: .int sp :: .ref a :: st => match copyC (h.1 a) (h.1 b) sp dp n with
        | some e => if st.length ≤ 8 then goOn pc ls st (hset h b e) else none
        | none => none
      | _ => none) else match popA (mH c).2.2.2 st with
      | some (as, r) => if r.length ≤ 8 ∧ (as ++ r).all isV = true then calls c as pc ls r h else none
      | none => none
  | _ => none
def cls (c : va_E) : Nat := match c with
  | .inr o => o.1
  | .inl _ => 99
def inV (info : List (Nat × Nat)) (pc : Nat) (ls st : List Value) (h : AHp) : AOut := match info with
  | [] => none
  | (_, c0) :: _ => match popA ((mH c0).2.2.2 + 1) st with
    | some (.ref a :: as, r) => match fIx info (cls (h.1 a)) with
      | some c => if r.length ≤ 8 ∧ (as ++ r).all isV = true then calls c (.ref a :: as) pc ls r h else none
      | none => none
    | _ => none
def inP (info : List (Nat × Nat)) (pc : Nat) (ls st : List Value) (h : AHp) : AOut := match info with
  | [(k, c)] => if k = 1001 then (match st with
      | .ref _ :: st => if st.length ≤ 8 then goOn pc ls st h else none
      | _ => none) else match popA ((mH c).2.2.2 + 1) st with
      | some (.ref a :: as, r) => if r.length ≤ 8 ∧ cls (h.1 a) < 13 ∧ (as ++ r).all isV = true then calls c (.ref a :: as) pc ls r h else none
      | _ => none
  | _ => none
def defV (ci : Nat) : List Value := match clA[ci]? with
  | some r => (List.range r.2.2).map (fun k => match parseFieldDescriptor (r.2.1 k).2.2.1 with
      | some ty => defaultValue ty
      | none => .null)
  | none => []
def swT (x : Int32) (pairs : List (Nat × Nat)) (d : Nat) : Nat := match pairs with
  | [] => d
  | (k, t) :: r => if x = nI k then t else swT x r d
def retA (ty : Option FieldType) : Bool := match ty with
  | some (.object _) => true
  | some (.array _) => true
  | _ => false
def retI (ty : Option FieldType) (v : Int32) : Bool := match ty with
  | some t => decide (narrow t (.int v) = .int v)
  | none => false
/-- one instruction -/
def stpI (m pc : Nat) (ins : Instr) (len : Nat) (info : List (Nat × Nat)) (ls st : List Value) (h : AHp) : AOut := match ins with
  | .iload_n k => loadI (pc + 1) k ls st h
  | .iload k => loadI (pc + 2) k ls st h
  | .aload_n k => loadA (pc + 1) k ls st h
  | .aload k => loadA (pc + 2) k ls st h
  | .istore_n k => storeI (pc + 1) k ls st h
  | .istore k => storeI (pc + 2) k ls st h
  | .astore_n k => storeA (pc + 1) k ls st h
  | .astore k => storeA (pc + 2) k ls st h
  | .iinc k n => match ls[k]? with
    | some (.int x) => goOn (pc + 3) (ls.set k (.int (x + Int32.ofInt n))) st h
    | _ => none
  | .iconst n => goOn (pc + 1) ls (.int (Int32.ofInt n) :: st) h
  | .bipush n => goOn (pc + 2) ls (.int (Int8.ofInt n).toInt32 :: st) h
  | .sipush n => goOn (pc + 3) ls (.int (Int16.ofInt n).toInt32 :: st) h
  | .iadd => opI2 (· + ·) (pc + 1) ls st h
  | .isub => opI2 (· - ·) (pc + 1) ls st h
  | .imul => opI2 (· * ·) (pc + 1) ls st h
  | .iand => opI2 (· &&& ·) (pc + 1) ls st h
  | .ior => opI2 (· ||| ·) (pc + 1) ls st h
  | .ixor => opI2 (· ^^^ ·) (pc + 1) ls st h
  | .ishl => opI2 (fun x y => x <<< (y &&& 31)) (pc + 1) ls st h
  | .ishr => opI2 (fun x y => x >>> (y &&& 31)) (pc + 1) ls st h
  | .iushr => opI2 (fun x y => (x.toUInt32 >>> (y.toUInt32 &&& Int32.toUInt32 31)).toInt32) (pc + 1) ls st h
  | .idiv => opD2 (· / ·) (pc + 1) ls st h
  | .irem => opD2 remI (pc + 1) ls st h
  | .ineg => opI1 (fun x => -x) (pc + 1) ls st h
  | .i2b => opI1 (fun x => x.toInt8.toInt32) (pc + 1) ls st h
  | .i2c => opI1 (fun x => (x.toUInt32 % 65536).toInt32) (pc + 1) ls st h
  | .dup => match st with
    | .int x :: st => goOn (pc + 1) ls (.int x :: .int x :: st) h
    | .ref x :: st => goOn (pc + 1) ls (.ref x :: .ref x :: st) h
    | _ => none
  | .pop => match st with
    | .int _ :: st => goOn (pc + 1) ls st h
    | .ref _ :: st => goOn (pc + 1) ls st h
    | _ => none
  | .dup_x1 => match st with
    | .int x :: .ref y :: st => goOn (pc + 1) ls (.int x :: .ref y :: .int x :: st) h
    | _ => none
  | .dup_x2 => match st with
    | .int x :: .int y :: .ref z :: st => goOn (pc + 1) ls (.int x :: .int y :: .ref z :: .int x :: st) h
    | _ => none
  | .dup2 => match st with
    | .int y :: .ref z :: st => goOn (pc + 1) ls (.int y :: .ref z :: .int y :: .ref z :: st) h
    | _ => none
  | .ifCond c _ => match info with
    | [(t, _)] => br1 c (pc + 3) t ls st h
    | _ => none
  | .if_icmp c _ => match info with
    | [(t, _)] => br2 c (pc + 3) t ls st h
    | _ => none
  | .goto _ => match info with
    | [(t, _)] => goOn t ls st h
    | _ => none
  | .tableswitch _ _ _ _ => match info, st with
    | (_, d) :: r, .int x :: st => goOn (swT x r d) ls st h
    | _, _ => none
  | .lookupswitch _ _ => match info, st with
    | (_, d) :: r, .int x :: st => goOn (swT x r d) ls st h
    | _, _ => none
  | .getfield _ => match st with
    | .ref a :: st => match fVal (h.1 a) info with
      | some v => goOn (pc + 3) ls (v :: st) h
      | none => none
    | _ => none
  | .putfield _ => match st with
    | v :: .ref a :: st => match fPut m (h.1 a) info v with
      | some e => goOn (pc + 3) ls st (hset h a e)
      | none => none
    | _ => none
  | .getstatic _ => match info with
    | [(0, _)] => goOn (pc + 3) ls (.int 1 :: st) h
    | [(1, _)] => goOn (pc + 3) ls (.retAddr 1 :: st) h
    | _ => none
  | .ldc _ => match info with
    | [(1, p)] => goOn (pc + 2) ls (.ref p :: st) h
    | _ => none
  | .new _ => match info with
    | [(ci, n)] => goOn (pc + 3) ls (.ref h.2.1 :: st) (hnew h (.inr (ci, defV ci)) n)
    | _ => none
  | .newarray _ => match info, st with
    | [(t, _)], .int n :: st => if okN n = true then goOn (pc + 2) ls (.ref h.2.1 :: st) (hnew h (.inl (t, n.toNatClampNeg, .inl (fun _ => 0))) n.toNatClampNeg) else none
    | _, _ => none
  | .anewarray _ => match info, st with
    | [(t, _)], .int n :: st => if okN n = true then goOn (pc + 3) ls (.ref h.2.1 :: st) (hnew h (.inl (t, n.toNatClampNeg, .inr (.inr (.inr (.inr (fun _ => none)))))) n.toNatClampNeg) else none
    | _, _ => none
  | .arraylength => match st with
    | .ref a :: st => match aLen (h.1 a) with
      | some n => goOn (pc + 1) ls (.int n :: st) h
      | none => none
    | _ => none
  | .iaload => match st with
    | .int i :: .ref a :: st => match aI (h.1 a) 0 10 i with
      | some x => goOn (pc + 1) ls (.int x :: st) h
      | none => none
    | _ => none
  | .baload => match st with
    | .int i :: .ref a :: st => match aB (h.1 a) i with
      | some x => goOn (pc + 1) ls (.int x :: st) h
      | none => none
    | _ => none
  | .aaload => match st with
    | .int i :: .ref a :: st => match aQ (h.1 a) i with
      | some q => goOn (pc + 1) ls (.ref q :: st) h
      | none => none
    | _ => none
  | .iastore => match st with
    | .int x :: .int i :: .ref a :: st => match aPutI (h.1 a) i x with
      | some e => goOn (pc + 1) ls st (hset h a e)
      | none => none
    | _ => none
  | .bastore => match st with
    | .int x :: .int i :: .ref a :: st => match aPutB (h.1 a) i x with
      | some e => goOn (pc + 1) ls st (hset h a e)
      | none => none
    | _ => none
  | .aastore => match st with
    | .ref v :: .int i :: .ref a :: st => if isKn (h.1 v) = true then (match aPutQ (h.1 a) i v with
      | some e => goOn (pc + 1) ls st (hset h a e)
      | none => none) else none
    | _ => none
  | .instanceof _ => match st with
    | .ref a :: st => match fIx info (cls (h.1 a)) with
      | some b => goOn (pc + 3) ls (.int (nI b) :: st) h
      | none => none
    | _ => none
  | .invokestatic _ => inS info (pc + 3) ls st h
  | .invokevirtual _ => inV info (pc + 3) ls st h
  | .invokespecial _ => inP info (pc + 3) ls st h
  | .ireturn => match st with
    | [.int v] => if retI (mH m).2.2.1 v = true then ends (some (.int v)) h else none
    | _ => none
  | .areturn => match st with
    | [.ref v] => if retA (mH m).2.2.1 = true then ends (some (.ref v)) h else none
    | _ => none
  | .return_ => match st with
    | [] => if (mH m).2.2.1.isNone = true then ends none h else none
    | _ => none
  | _ => none
def stp (m pc : Nat) (ls st : List Value) (h : AHp) : AOut := match cd m pc with
  | some e => stpI m pc e.2.1 e.2.2.1 e.2.2.2 ls st h
  | none => none
/-- n steps, at most d calls deep -/
def run : Nat → Nat → Nat → Nat → List Value → List Value → AHp → Option (Option Value × AHp)
  | 0, _, _, _, _, _, _ => none
  | n + 1, d, m, pc, ls, st, h => match stp m pc ls st h with
    | none => none
    | some (.inl (pc', ls', st', h')) => run n d m pc' ls' st' h'
    | some (.inr (.inl r)) => some r
    | some (.inr (.inr (c, as, pc', ls', st', h'))) => match d with
      | 0 => none
      | d + 1 => match run n d c 0 (padL c as) [] h' with
        | none => none
        | some r => run n (d + 1) m pc' ls' (r.1.toList ++ st') r.2
theorem run_more : ∀ (n d m pc : Nat) (ls st : List Value) (h : AHp) (r : Option Value × AHp), run n d m pc ls st h = some r → run (n + 1) d m pc ls st h = some r := by
  intro n
  induction n with
  | zero => intro d m pc ls st h r e; cases e
  | succ n ih =>
    intro d m pc ls st h r e
    cases hs : stp m pc ls st h with
    | none => rw [run, hs] at e; cases e
    | some o =>
      rw [run, hs] at e ⊢
      rcases o with ⟨pc', ls', st', h'⟩ | q | ⟨c, as, pc', ls', st', h'⟩
      · exact ih _ _ _ _ _ _ _ e
      · exact e
      · cases d with
        | zero => cases e
        | succ d =>
          simp only at e ⊢
          cases h2 : run n d c 0 (padL c as) [] h' with
          | none => rw [h2] at e; cases e
          | some r2 =>
            rw [h2] at e
            rw [ih _ _ _ _ _ _ _ h2]
            exact ih _ _ _ _ _ _ _ e
theorem run_le {n k d m pc : Nat} {ls st : List Value} {h : AHp} {r : Option Value × AHp} (hk : n ≤ k) (e : run n d m pc ls st h = some r) : run k d m pc ls st h = some r := by
  induction hk with
  | refl => exact e
  | step _ ih => exact run_more _ _ _ _ _ _ _ _ ih
theorem run_one {n k d m pc : Nat} {ls st : List Value} {h : AHp} {r r2 : Option Value × AHp} (e : run n d m pc ls st h = some r) (e2 : run k d m pc ls st h = some r2) : r = r2 := by
  rcases Nat.le_total n k with q | q
  · exact Option.some.inj ((run_le q e).symm.trans e2)
  · exact Option.some.inj (e.symm.trans (run_le q e2))

noncomputable def Rf (d m pc : Nat) (ls st : List Value) (h : AHp) : Option (Option Value × AHp) := @dite _ (∃ r, ∃ n, run n d m pc ls st h = some r) (Classical.propDecidable _) (fun hh => some hh.choose) (fun _ => none)
theorem Rf_ex {d m pc : Nat} {ls st : List Value} {h : AHp} {r : Option Value × AHp} (e : Rf d m pc ls st h = some r) : ∃ n, run n d m pc ls st h = some r := by
  unfold Rf at e
  split at e
  · next hh => rw [← Option.some.inj e]; exact hh.choose_spec
  · cases e
theorem Rf_of {n d m pc : Nat} {ls st : List Value} {h : AHp} {r : Option Value × AHp} (e : run n d m pc ls st h = some r) : Rf d m pc ls st h = some r := by
  have hh : ∃ r, ∃ n, run n d m pc ls st h = some r := ⟨r, n, e⟩
  unfold Rf
  rw [dif_pos hh]
  obtain ⟨k, hk⟩ := hh.choose_spec
  rw [run_one hk e]
theorem Rf_iff {d m pc : Nat} {ls st : List Value} {h : AHp} {r : Option Value × AHp} : Rf d m pc ls st h = some r ↔ ∃ n, run n d m pc ls st h = some r := ⟨Rf_ex, fun ⟨_, e⟩ => Rf_of e⟩
theorem opt_ext {α : Type} {a b : Option α} (h : ∀ r, a = some r ↔ b = some r) : a = b := by
  cases a with
  | none => cases b with
    | none => rfl
    | some y => exact absurd ((h y).mpr rfl) (by simp)
  | some x => exact ((h x).mp rfl).symm
/-- a step that goes on -/
theorem Rf_go {d m pc pc' : Nat} {ls st ls' st' : List Value} {h h' : AHp} (e : stp m pc ls st h = goOn pc' ls' st' h') : Rf d m pc ls st h = Rf d m pc' ls' st' h' := by
  apply opt_ext
  intro r
  rw [Rf_iff, Rf_iff]
  constructor
  · rintro ⟨n, hn⟩
    cases n with
    | zero => cases hn
    | succ n =>
      rw [run, e] at hn
      exact ⟨n, hn⟩
  · rintro ⟨n, hn⟩
    refine ⟨n + 1, ?_⟩
    rw [run, e]
    exact hn
theorem Rf_end {d m pc : Nat} {ls st : List Value} {h h' : AHp} {v : Option Value} (e : stp m pc ls st h = ends v h') : Rf d m pc ls st h = some (v, h') := by
  apply Rf_of (n := 1)
  rw [run, e]
  rfl
theorem Rf_stuck {d m pc : Nat} {ls st : List Value} {h : AHp} (e : stp m pc ls st h = none) : Rf d m pc ls st h = none := by
  apply opt_ext
  intro r
  rw [Rf_iff]
  constructor
  · rintro ⟨n, hn⟩
    cases n with
    | zero => cases hn
    | succ n =>
      rw [run, e] at hn
      cases hn
  · intro q; cases q
theorem Rf_call {d m pc c pc' : Nat} {ls st as ls' st' : List Value} {h h' : AHp} (e : stp m pc ls st h = calls c as pc' ls' st' h') {r : Option Value × AHp} (hc : Rf d c 0 (padL c as) [] h' = some r) : Rf (d + 1) m pc ls st h = Rf (d + 1) m pc' ls' (r.1.toList ++ st') r.2 := by
  obtain ⟨k, hk⟩ := Rf_ex hc
  apply opt_ext
  intro q
  rw [Rf_iff, Rf_iff]
  constructor
  · rintro ⟨n, hn⟩
    cases n with
    | zero => cases hn
    | succ n =>
      rw [run, e] at hn
      simp only [calls] at hn
      split at hn
      · cases hn
      · next r2 h2 =>
        rw [run_one h2 hk] at hn
        exact ⟨n, hn⟩
  · rintro ⟨n, hn⟩
    refine ⟨max n k + 1, ?_⟩
    rw [run, e]
    simp only [calls]
    rw [run_le (Nat.le_max_right n k) hk]
    exact run_le (Nat.le_max_left n k) hn
