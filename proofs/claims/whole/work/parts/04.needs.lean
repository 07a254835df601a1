/-! WHAT THE TABLES SAY of each instruction: the words that its row of the kit asks for, each by its place; decoded as the tables have it. -/
def nmC (ci : Nat) : String := match clA[ci]? with
  | some r => r.1
  | none => "java/lang/String"
def subsA : List String := [RX0, RX1, RX2, RX5, RX8, RX9]
def refC (own : String) (f : String × String × String × Bool) : String := if decide (own ∈ subsA) && decide (f.1 = RX4) then own else f.1
def fW (own : String) (i : Nat) (q : Nat × Nat) : List Cond := if q.1 = 13 then (if q.2 = 0 then [.fieldLink own i "java/lang/String" "value" "[B"] else [.fieldLink own i "java/lang/String" "coder" "B"]) else match clA[q.1]? with
  | some r => .fieldLink own i (refC own (r.2.1 q.2)) (r.2.1 q.2).2.1 (r.2.1 q.2).2.2.1 :: (if refC own (r.2.1 q.2) = (r.2.1 q.2).1 then [] else [.sameField (refC own (r.2.1 q.2)) (r.2.1 q.2).1 (r.2.1 q.2).2.1 (r.2.1 q.2).2.2.1])
  | none => []
def codeW (c : Nat) : Cond := .code (mH c).1 (mB c) (mH c).2.1 (mH c).2.2.1
def vX (info : List (Nat × Nat)) : Option (Nat × Nat) := match fIx info 201, fIx info 202 with
  | some x, some o => some (x, o)
  | _, _ => none
/-- how a virtual call comes to its method: V as named, U inherited, O overriding -/
def vW (own : String) (i : Nat) (info : List (Nat × Nat)) (xo : Option (Nat × Nat)) (q : Nat × Nat) : List Cond :=
  let y := (mH q.2).1
  match xo with
  | none => [.methodLink own i y, .instanceMethod y, .selects (nmC q.1) y y, .initialized (nmC q.1)]
  | some (x, o) => if x = q.1 ∧ y.cls = nmC q.1 then [.methodLink own i y, .instanceMethod y, .selects (nmC q.1) y y, .initialized (nmC q.1)] else
      if y.cls = nmC o then [.methodLink own i ⟨nmC x, y.name, y.desc⟩, .sameMethod (nmC x) (nmC o) y.name y.desc, .selects (nmC q.1) ⟨nmC x, y.name, y.desc⟩ y, .instanceMethod y, .initialized y.cls] else
      [.methodLink own i ⟨nmC x, y.name, y.desc⟩, .sameMethod (nmC x) (nmC o) y.name y.desc, .instanceMethod ⟨nmC o, y.name, y.desc⟩, .selects (nmC q.1) ⟨nmC x, y.name, y.desc⟩ y, .instanceMethod y, .initialized y.cls]
/-- the class that one of ours lies under -/
def supN (C : String) : String := if C = RX0 then RX9 else if C = RX1 then RX2 else if C = RX8 then RX5 else if C = RX2 ∨ C = RX5 ∨ C = RX9 then RX4 else ""
def pW (own : String) (i : Nat) (q : Nat × Nat) : List Cond :=
  let y := (mH q.2).1
  if q.1 = 1001 then [.methodLink own i Lib.objectInit, .instanceMethod Lib.objectInit, .code Lib.objectInit ⟨#[0xb1]⟩ 1 none] else
  if q.1 = 1003 then [.methodLink own i y, .instanceMethod y, .initialized y.cls] else
  if q.1 = 1006 then [.instanceMethod y, .initialized y.cls] else
  if q.1 = 1004 then [.methodLink own i y, .sameMethod y.cls y.cls y.name y.desc, .superclass own y.cls, .instanceMethod y, .initialized y.cls] else
  [.methodLink own i ⟨supN own, y.name, y.desc⟩, .sameMethod (supN own) y.cls y.name y.desc, .superclass own (supN own), .superclass (supN own) y.cls, .instanceMethod y, .initialized y.cls]
def sW (own : String) (i : Nat) (q : Nat × Nat) : List Cond := if q.1 = 1000 then [.methodLink own i arraycopyName, .native arraycopyName, .static arraycopyName, .initialized "java/lang/System"] else
  [.methodLink own i (mH q.2).1, .static (mH q.2).1, .initialized (mH q.2).1.cls]
def real (info : List (Nat × Nat)) : List (Nat × Nat) := info.filter (fun q => !(q.1 == 200 || q.1 == 201 || q.1 == 202))
def need (m : Nat) (e : En) : List Cond :=
  let own := (mH m).1.cls
  match e.2.1 with
  | .getfield i => e.2.2.2.flatMap (fW own i)
  | .putfield i => e.2.2.2.flatMap (fW own i)
  | .getstatic i => if e.2.2.2 = [(0, 1)] then [.fieldLink own i "java/lang/String" "COMPACT_STRINGS" "Z"] else [.fieldLink own i "jdk/internal/util/Preconditions" "SIOOBE_FORMATTER" "Ljava/util/function/BiFunction;"]
  | .new i => e.2.2.2.flatMap (fun q => [.classLink own i (nmC q.1), .instantiable (nmC q.1) q.2, .initialized (nmC q.1)])
  | .newarray a => [.arrayClass (newarray.typeOf a)]
  | .anewarray i => [.classLink own i RX4]
  | .instanceof i => match fIx e.2.2.2 200 with
    | some t => [.classLink own i (nmC t)]
    | none => []
  | .invokestatic i => e.2.2.2.flatMap (sW own i)
  | .invokevirtual i => (real e.2.2.2).flatMap (vW own i e.2.2.2 (vX e.2.2.2))
  | .invokespecial i => e.2.2.2.flatMap (pW own i)
  | _ => []
def castY : List (String × String) := [(RX8, RX5), (RX1, RX2), (RX0, RX9), (RX2, RX4), (RX5, RX4), (RX9, RX4), (RX1, RX4), (RX8, RX4), (RX0, RX4)]
def castN : List (String × String) := [(RX1, RX0), (RX2, RX0), (RX4, RX0), (RX5, RX0), (RX8, RX0), (RX9, RX0), (RX0, RX1), (RX2, RX1), (RX4, RX1), (RX5, RX1), (RX8, RX1), (RX9, RX1), (RX0, RX2), (RX4, RX2), (RX5, RX2), (RX8, RX2), (RX9, RX2), (RX0, RX5), (RX1, RX5), (RX2, RX5), (RX4, RX5), (RX9, RX5), (RX0, RX8), (RX1, RX8), (RX2, RX8), (RX4, RX8), (RX5, RX8), (RX9, RX8), (RX1, RX9), (RX2, RX9), (RX4, RX9), (RX5, RX9), (RX8, RX9)]
/-- the length of an instruction, where its row has a fixed one -/
def lenI (i : Instr) : Nat := match i with
  | .iload _ | .aload _ | .istore _ | .astore _ | .bipush _ | .ldc _ | .newarray _ => 2
  | .sipush _ | .iinc _ _ | .ifCond _ _ | .if_icmp _ _ | .goto _ | .getfield _ | .putfield _ | .getstatic _ | .new _ | .anewarray _ | .instanceof _ | .invokestatic _ | .invokevirtual _ | .invokespecial _ | .checkcast _ => 3
  | .tableswitch _ _ _ _ | .lookupswitch _ _ => 0
  | _ => 1
def calOK (c : Nat) : Bool := decide (c < 217) && decide ((mH c).1.cls ≠ "java/lang/invoke/MethodHandle" ∧ (mH c).1.cls ≠ "java/lang/invoke/VarHandle" ∧ (parseMethodDescriptor (mH c).1.desc).map (fun d => d.parameters.length) = some (mH c).2.2.2) && decide ((mH c).2.2.2 + 1 ≤ (mH c).2.1 ∨ (mH c).2.2.2 = (mH c).2.1) && decide ((mH c).2.1 ≤ 20)
def tagT (t : Nat) : FieldType := if t = 0 then .int else if t = 1 then .byte else if t = 2 then .boolean else .object RX4
def mis (m : Nat) (e : En) : Bool :=
  let pc : Int := (e.1 : Int)
  let info := e.2.2.2
  match e.2.1 with
  | .ifCond _ off => match info with
    | [(t, _)] => decide (pc + off = (t : Int))
    | _ => false
  | .if_icmp _ off => match info with
    | [(t, _)] => decide (pc + off = (t : Int))
    | _ => false
  | .goto off => match info with
    | [(t, _)] => decide (pc + off = (t : Int))
    | _ => false
  | .tableswitch d lo hi offs => match info with
    | (_, t) :: r => decide (pc + d = (t : Int)) && decide (0 ≤ lo) && decide (hi < 100) && decide (hi - lo + 1 = (offs.size : Int)) && decide (r.map (fun q => ((q.1 : Int), (q.2 : Int))) = (List.range offs.size).map (fun (j : Nat) => (lo + (j : Int), pc + offs.getD j 0)))
    | _ => false
  | .lookupswitch d ps => match info with
    | (_, t) :: r => decide (pc + d = (t : Int)) && decide (r.map (fun q => ((q.1 : Int), (q.2 : Int))) = ps.toList.map (fun q => (q.1, pc + q.2))) && (ps.toList.zip (ps.toList.drop 1)).all (fun (a, next) => a.1 < next.1) && r.all (fun q => decide (q.1 < 100))
    | _ => false
  | .getfield _ => info.all (fun q => if q.1 = 13 then decide (q.2 < 2) else decide (q.2 < nF q.1))
  | .putfield _ => info.all (fun q => decide (q.1 < 13))
  | .getstatic _ => decide (info = [(0, 1)]) || decide (info = [(1, 30)])
  | .ldc i => match info with
    | [(1, p)] => match strA[p]? with
      | some q => decide (q.1 = (mH m).1.cls) && decide (q.2.1 = i)
      | none => false
    | _ => false
  | .new _ => match info with
    | [(ci, n)] => decide (ci < 13) && decide (nF ci = n)
    | _ => false
  | .newarray a => match info with
    | [(t, _)] => decide (t < 3) && decide (newarray.typeOf a = tagT t)
    | _ => false
  | .anewarray _ => match info with
    | [(t, _)] => decide (t = 3)
    | _ => false
  | .instanceof _ => match fIx info 200 with
    | some t => (real info).all (fun q => decide (q.1 < 13) && (if q.2 = 1 then decide (q.1 = t) || decide ((nmC q.1, nmC t) ∈ castY) else decide (q.2 = 0) && decide ((nmC q.1, nmC t) ∈ castN))) && decide (t < 13)
    | none => false
  | .invokestatic _ => match info with
    | [] => true
    | [q] => decide (q.1 = 1000) || (calOK q.2 && decide ((mH q.2).2.2.2 ≤ (mH q.2).2.1))
    | _ => false
  | .invokevirtual _ => match info with
    | [] => true
    | (k0, c0) :: _ => if k0 = 1002 then true else (real info).all (fun q => calOK q.2 && decide (q.1 ≤ 13) && decide ((mH q.2).2.2.2 = (mH c0).2.2.2) && decide ((mH q.2).2.2.2 + 1 ≤ (mH q.2).2.1) && (match vX info with
      | none => decide ((mH q.2).1.cls = nmC q.1)
      | some (x, o) => decide (x < 13) && decide (o < 13) && (decide (x = q.1 ∧ (mH q.2).1.cls = nmC q.1) || decide ((mH q.2).1.cls = nmC o) || (decide ((fIx info o).getD 0 < 217) && decide ((mH ((fIx info o).getD 0)).1 = ⟨nmC o, (mH q.2).1.name, (mH q.2).1.desc⟩)))))
  | .invokespecial _ => match info with
    | [q] => if q.1 = 1001 then true else calOK q.2 && decide ((mH q.2).2.2.2 + 1 ≤ (mH q.2).2.1) && (if q.1 = 1003 ∨ q.1 = 1006 then decide ((mH q.2).1.name = "<init>") && decide ((mH q.2).2.2.1 = none) else decide ((mH q.2).1.name ≠ "<init>") && decide (q.1 = 1004 ∨ q.1 = 1005))
    | _ => false
  | _ => true
def okE (m : Nat) (e : En) (ps : List Nat) : Bool := decide (decode (mB m) e.1 = .ok (e.2.1, e.2.2.1)) && (lenI e.2.1 == 0 || e.2.2.1 == lenI e.2.1) && mis m e && ((e.2.2.2.length == 1 && (e.2.2.2.all (fun q => q.1 == 1002))) || (decide ((need m e).map some = ps.map (fun i => lw_tbl[i]?)) && (need m e).all goodWord))
def psA : List (List (List Nat)) := [ps_X0_init, ps_X0_kind, ps_X0_belief, ps_X0_asks, ps_X1_init, ps_X1_kind, ps_X1_belief, ps_X1_tells, ps_X2_init, ps_X2_kind, ps_X2_belief, ps_X2_has, ps_X3_init, ps_X3_readText, ps_X3_readClause, ps_X3_restOf, ps_X3_keep, ps_X3_readEither, ps_X3_readBoth, ps_X3_readPart, ps_X3_readNumber, ps_X3_take, ps_X3_takeWord, ps_X3_takeOneOf, ps_X3_emit, ps_X3_together, ps_X3_holds, ps_X3_testHolds, ps_X4_init, ps_X4_made, ps_X4_kind, ps_X4_belief, ps_X4_has, ps_X4_asks, ps_X4_tells, ps_X5_init, ps_X5_kind, ps_X5_belief, ps_X5_asks, ps_X6_init, ps_X6_copyFrom, ps_X6_copyRow, ps_X6_isWorker, ps_X6_hire, ps_X6_become, ps_X6_moveInto, ps_X6_ahead, ps_X6_behind, ps_X6_payOf, ps_X6_friendOf, ps_X6_allPay, ps_X6_meanOfAll, ps_X6_meanAround, ps_X6_middleOfAll, ps_X6_beliefOf, ps_X6_gladBy, ps_X6_offerTo, ps_X6_wishOf, ps_X6_takeFacts, ps_X6_doneBy, ps_X6_doneFor, ps_X6_goYear, ps_X6_payBehind, ps_X6_manyOf, ps_X6_payOfLot, ps_X6_gap, ps_X6_leastRises, ps_X6_spreadAround, ps_X6_bargainOf, ps_X6_slipBehind, ps_X6_knownBy, ps_X6_isOneOf, ps_X6_aheadRound, ps_X6_behindRound, ps_X6_firstWorker, ps_X6_lastWorker, ps_X7_init, ps_X7_copyFrom, ps_X7_write, ps_X7_takeTape, ps_X7_addAdvert, ps_X7_spanOf, ps_X7_meanOfSpans, ps_X7_addListed, ps_X8_init, ps_X8_kind, ps_X8_belief, ps_X8_has, ps_X9_init, ps_X9_kind, ps_X9_belief, ps_X9_tells, ps_X10_init, ps_X10_began, ps_X11_init, ps_X11_feed, ps_X11_house, ps_X11_told, ps_X11_worker, ps_X11_knowing, ps_X11_friend, ps_X11_of, ps_X11_set, ps_X11_telling, ps_X11_year, ps_X11_years, ps_X11_best, ps_X11_tryYears, ps_X11_even, ps_X11_spread, ps_X11_bargain, ps_X11_die, ps_X11_slip, ps_X11_known, ps_X11_advert, ps_X11_clear, ps_X11_span, ps_X11_can, ps_X11_list, ps_X11_looked, ps_X11_firstUnlike, ps_X11_changed, ps_X11_act, ps_X11_trace, ps_X11_as, ps_X11_isOf, ps_X11_image, ps_X11_undo, ps_X11_count, ps_X11_within, ps_X12_init, ps_X12_within, ps_X12_isWorker, ps_X12_feed, ps_X12_sign, ps_X12_is, ps_X12_is_, ps_X12_isDigit, ps_X12_number, ps_X12_put, ps_X12_any, ps_X12_both, ps_X12_one, ps_X12_clause, ps_X12_whole, ps_X12_house, ps_X12_holds, ps_X12_value, ps_X12_sum, ps_X12_last, ps_X12_offer, ps_X12_wish, ps_X12_leave, ps_X12_rise, ps_X12_gap, ps_X12_pays, ps_X12_told, ps_X12_sits, ps_X12_worker, ps_X12_knowing, ps_X12_friend, ps_X12_beside, ps_X12_belief, ps_X12_glad, ps_X12_does, ps_X12_of, ps_X12_set, ps_X12_telling, ps_X12_go, ps_X12_year, ps_X12_keep, ps_X12_again, ps_X12_years, ps_X12_best, ps_X12_even, ps_X12_spread, ps_X12_bargain, ps_X12_die, ps_X12_line, ps_X12_slip, ps_X12_known, ps_X12_advert, ps_X12_clear, ps_X12_end, ps_X12_span, ps_X12_can, ps_X12_list, ps_X12_looked, ps_X12_above, ps_X12_begin, ps_X12_has, ps_X12_asks, ps_X12_tells, ps_X12_act, ps_X12_trace, ps_X12_as, ps_X12_image, ps_X12_undo, ps_X12_count, ps_J9_floorMod_7cf53, ps_J9_abs_0f7a4, ps_J9_max_7cf53, ps_J9_min_7cf53, ps_J0_length_8abf5, ps_J0_charAt_5068e, ps_J0_indexOf_0f7a4, ps_J0_indexOf_7cf53, ps_J0_coder_7d493, ps_J0_isLatin1_aae02, ps_J0_checkIndex_df160, ps_J1_charAt_3b067, ps_J1_canEncode_9a6ad, ps_J1_indexOf_4cfef, ps_J1_indexOfChar_4cfef, ps_J7_fill_53178, ps_J7_copyOf_9075b, ps_J3_checkIndex_8e157, ps_L_law]
def okM (m : Nat) : Bool := decide ((cdA.getD m []).length = (psA.getD m []).length) && ((cdA.getD m []).zip (psA.getD m [])).all (fun q => okE m q.1 q.2)
set_option maxRecDepth 100000 in
theorem cw_0 : codeW 0 ∈ lw_tbl := List.mem_of_getElem? (i := 616) rfl
set_option maxRecDepth 100000 in
theorem cw_1 : codeW 1 ∈ lw_tbl := List.mem_of_getElem? (i := 547) rfl
set_option maxRecDepth 100000 in
theorem cw_2 : codeW 2 ∈ lw_tbl := List.mem_of_getElem? (i := 663) rfl
set_option maxRecDepth 100000 in
theorem cw_3 : codeW 3 ∈ lw_tbl := List.mem_of_getElem? (i := 943) rfl
set_option maxRecDepth 100000 in
theorem cw_4 : codeW 4 ∈ lw_tbl := List.mem_of_getElem? (i := 598) rfl
set_option maxRecDepth 100000 in
theorem cw_5 : codeW 5 ∈ lw_tbl := List.mem_of_getElem? (i := 550) rfl
set_option maxRecDepth 100000 in
theorem cw_6 : codeW 6 ∈ lw_tbl := List.mem_of_getElem? (i := 674) rfl
set_option maxRecDepth 100000 in
theorem cw_7 : codeW 7 ∈ lw_tbl := List.mem_of_getElem? (i := 970) rfl
set_option maxRecDepth 100000 in
theorem cw_8 : codeW 8 ∈ lw_tbl := List.mem_of_getElem? (i := 571) rfl
set_option maxRecDepth 100000 in
theorem cw_9 : codeW 9 ∈ lw_tbl := List.mem_of_getElem? (i := 553) rfl
set_option maxRecDepth 100000 in
theorem cw_10 : codeW 10 ∈ lw_tbl := List.mem_of_getElem? (i := 693) rfl
set_option maxRecDepth 100000 in
theorem cw_11 : codeW 11 ∈ lw_tbl := List.mem_of_getElem? (i := 919) rfl
set_option maxRecDepth 100000 in
theorem cw_12 : codeW 12 ∈ lw_tbl := List.mem_of_getElem? (i := 145) rfl
set_option maxRecDepth 100000 in
theorem cw_13 : codeW 13 ∈ lw_tbl := List.mem_of_getElem? (i := 356) rfl
set_option maxRecDepth 100000 in
theorem cw_14 : codeW 14 ∈ lw_tbl := List.mem_of_getElem? (i := 360) rfl
set_option maxRecDepth 100000 in
theorem cw_15 : codeW 15 ∈ lw_tbl := List.mem_of_getElem? (i := 443) rfl
set_option maxRecDepth 100000 in
theorem cw_16 : codeW 16 ∈ lw_tbl := List.mem_of_getElem? (i := 504) rfl
set_option maxRecDepth 100000 in
theorem cw_17 : codeW 17 ∈ lw_tbl := List.mem_of_getElem? (i := 486) rfl
set_option maxRecDepth 100000 in
theorem cw_18 : codeW 18 ∈ lw_tbl := List.mem_of_getElem? (i := 490) rfl
set_option maxRecDepth 100000 in
theorem cw_19 : codeW 19 ∈ lw_tbl := List.mem_of_getElem? (i := 494) rfl
set_option maxRecDepth 100000 in
theorem cw_20 : codeW 20 ∈ lw_tbl := List.mem_of_getElem? (i := 481) rfl
set_option maxRecDepth 100000 in
theorem cw_21 : codeW 21 ∈ lw_tbl := List.mem_of_getElem? (i := 477) rfl
set_option maxRecDepth 100000 in
theorem cw_22 : codeW 22 ∈ lw_tbl := List.mem_of_getElem? (i := 452) rfl
set_option maxRecDepth 100000 in
theorem cw_23 : codeW 23 ∈ lw_tbl := List.mem_of_getElem? (i := 365) rfl
set_option maxRecDepth 100000 in
theorem cw_24 : codeW 24 ∈ lw_tbl := List.mem_of_getElem? (i := 498) rfl
set_option maxRecDepth 100000 in
theorem cw_25 : codeW 25 ∈ lw_tbl := List.mem_of_getElem? (i := 721) rfl
set_option maxRecDepth 100000 in
theorem cw_26 : codeW 26 ∈ lw_tbl := List.mem_of_getElem? (i := 725) rfl
set_option maxRecDepth 100000 in
theorem cw_27 : codeW 27 ∈ lw_tbl := List.mem_of_getElem? (i := 728) rfl
set_option maxRecDepth 100000 in
theorem cw_28 : codeW 28 ∈ lw_tbl := List.mem_of_getElem? (i := 115) rfl
set_option maxRecDepth 100000 in
theorem cw_29 : codeW 29 ∈ lw_tbl := List.mem_of_getElem? (i := 566) rfl
set_option maxRecDepth 100000 in
theorem cw_30 : codeW 30 ∈ lw_tbl := List.mem_of_getElem? (i := 563) rfl
set_option maxRecDepth 100000 in
theorem cw_31 : codeW 31 ∈ lw_tbl := List.mem_of_getElem? (i := 704) rfl
set_option maxRecDepth 100000 in
theorem cw_32 : codeW 32 ∈ lw_tbl := List.mem_of_getElem? (i := 935) rfl
set_option maxRecDepth 100000 in
theorem cw_33 : codeW 33 ∈ lw_tbl := List.mem_of_getElem? (i := 957) rfl
set_option maxRecDepth 100000 in
theorem cw_34 : codeW 34 ∈ lw_tbl := List.mem_of_getElem? (i := 983) rfl
set_option maxRecDepth 100000 in
theorem cw_35 : codeW 35 ∈ lw_tbl := List.mem_of_getElem? (i := 580) rfl
set_option maxRecDepth 100000 in
theorem cw_36 : codeW 36 ∈ lw_tbl := List.mem_of_getElem? (i := 556) rfl
set_option maxRecDepth 100000 in
theorem cw_37 : codeW 37 ∈ lw_tbl := List.mem_of_getElem? (i := 697) rfl
set_option maxRecDepth 100000 in
theorem cw_38 : codeW 38 ∈ lw_tbl := List.mem_of_getElem? (i := 952) rfl
set_option maxRecDepth 100000 in
theorem cw_39 : codeW 39 ∈ lw_tbl := List.mem_of_getElem? (i := 94) rfl
set_option maxRecDepth 100000 in
theorem cw_40 : codeW 40 ∈ lw_tbl := List.mem_of_getElem? (i := 776) rfl
set_option maxRecDepth 100000 in
theorem cw_41 : codeW 41 ∈ lw_tbl := List.mem_of_getElem? (i := 779) rfl
set_option maxRecDepth 100000 in
theorem cw_42 : codeW 42 ∈ lw_tbl := List.mem_of_getElem? (i := 630) rfl
set_option maxRecDepth 100000 in
theorem cw_43 : codeW 43 ∈ lw_tbl := List.mem_of_getElem? (i := 536) rfl
set_option maxRecDepth 100000 in
theorem cw_44 : codeW 44 ∈ lw_tbl := List.mem_of_getElem? (i := 540) rfl
set_option maxRecDepth 100000 in
theorem cw_45 : codeW 45 ∈ lw_tbl := List.mem_of_getElem? (i := 508) rfl
set_option maxRecDepth 100000 in
theorem cw_46 : codeW 46 ∈ lw_tbl := List.mem_of_getElem? (i := 686) rfl
set_option maxRecDepth 100000 in
theorem cw_47 : codeW 47 ∈ lw_tbl := List.mem_of_getElem? (i := 690) rfl
set_option maxRecDepth 100000 in
theorem cw_48 : codeW 48 ∈ lw_tbl := List.mem_of_getElem? (i := 670) rfl
set_option maxRecDepth 100000 in
theorem cw_49 : codeW 49 ∈ lw_tbl := List.mem_of_getElem? (i := 678) rfl
set_option maxRecDepth 100000 in
theorem cw_50 : codeW 50 ∈ lw_tbl := List.mem_of_getElem? (i := 528) rfl
set_option maxRecDepth 100000 in
theorem cw_51 : codeW 51 ∈ lw_tbl := List.mem_of_getElem? (i := 648) rfl
set_option maxRecDepth 100000 in
theorem cw_52 : codeW 52 ∈ lw_tbl := List.mem_of_getElem? (i := 682) rfl
set_option maxRecDepth 100000 in
theorem cw_53 : codeW 53 ∈ lw_tbl := List.mem_of_getElem? (i := 654) rfl
set_option maxRecDepth 100000 in
theorem cw_54 : codeW 54 ∈ lw_tbl := List.mem_of_getElem? (i := 644) rfl
set_option maxRecDepth 100000 in
theorem cw_55 : codeW 55 ∈ lw_tbl := List.mem_of_getElem? (i := 709) rfl
set_option maxRecDepth 100000 in
theorem cw_56 : codeW 56 ∈ lw_tbl := List.mem_of_getElem? (i := 713) rfl
set_option maxRecDepth 100000 in
theorem cw_57 : codeW 57 ∈ lw_tbl := List.mem_of_getElem? (i := 732) rfl
set_option maxRecDepth 100000 in
theorem cw_58 : codeW 58 ∈ lw_tbl := List.mem_of_getElem? (i := 717) rfl
set_option maxRecDepth 100000 in
theorem cw_59 : codeW 59 ∈ lw_tbl := List.mem_of_getElem? (i := 736) rfl
set_option maxRecDepth 100000 in
theorem cw_60 : codeW 60 ∈ lw_tbl := List.mem_of_getElem? (i := 743) rfl
set_option maxRecDepth 100000 in
theorem cw_61 : codeW 61 ∈ lw_tbl := List.mem_of_getElem? (i := 760) rfl
set_option maxRecDepth 100000 in
theorem cw_62 : codeW 62 ∈ lw_tbl := List.mem_of_getElem? (i := 764) rfl
set_option maxRecDepth 100000 in
theorem cw_63 : codeW 63 ∈ lw_tbl := List.mem_of_getElem? (i := 520) rfl
set_option maxRecDepth 100000 in
theorem cw_64 : codeW 64 ∈ lw_tbl := List.mem_of_getElem? (i := 524) rfl
set_option maxRecDepth 100000 in
theorem cw_65 : codeW 65 ∈ lw_tbl := List.mem_of_getElem? (i := 516) rfl
set_option maxRecDepth 100000 in
theorem cw_66 : codeW 66 ∈ lw_tbl := List.mem_of_getElem? (i := 795) rfl
set_option maxRecDepth 100000 in
theorem cw_67 : codeW 67 ∈ lw_tbl := List.mem_of_getElem? (i := 805) rfl
set_option maxRecDepth 100000 in
theorem cw_68 : codeW 68 ∈ lw_tbl := List.mem_of_getElem? (i := 813) rfl
set_option maxRecDepth 100000 in
theorem cw_69 : codeW 69 ∈ lw_tbl := List.mem_of_getElem? (i := 825) rfl
set_option maxRecDepth 100000 in
theorem cw_70 : codeW 70 ∈ lw_tbl := List.mem_of_getElem? (i := 836) rfl
set_option maxRecDepth 100000 in
theorem cw_71 : codeW 71 ∈ lw_tbl := List.mem_of_getElem? (i := 847) rfl
set_option maxRecDepth 100000 in
theorem cw_72 : codeW 72 ∈ lw_tbl := List.mem_of_getElem? (i := 840) rfl
set_option maxRecDepth 100000 in
theorem cw_73 : codeW 73 ∈ lw_tbl := List.mem_of_getElem? (i := 851) rfl
set_option maxRecDepth 100000 in
theorem cw_74 : codeW 74 ∈ lw_tbl := List.mem_of_getElem? (i := 855) rfl
set_option maxRecDepth 100000 in
theorem cw_75 : codeW 75 ∈ lw_tbl := List.mem_of_getElem? (i := 844) rfl
set_option maxRecDepth 100000 in
theorem cw_76 : codeW 76 ∈ lw_tbl := List.mem_of_getElem? (i := 244) rfl
set_option maxRecDepth 100000 in
theorem cw_77 : codeW 77 ∈ lw_tbl := List.mem_of_getElem? (i := 1009) rfl
set_option maxRecDepth 100000 in
theorem cw_78 : codeW 78 ∈ lw_tbl := List.mem_of_getElem? (i := 326) rfl
set_option maxRecDepth 100000 in
theorem cw_79 : codeW 79 ∈ lw_tbl := List.mem_of_getElem? (i := 335) rfl
set_option maxRecDepth 100000 in
theorem cw_80 : codeW 80 ∈ lw_tbl := List.mem_of_getElem? (i := 863) rfl
set_option maxRecDepth 100000 in
theorem cw_81 : codeW 81 ∈ lw_tbl := List.mem_of_getElem? (i := 875) rfl
set_option maxRecDepth 100000 in
theorem cw_82 : codeW 82 ∈ lw_tbl := List.mem_of_getElem? (i := 885) rfl
set_option maxRecDepth 100000 in
theorem cw_83 : codeW 83 ∈ lw_tbl := List.mem_of_getElem? (i := 894) rfl
set_option maxRecDepth 100000 in
theorem cw_84 : codeW 84 ∈ lw_tbl := List.mem_of_getElem? (i := 607) rfl
set_option maxRecDepth 100000 in
theorem cw_85 : codeW 85 ∈ lw_tbl := List.mem_of_getElem? (i := 559) rfl
set_option maxRecDepth 100000 in
theorem cw_86 : codeW 86 ∈ lw_tbl := List.mem_of_getElem? (i := 701) rfl
set_option maxRecDepth 100000 in
theorem cw_87 : codeW 87 ∈ lw_tbl := List.mem_of_getElem? (i := 929) rfl
set_option maxRecDepth 100000 in
theorem cw_88 : codeW 88 ∈ lw_tbl := List.mem_of_getElem? (i := 589) rfl
set_option maxRecDepth 100000 in
theorem cw_89 : codeW 89 ∈ lw_tbl := List.mem_of_getElem? (i := 562) rfl
set_option maxRecDepth 100000 in
theorem cw_90 : codeW 90 ∈ lw_tbl := List.mem_of_getElem? (i := 666) rfl
set_option maxRecDepth 100000 in
theorem cw_91 : codeW 91 ∈ lw_tbl := List.mem_of_getElem? (i := 965) rfl
set_option maxRecDepth 100000 in
theorem cw_92 : codeW 92 ∈ lw_tbl := List.mem_of_getElem? (i := 283) rfl
set_option maxRecDepth 100000 in
theorem cw_93 : codeW 93 ∈ lw_tbl := List.mem_of_getElem? (i := 923) rfl
set_option maxRecDepth 100000 in
theorem cw_94 : codeW 94 ∈ lw_tbl := List.mem_of_getElem? (i := 86) rfl
set_option maxRecDepth 100000 in
theorem cw_95 : codeW 95 ∈ lw_tbl := List.mem_of_getElem? (i := 319) rfl
set_option maxRecDepth 100000 in
theorem cw_96 : codeW 96 ∈ lw_tbl := List.mem_of_getElem? (i := 330) rfl
set_option maxRecDepth 100000 in
theorem cw_97 : codeW 97 ∈ lw_tbl := List.mem_of_getElem? (i := 512) rfl
set_option maxRecDepth 100000 in
theorem cw_98 : codeW 98 ∈ lw_tbl := List.mem_of_getElem? (i := 532) rfl
set_option maxRecDepth 100000 in
theorem cw_99 : codeW 99 ∈ lw_tbl := List.mem_of_getElem? (i := 626) rfl
set_option maxRecDepth 100000 in
theorem cw_100 : codeW 100 ∈ lw_tbl := List.mem_of_getElem? (i := 635) rfl
set_option maxRecDepth 100000 in
theorem cw_101 : codeW 101 ∈ lw_tbl := List.mem_of_getElem? (i := 639) rfl
set_option maxRecDepth 100000 in
theorem cw_102 : codeW 102 ∈ lw_tbl := List.mem_of_getElem? (i := 748) rfl
set_option maxRecDepth 100000 in
theorem cw_103 : codeW 103 ∈ lw_tbl := List.mem_of_getElem? (i := 752) rfl
set_option maxRecDepth 100000 in
theorem cw_104 : codeW 104 ∈ lw_tbl := List.mem_of_getElem? (i := 756) rfl
set_option maxRecDepth 100000 in
theorem cw_105 : codeW 105 ∈ lw_tbl := List.mem_of_getElem? (i := 768) rfl
set_option maxRecDepth 100000 in
theorem cw_106 : codeW 106 ∈ lw_tbl := List.mem_of_getElem? (i := 784) rfl
set_option maxRecDepth 100000 in
theorem cw_107 : codeW 107 ∈ lw_tbl := List.mem_of_getElem? (i := 772) rfl
set_option maxRecDepth 100000 in
theorem cw_108 : codeW 108 ∈ lw_tbl := List.mem_of_getElem? (i := 791) rfl
set_option maxRecDepth 100000 in
theorem cw_109 : codeW 109 ∈ lw_tbl := List.mem_of_getElem? (i := 801) rfl
set_option maxRecDepth 100000 in
theorem cw_110 : codeW 110 ∈ lw_tbl := List.mem_of_getElem? (i := 809) rfl
set_option maxRecDepth 100000 in
theorem cw_111 : codeW 111 ∈ lw_tbl := List.mem_of_getElem? (i := 817) rfl
set_option maxRecDepth 100000 in
theorem cw_112 : codeW 112 ∈ lw_tbl := List.mem_of_getElem? (i := 821) rfl
set_option maxRecDepth 100000 in
theorem cw_113 : codeW 113 ∈ lw_tbl := List.mem_of_getElem? (i := 832) rfl
set_option maxRecDepth 100000 in
theorem cw_114 : codeW 114 ∈ lw_tbl := List.mem_of_getElem? (i := 859) rfl
set_option maxRecDepth 100000 in
theorem cw_115 : codeW 115 ∈ lw_tbl := List.mem_of_getElem? (i := 867) rfl
set_option maxRecDepth 100000 in
theorem cw_116 : codeW 116 ∈ lw_tbl := List.mem_of_getElem? (i := 871) rfl
set_option maxRecDepth 100000 in
theorem cw_117 : codeW 117 ∈ lw_tbl := List.mem_of_getElem? (i := 881) rfl
set_option maxRecDepth 100000 in
theorem cw_118 : codeW 118 ∈ lw_tbl := List.mem_of_getElem? (i := 890) rfl
set_option maxRecDepth 100000 in
theorem cw_119 : codeW 119 ∈ lw_tbl := List.mem_of_getElem? (i := 898) rfl
set_option maxRecDepth 100000 in
theorem cw_120 : codeW 120 ∈ lw_tbl := List.mem_of_getElem? (i := 903) rfl
set_option maxRecDepth 100000 in
theorem cw_121 : codeW 121 ∈ lw_tbl := List.mem_of_getElem? (i := 907) rfl
set_option maxRecDepth 100000 in
theorem cw_122 : codeW 122 ∈ lw_tbl := List.mem_of_getElem? (i := 911) rfl
set_option maxRecDepth 100000 in
theorem cw_123 : codeW 123 ∈ lw_tbl := List.mem_of_getElem? (i := 988) rfl
set_option maxRecDepth 100000 in
theorem cw_124 : codeW 124 ∈ lw_tbl := List.mem_of_getElem? (i := 992) rfl
set_option maxRecDepth 100000 in
theorem cw_125 : codeW 125 ∈ lw_tbl := List.mem_of_getElem? (i := 995) rfl
set_option maxRecDepth 100000 in
theorem cw_126 : codeW 126 ∈ lw_tbl := List.mem_of_getElem? (i := 1005) rfl
set_option maxRecDepth 100000 in
theorem cw_127 : codeW 127 ∈ lw_tbl := List.mem_of_getElem? (i := 1014) rfl
set_option maxRecDepth 100000 in
theorem cw_128 : codeW 128 ∈ lw_tbl := List.mem_of_getElem? (i := 1018) rfl
set_option maxRecDepth 100000 in
theorem cw_129 : codeW 129 ∈ lw_tbl := List.mem_of_getElem? (i := 322) rfl
set_option maxRecDepth 100000 in
theorem cw_130 : codeW 130 ∈ lw_tbl := List.mem_of_getElem? (i := 1023) rfl
set_option maxRecDepth 100000 in
theorem cw_131 : codeW 131 ∈ lw_tbl := List.mem_of_getElem? (i := 1068) rfl
set_option maxRecDepth 100000 in
theorem cw_132 : codeW 132 ∈ lw_tbl := List.mem_of_getElem? (i := 1162) rfl
set_option maxRecDepth 100000 in
theorem cw_133 : codeW 133 ∈ lw_tbl := List.mem_of_getElem? (i := 1065) rfl
set_option maxRecDepth 100000 in
theorem cw_134 : codeW 134 ∈ lw_tbl := List.mem_of_getElem? (i := 1084) rfl
set_option maxRecDepth 100000 in
theorem cw_135 : codeW 135 ∈ lw_tbl := List.mem_of_getElem? (i := 1099) rfl
set_option maxRecDepth 100000 in
theorem cw_136 : codeW 136 ∈ lw_tbl := List.mem_of_getElem? (i := 1093) rfl
set_option maxRecDepth 100000 in
theorem cw_137 : codeW 137 ∈ lw_tbl := List.mem_of_getElem? (i := 1106) rfl
set_option maxRecDepth 100000 in
theorem cw_138 : codeW 138 ∈ lw_tbl := List.mem_of_getElem? (i := 1103) rfl
set_option maxRecDepth 100000 in
theorem cw_139 : codeW 139 ∈ lw_tbl := List.mem_of_getElem? (i := 1122) rfl
set_option maxRecDepth 100000 in
theorem cw_140 : codeW 140 ∈ lw_tbl := List.mem_of_getElem? (i := 1110) rfl
set_option maxRecDepth 100000 in
theorem cw_141 : codeW 141 ∈ lw_tbl := List.mem_of_getElem? (i := 1114) rfl
set_option maxRecDepth 100000 in
theorem cw_142 : codeW 142 ∈ lw_tbl := List.mem_of_getElem? (i := 1118) rfl
set_option maxRecDepth 100000 in
theorem cw_143 : codeW 143 ∈ lw_tbl := List.mem_of_getElem? (i := 1080) rfl
set_option maxRecDepth 100000 in
theorem cw_144 : codeW 144 ∈ lw_tbl := List.mem_of_getElem? (i := 1076) rfl
set_option maxRecDepth 100000 in
theorem cw_145 : codeW 145 ∈ lw_tbl := List.mem_of_getElem? (i := 1072) rfl
set_option maxRecDepth 100000 in
theorem cw_146 : codeW 146 ∈ lw_tbl := List.mem_of_getElem? (i := 1196) rfl
set_option maxRecDepth 100000 in
theorem cw_147 : codeW 147 ∈ lw_tbl := List.mem_of_getElem? (i := 1200) rfl
set_option maxRecDepth 100000 in
theorem cw_148 : codeW 148 ∈ lw_tbl := List.mem_of_getElem? (i := 1192) rfl
set_option maxRecDepth 100000 in
theorem cw_149 : codeW 149 ∈ lw_tbl := List.mem_of_getElem? (i := 1134) rfl
set_option maxRecDepth 100000 in
theorem cw_150 : codeW 150 ∈ lw_tbl := List.mem_of_getElem? (i := 1188) rfl
set_option maxRecDepth 100000 in
theorem cw_151 : codeW 151 ∈ lw_tbl := List.mem_of_getElem? (i := 1204) rfl
set_option maxRecDepth 100000 in
theorem cw_152 : codeW 152 ∈ lw_tbl := List.mem_of_getElem? (i := 1130) rfl
set_option maxRecDepth 100000 in
theorem cw_153 : codeW 153 ∈ lw_tbl := List.mem_of_getElem? (i := 1138) rfl
set_option maxRecDepth 100000 in
theorem cw_154 : codeW 154 ∈ lw_tbl := List.mem_of_getElem? (i := 1142) rfl
set_option maxRecDepth 100000 in
theorem cw_155 : codeW 155 ∈ lw_tbl := List.mem_of_getElem? (i := 1146) rfl
set_option maxRecDepth 100000 in
theorem cw_156 : codeW 156 ∈ lw_tbl := List.mem_of_getElem? (i := 1126) rfl
set_option maxRecDepth 100000 in
theorem cw_157 : codeW 157 ∈ lw_tbl := List.mem_of_getElem? (i := 1154) rfl
set_option maxRecDepth 100000 in
theorem cw_158 : codeW 158 ∈ lw_tbl := List.mem_of_getElem? (i := 1150) rfl
set_option maxRecDepth 100000 in
theorem cw_159 : codeW 159 ∈ lw_tbl := List.mem_of_getElem? (i := 1158) rfl
set_option maxRecDepth 100000 in
theorem cw_160 : codeW 160 ∈ lw_tbl := List.mem_of_getElem? (i := 1166) rfl
set_option maxRecDepth 100000 in
theorem cw_161 : codeW 161 ∈ lw_tbl := List.mem_of_getElem? (i := 1180) rfl
set_option maxRecDepth 100000 in
theorem cw_162 : codeW 162 ∈ lw_tbl := List.mem_of_getElem? (i := 1174) rfl
set_option maxRecDepth 100000 in
theorem cw_163 : codeW 163 ∈ lw_tbl := List.mem_of_getElem? (i := 1184) rfl
set_option maxRecDepth 100000 in
theorem cw_164 : codeW 164 ∈ lw_tbl := List.mem_of_getElem? (i := 1208) rfl
set_option maxRecDepth 100000 in
theorem cw_165 : codeW 165 ∈ lw_tbl := List.mem_of_getElem? (i := 1170) rfl
set_option maxRecDepth 100000 in
theorem cw_166 : codeW 166 ∈ lw_tbl := List.mem_of_getElem? (i := 1212) rfl
set_option maxRecDepth 100000 in
theorem cw_167 : codeW 167 ∈ lw_tbl := List.mem_of_getElem? (i := 1216) rfl
set_option maxRecDepth 100000 in
theorem cw_168 : codeW 168 ∈ lw_tbl := List.mem_of_getElem? (i := 1224) rfl
set_option maxRecDepth 100000 in
theorem cw_169 : codeW 169 ∈ lw_tbl := List.mem_of_getElem? (i := 1220) rfl
set_option maxRecDepth 100000 in
theorem cw_170 : codeW 170 ∈ lw_tbl := List.mem_of_getElem? (i := 1232) rfl
set_option maxRecDepth 100000 in
theorem cw_171 : codeW 171 ∈ lw_tbl := List.mem_of_getElem? (i := 1236) rfl
set_option maxRecDepth 100000 in
theorem cw_172 : codeW 172 ∈ lw_tbl := List.mem_of_getElem? (i := 1228) rfl
set_option maxRecDepth 100000 in
theorem cw_173 : codeW 173 ∈ lw_tbl := List.mem_of_getElem? (i := 1240) rfl
set_option maxRecDepth 100000 in
theorem cw_174 : codeW 174 ∈ lw_tbl := List.mem_of_getElem? (i := 1246) rfl
set_option maxRecDepth 100000 in
theorem cw_175 : codeW 175 ∈ lw_tbl := List.mem_of_getElem? (i := 1250) rfl
set_option maxRecDepth 100000 in
theorem cw_176 : codeW 176 ∈ lw_tbl := List.mem_of_getElem? (i := 1254) rfl
set_option maxRecDepth 100000 in
theorem cw_177 : codeW 177 ∈ lw_tbl := List.mem_of_getElem? (i := 1258) rfl
set_option maxRecDepth 100000 in
theorem cw_178 : codeW 178 ∈ lw_tbl := List.mem_of_getElem? (i := 1266) rfl
set_option maxRecDepth 100000 in
theorem cw_179 : codeW 179 ∈ lw_tbl := List.mem_of_getElem? (i := 1262) rfl
set_option maxRecDepth 100000 in
theorem cw_180 : codeW 180 ∈ lw_tbl := List.mem_of_getElem? (i := 1270) rfl
set_option maxRecDepth 100000 in
theorem cw_181 : codeW 181 ∈ lw_tbl := List.mem_of_getElem? (i := 1274) rfl
set_option maxRecDepth 100000 in
theorem cw_182 : codeW 182 ∈ lw_tbl := List.mem_of_getElem? (i := 1278) rfl
set_option maxRecDepth 100000 in
theorem cw_183 : codeW 183 ∈ lw_tbl := List.mem_of_getElem? (i := 1286) rfl
set_option maxRecDepth 100000 in
theorem cw_184 : codeW 184 ∈ lw_tbl := List.mem_of_getElem? (i := 1282) rfl
set_option maxRecDepth 100000 in
theorem cw_185 : codeW 185 ∈ lw_tbl := List.mem_of_getElem? (i := 1290) rfl
set_option maxRecDepth 100000 in
theorem cw_186 : codeW 186 ∈ lw_tbl := List.mem_of_getElem? (i := 1294) rfl
set_option maxRecDepth 100000 in
theorem cw_187 : codeW 187 ∈ lw_tbl := List.mem_of_getElem? (i := 1298) rfl
set_option maxRecDepth 100000 in
theorem cw_188 : codeW 188 ∈ lw_tbl := List.mem_of_getElem? (i := 1313) rfl
set_option maxRecDepth 100000 in
theorem cw_189 : codeW 189 ∈ lw_tbl := List.mem_of_getElem? (i := 1310) rfl
set_option maxRecDepth 100000 in
theorem cw_190 : codeW 190 ∈ lw_tbl := List.mem_of_getElem? (i := 1306) rfl
set_option maxRecDepth 100000 in
theorem cw_191 : codeW 191 ∈ lw_tbl := List.mem_of_getElem? (i := 1317) rfl
set_option maxRecDepth 100000 in
theorem cw_192 : codeW 192 ∈ lw_tbl := List.mem_of_getElem? (i := 1321) rfl
set_option maxRecDepth 100000 in
theorem cw_193 : codeW 193 ∈ lw_tbl := List.mem_of_getElem? (i := 1302) rfl
set_option maxRecDepth 100000 in
theorem cw_194 : codeW 194 ∈ lw_tbl := List.mem_of_getElem? (i := 1325) rfl
set_option maxRecDepth 100000 in
theorem cw_195 : codeW 195 ∈ lw_tbl := List.mem_of_getElem? (i := 1329) rfl
set_option maxRecDepth 100000 in
theorem cw_196 : codeW 196 ∈ lw_tbl := List.mem_of_getElem? (i := 1333) rfl
set_option maxRecDepth 100000 in
theorem cw_197 : codeW 197 ∈ lw_tbl := List.mem_of_getElem? (i := 1337) rfl
set_option maxRecDepth 100000 in
theorem cw_198 : codeW 198 ∈ lw_tbl := List.mem_of_getElem? (i := 1341) rfl
set_option maxRecDepth 100000 in
theorem cw_199 : codeW 199 ∈ lw_tbl := List.mem_of_getElem? (i := 828) rfl
set_option maxRecDepth 100000 in
theorem cw_200 : codeW 200 ∈ lw_tbl := List.mem_of_getElem? (i := 787) rfl
set_option maxRecDepth 100000 in
theorem cw_201 : codeW 201 ∈ lw_tbl := List.mem_of_getElem? (i := 387) rfl
set_option maxRecDepth 100000 in
theorem cw_202 : codeW 202 ∈ lw_tbl := List.mem_of_getElem? (i := 348) rfl
set_option maxRecDepth 100000 in
theorem cw_203 : codeW 203 ∈ lw_tbl := List.mem_of_getElem? (i := 102) rfl
set_option maxRecDepth 100000 in
theorem cw_204 : codeW 204 ∈ lw_tbl := List.mem_of_getElem? (i := 457) rfl
set_option maxRecDepth 100000 in
theorem cw_205 : codeW 205 ∈ lw_tbl := List.mem_of_getElem? (i := 369) rfl
set_option maxRecDepth 100000 in
theorem cw_206 : codeW 206 ∈ lw_tbl := List.mem_of_getElem? (i := 373) rfl
set_option maxRecDepth 100000 in
theorem cw_207 : codeW 207 ∈ lw_tbl := List.mem_of_getElem? (i := 106) rfl
set_option maxRecDepth 100000 in
theorem cw_208 : codeW 208 ∈ lw_tbl := List.mem_of_getElem? (i := 377) rfl
set_option maxRecDepth 100000 in
theorem cw_209 : codeW 209 ∈ lw_tbl := List.mem_of_getElem? (i := 463) rfl
set_option maxRecDepth 100000 in
theorem cw_210 : codeW 210 ∈ lw_tbl := List.mem_of_getElem? (i := 460) rfl
set_option maxRecDepth 100000 in
theorem cw_211 : codeW 211 ∈ lw_tbl := List.mem_of_getElem? (i := 384) rfl
set_option maxRecDepth 100000 in
theorem cw_212 : codeW 212 ∈ lw_tbl := List.mem_of_getElem? (i := 381) rfl
set_option maxRecDepth 100000 in
theorem cw_213 : codeW 213 ∈ lw_tbl := List.mem_of_getElem? (i := 391) rfl
set_option maxRecDepth 100000 in
theorem cw_214 : codeW 214 ∈ lw_tbl := List.mem_of_getElem? (i := 111) rfl
set_option maxRecDepth 100000 in
theorem cw_215 : codeW 215 ∈ lw_tbl := List.mem_of_getElem? (i := 338) rfl
set_option maxRecDepth 100000 in
theorem cw_216 : codeW 216 ∈ lw_tbl := List.mem_of_getElem? (i := 466) rfl
theorem cw_all : ∀ c, c < 217 → codeW c ∈ lw_tbl := by
  intro c hc
  match c, hc with
  | 0, _ => exact cw_0
  | 1, _ => exact cw_1
  | 2, _ => exact cw_2
  | 3, _ => exact cw_3
  | 4, _ => exact cw_4
  | 5, _ => exact cw_5
  | 6, _ => exact cw_6
  | 7, _ => exact cw_7
  | 8, _ => exact cw_8
  | 9, _ => exact cw_9
  | 10, _ => exact cw_10
  | 11, _ => exact cw_11
  | 12, _ => exact cw_12
  | 13, _ => exact cw_13
  | 14, _ => exact cw_14
  | 15, _ => exact cw_15
  | 16, _ => exact cw_16
  | 17, _ => exact cw_17
  | 18, _ => exact cw_18
  | 19, _ => exact cw_19
  | 20, _ => exact cw_20
  | 21, _ => exact cw_21
  | 22, _ => exact cw_22
  | 23, _ => exact cw_23
  | 24, _ => exact cw_24
  | 25, _ => exact cw_25
  | 26, _ => exact cw_26
  | 27, _ => exact cw_27
  | 28, _ => exact cw_28
  | 29, _ => exact cw_29
  | 30, _ => exact cw_30
  | 31, _ => exact cw_31
  | 32, _ => exact cw_32
  | 33, _ => exact cw_33
  | 34, _ => exact cw_34
  | 35, _ => exact cw_35
  | 36, _ => exact cw_36
  | 37, _ => exact cw_37
  | 38, _ => exact cw_38
  | 39, _ => exact cw_39
  | 40, _ => exact cw_40
  | 41, _ => exact cw_41
  | 42, _ => exact cw_42
  | 43, _ => exact cw_43
  | 44, _ => exact cw_44
  | 45, _ => exact cw_45
  | 46, _ => exact cw_46
  | 47, _ => exact cw_47
  | 48, _ => exact cw_48
  | 49, _ => exact cw_49
  | 50, _ => exact cw_50
  | 51, _ => exact cw_51
  | 52, _ => exact cw_52
  | 53, _ => exact cw_53
  | 54, _ => exact cw_54
  | 55, _ => exact cw_55
  | 56, _ => exact cw_56
  | 57, _ => exact cw_57
  | 58, _ => exact cw_58
  | 59, _ => exact cw_59
  | 60, _ => exact cw_60
  | 61, _ => exact cw_61
  | 62, _ => exact cw_62
  | 63, _ => exact cw_63
  | 64, _ => exact cw_64
  | 65, _ => exact cw_65
  | 66, _ => exact cw_66
  | 67, _ => exact cw_67
  | 68, _ => exact cw_68
  | 69, _ => exact cw_69
  | 70, _ => exact cw_70
  | 71, _ => exact cw_71
  | 72, _ => exact cw_72
  | 73, _ => exact cw_73
  | 74, _ => exact cw_74
  | 75, _ => exact cw_75
  | 76, _ => exact cw_76
  | 77, _ => exact cw_77
  | 78, _ => exact cw_78
  | 79, _ => exact cw_79
  | 80, _ => exact cw_80
  | 81, _ => exact cw_81
  | 82, _ => exact cw_82
  | 83, _ => exact cw_83
  | 84, _ => exact cw_84
  | 85, _ => exact cw_85
  | 86, _ => exact cw_86
  | 87, _ => exact cw_87
  | 88, _ => exact cw_88
  | 89, _ => exact cw_89
  | 90, _ => exact cw_90
  | 91, _ => exact cw_91
  | 92, _ => exact cw_92
  | 93, _ => exact cw_93
  | 94, _ => exact cw_94
  | 95, _ => exact cw_95
  | 96, _ => exact cw_96
  | 97, _ => exact cw_97
  | 98, _ => exact cw_98
  | 99, _ => exact cw_99
  | 100, _ => exact cw_100
  | 101, _ => exact cw_101
  | 102, _ => exact cw_102
  | 103, _ => exact cw_103
  | 104, _ => exact cw_104
  | 105, _ => exact cw_105
  | 106, _ => exact cw_106
  | 107, _ => exact cw_107
  | 108, _ => exact cw_108
  | 109, _ => exact cw_109
  | 110, _ => exact cw_110
  | 111, _ => exact cw_111
  | 112, _ => exact cw_112
  | 113, _ => exact cw_113
  | 114, _ => exact cw_114
  | 115, _ => exact cw_115
  | 116, _ => exact cw_116
  | 117, _ => exact cw_117
  | 118, _ => exact cw_118
  | 119, _ => exact cw_119
  | 120, _ => exact cw_120
  | 121, _ => exact cw_121
  | 122, _ => exact cw_122
  | 123, _ => exact cw_123
  | 124, _ => exact cw_124
  | 125, _ => exact cw_125
  | 126, _ => exact cw_126
  | 127, _ => exact cw_127
  | 128, _ => exact cw_128
  | 129, _ => exact cw_129
  | 130, _ => exact cw_130
  | 131, _ => exact cw_131
  | 132, _ => exact cw_132
  | 133, _ => exact cw_133
  | 134, _ => exact cw_134
  | 135, _ => exact cw_135
  | 136, _ => exact cw_136
  | 137, _ => exact cw_137
  | 138, _ => exact cw_138
  | 139, _ => exact cw_139
  | 140, _ => exact cw_140
  | 141, _ => exact cw_141
  | 142, _ => exact cw_142
  | 143, _ => exact cw_143
  | 144, _ => exact cw_144
  | 145, _ => exact cw_145
  | 146, _ => exact cw_146
  | 147, _ => exact cw_147
  | 148, _ => exact cw_148
  | 149, _ => exact cw_149
  | 150, _ => exact cw_150
  | 151, _ => exact cw_151
  | 152, _ => exact cw_152
  | 153, _ => exact cw_153
  | 154, _ => exact cw_154
  | 155, _ => exact cw_155
  | 156, _ => exact cw_156
  | 157, _ => exact cw_157
  | 158, _ => exact cw_158
  | 159, _ => exact cw_159
  | 160, _ => exact cw_160
  | 161, _ => exact cw_161
  | 162, _ => exact cw_162
  | 163, _ => exact cw_163
  | 164, _ => exact cw_164
  | 165, _ => exact cw_165
  | 166, _ => exact cw_166
  | 167, _ => exact cw_167
  | 168, _ => exact cw_168
  | 169, _ => exact cw_169
  | 170, _ => exact cw_170
  | 171, _ => exact cw_171
  | 172, _ => exact cw_172
  | 173, _ => exact cw_173
  | 174, _ => exact cw_174
  | 175, _ => exact cw_175
  | 176, _ => exact cw_176
  | 177, _ => exact cw_177
  | 178, _ => exact cw_178
  | 179, _ => exact cw_179
  | 180, _ => exact cw_180
  | 181, _ => exact cw_181
  | 182, _ => exact cw_182
  | 183, _ => exact cw_183
  | 184, _ => exact cw_184
  | 185, _ => exact cw_185
  | 186, _ => exact cw_186
  | 187, _ => exact cw_187
  | 188, _ => exact cw_188
  | 189, _ => exact cw_189
  | 190, _ => exact cw_190
  | 191, _ => exact cw_191
  | 192, _ => exact cw_192
  | 193, _ => exact cw_193
  | 194, _ => exact cw_194
  | 195, _ => exact cw_195
  | 196, _ => exact cw_196
  | 197, _ => exact cw_197
  | 198, _ => exact cw_198
  | 199, _ => exact cw_199
  | 200, _ => exact cw_200
  | 201, _ => exact cw_201
  | 202, _ => exact cw_202
  | 203, _ => exact cw_203
  | 204, _ => exact cw_204
  | 205, _ => exact cw_205
  | 206, _ => exact cw_206
  | 207, _ => exact cw_207
  | 208, _ => exact cw_208
  | 209, _ => exact cw_209
  | 210, _ => exact cw_210
  | 211, _ => exact cw_211
  | 212, _ => exact cw_212
  | 213, _ => exact cw_213
  | 214, _ => exact cw_214
  | 215, _ => exact cw_215
  | 216, _ => exact cw_216
  | _ + 217, h => exact absurd h (by omega)
theorem pf_199 : plainFor (mH 199).1 = true := by decide +kernel
theorem pf_200 : plainFor (mH 200).1 = true := by decide +kernel
theorem pf_201 : plainFor (mH 201).1 = true := by decide +kernel
theorem pf_202 : plainFor (mH 202).1 = true := by decide +kernel
theorem plainA : ∀ c, c < 218 → plainFor (mH c).1 = true := by
  intro c hc
  by_cases h : c = 199 ∨ c = 200 ∨ c = 201 ∨ c = 202
  · rcases h with rfl | rfl | rfl | rfl
    · exact pf_199
    · exact pf_200
    · exact pf_201
    · exact pf_202
  · have hh : ∀ c, c < 218 → (c = 199 ∨ c = 200 ∨ c = 201 ∨ c = 202) ∨ plainName (mH c).1.cls = true := by decide +kernel
    exact plainFor_of_name ((hh c hc).resolve_left h)
