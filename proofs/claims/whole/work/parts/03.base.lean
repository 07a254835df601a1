def cd (m pc : Nat) : Option En := (cdA.getD m []).find? (fun e => e.1 == pc)
def mH (m : Nat) : MethodName × Nat × Option FieldType × Nat := mhA.getD m (⟨"", "", ""⟩, 0, none, 0)
def mB (m : Nat) : ByteArray := mbA.getD m ⟨#[]⟩
/-- fields: of what classes' objects, which -/
def fIx (info : List (Nat × Nat)) (ci : Nat) : Option Nat := (info.find? (fun e => e.1 == ci)).map (fun e => e.2)
def nF (ci : Nat) : Nat := match clA[ci]? with
  | some r => r.2.2
  | none => 0
