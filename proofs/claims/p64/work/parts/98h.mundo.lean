/-! THE REFERENCE: undo, save, restore; what went wrong -/
def RS (f : Nat → Nat → Int32) (sv : Option Bk) : Prop := match sv with
  | none => f 241 4 = nI 0
  | some b => f 241 4 = nI 1 ∧ RN (f 244) b
section MQ
variable {h : Hp} {b : Bk}
end MQ
