/-! CHECKS of the tables against the words, and of each method's rows against its bytes -/
def okAt (i : Nat) (w : Cond) : Bool := decide (TBL[i]? = some w) && goodWord w
def TTa (kd : Nat) : u_T := match kd with
  | 1 => TT1 | 2 => TT2 | 3 => TT3 | 4 => TT4 | 5 => TT5 | 6 => TT6 | 7 => TT7 | 8 => TT8 | 9 => TT9 | _ => TT10
def tta (kd : Nat) : Nat → FieldType := match kd with
  | 1 => tt1 | 2 => tt2 | 3 => tt3 | 4 => tt4 | 5 => tt5 | 6 => tt6 | 7 => tt7 | 8 => tt8 | 9 => tt9 | _ => tt10
def RRa (kd : Nat) : String := match kd with
  | 1 => RR1 | 2 => RR2 | 3 => RR3 | 4 => RR4 | 5 => RR5 | 6 => RR6 | 7 => RR7 | 8 => RR8 | 9 => RR9 | _ => RR10
def NNa (kd : Nat) : Nat := match kd with
  | 1 => 4 | 2 => 5 | 3 => 4 | 4 => 3 | 5 => 5 | 6 => 9 | 7 => 8 | 8 => 11 | 9 => 4 | _ => 4
def chkFld (r : Nat × Nat × Nat × Nat × Nat) : Bool := Nat.ble 1 r.2.2.1 && Nat.ble r.2.2.1 10 && Nat.blt r.2.2.2.1 (NNa r.2.2.1) && okAt r.2.2.2.2 (.fieldLink (cn r.1) r.2.1 (TTa r.2.2.1 r.2.2.2.1).1 (TTa r.2.2.1 r.2.2.2.1).2.1 (TTa r.2.2.1 r.2.2.2.1).2.2.1)
def chkNew (r : Nat × Nat × Nat × List Nat) : Bool := match r.2.2.2 with
  | [a, b, c] => Nat.ble 1 r.2.2.1 && Nat.ble r.2.2.1 10 && okAt a (.classLink (cn r.1) r.2.1 (RRa r.2.2.1)) && okAt b (.instantiable (RRa r.2.2.1) (NNa r.2.2.1)) && okAt c (.initialized (RRa r.2.2.1))
  | _ => false
def chkLdi (r : Nat × Nat × Int × Nat) : Bool := okAt r.2.2.2 (.constant (cn r.1) r.2.1 (Int32.ofInt r.2.2.1))
/-- a link: 0 virtual, 1 static, 2 a constructor, 3 and 4 a nest mate's constructor or static, 5 inherited, 6 by super, 7 a static with handlers -/
noncomputable def chkLnk (r : Nat × Nat × Nat × Nat × List Nat) : Bool := match r.2.2.1, r.2.2.2.2 with
  | 0, [a, b, c] => okAt a (.methodLink (cn r.1) r.2.1 (yn r.2.2.2.1)) && okAt b (.instanceMethod (yn r.2.2.2.1)) && okAt c (.selects (yn r.2.2.2.1).cls (yn r.2.2.2.1) (yn r.2.2.2.1)) && decide ((yn r.2.2.2.1).cls = (if rk r.2.2.2.1 = 11 then "java/lang/String" else RRa (rk r.2.2.2.1))) && Nat.ble 1 (rk r.2.2.2.1) && Nat.ble (rk r.2.2.2.1) 11 && List.isEmpty (hh r.2.2.2.1)
  | 1, [a, b] => okAt a (.methodLink (cn r.1) r.2.1 (yn r.2.2.2.1)) && okAt b (.static (yn r.2.2.2.1)) && Nat.beq (rk r.2.2.2.1) 0 && List.isEmpty (hh r.2.2.2.1)
  | 2, [a, b] => okAt a (.methodLink (cn r.1) r.2.1 (yn r.2.2.2.1)) && okAt b (.instanceMethod (yn r.2.2.2.1)) && decide ((yn r.2.2.2.1).name = "<init>") && Nat.ble 1 (rk r.2.2.2.1) && decide (yr r.2.2.2.1 = none) && List.isEmpty (hh r.2.2.2.1)
  | 3, [b] => okAt b (.instanceMethod (yn r.2.2.2.1)) && decide ((yn r.2.2.2.1).name = "<init>") && Nat.ble 1 (rk r.2.2.2.1) && decide (yr r.2.2.2.1 = none) && List.isEmpty (hh r.2.2.2.1)
  | 4, [b] => okAt b (.static (yn r.2.2.2.1)) && Nat.beq (rk r.2.2.2.1) 0 && List.isEmpty (hh r.2.2.2.1)
  | 5, [a, b, c, d] => okAt a (.methodLink (cn r.1) r.2.1 (yn r.2.2.2.1)) && okAt b (.sameMethod (yn r.2.2.2.1).cls (yn r.2.2.2.1).cls (yn r.2.2.2.1).name (yn r.2.2.2.1).desc) && okAt c (.selects RR10 (yn r.2.2.2.1) (yn r.2.2.2.1)) && okAt d (.instanceMethod (yn r.2.2.2.1)) && Nat.beq (rk r.2.2.2.1) 10 && List.isEmpty (hh r.2.2.2.1)
  | 6, [a, b, c, d] => okAt a (.methodLink (cn r.1) r.2.1 (yn r.2.2.2.1)) && okAt b (.sameMethod (yn r.2.2.2.1).cls (yn r.2.2.2.1).cls (yn r.2.2.2.1).name (yn r.2.2.2.1).desc) && okAt c (.superclass (cn r.1) (yn r.2.2.2.1).cls) && okAt d (.instanceMethod (yn r.2.2.2.1)) && Nat.beq (rk r.2.2.2.1) 10 && decide ((yn r.2.2.2.1).name ≠ "<init>") && List.isEmpty (hh r.2.2.2.1)
  | 8, [a, b, c, d, e] => okAt a (.methodLink (cn r.1) r.2.1 (yn 87)) && okAt b (.sameMethod (yn 87).cls (yn 87).cls (yn 87).name (yn 87).desc) && okAt c (.instanceMethod (yn 87)) && okAt d (.selects RR10 (yn 87) (yn r.2.2.2.1)) && okAt e (.instanceMethod (yn r.2.2.2.1)) && Nat.beq r.2.2.2.1 88
  | 7, [a, b] => okAt a (.methodLink (cn r.1) r.2.1 (yn r.2.2.2.1)) && okAt b (.static (yn r.2.2.2.1)) && Nat.beq (rk r.2.2.2.1) 0 && !(List.isEmpty (hh r.2.2.2.1))
  | _, _ => false
noncomputable def codeW (y : Nat) : Cond := if List.isEmpty (hh y) then .code (yn y) (yb y) (nl y) (yr y) else .codeWith (yn y) (yb y) (nl y) (yr y) (hh y)
/-- method y, by its row (places of its code word and of its class's 'initialized') -/
noncomputable def chkMet (y : Nat) (r : Nat × Nat) : Bool := okAt r.1 (codeW y) && okAt r.2 (.initialized (yn y).cls) && plainName (yn y).cls && decide ((yn y).cls ≠ "java/lang/invoke/MethodHandle") && decide ((yn y).cls ≠ "java/lang/invoke/VarHandle") && decide ((parseMethodDescriptor (yn y).desc).map (fun d => d.parameters.length) = some (np y)) && decide ((yn y).cls = cn (yo y)) && Nat.ble (nl y) 20
noncomputable def chkMets : Nat → List (Nat × Nat) → Bool
  | _, [] => true
  | y, r :: l => chkMet y r && chkMets (y + 1) l
