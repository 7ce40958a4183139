/-! THE ABSTRACT MACHINE: cells at positions (0: null), typed data, a partial function by fuel. -/
/-- counters (cells made so far as positions, cells, slots), kind and length, ints, references, longs, doubles -/
abbrev Hp : Type := (Nat × Nat × Nat) × (Nat → Nat × Nat) × (Nat → Nat → Int32) × (Nat → Nat → Nat) × (Nat → Nat → Int64) × (Nat → Nat → UInt64)
def HN (h : Hp) : Nat := h.1.1
def HC (h : Hp) : Nat := h.1.2.1
def HS (h : Hp) : Nat := h.1.2.2
def HK (h : Hp) (a : Nat) : Nat := (h.2.1 a).1
def HL (h : Hp) (a : Nat) : Nat := (h.2.1 a).2
def HI (h : Hp) : Nat → Nat → Int32 := h.2.2.1
def HR (h : Hp) : Nat → Nat → Nat := h.2.2.2.1
def HJ (h : Hp) : Nat → Nat → Int64 := h.2.2.2.2.1
def HD (h : Hp) : Nat → Nat → UInt64 := h.2.2.2.2.2
def u2 {α : Type} (f : Nat → Nat → α) (a k : Nat) (v : α) : Nat → Nat → α := fun a' k' => if a' = a ∧ k' = k then v else f a' k'
def u1 {α : Type} (f : Nat → Nat → α) (a : Nat) (v : α) : Nat → Nat → α := fun a' k' => if a' = a then v else f a' k'
def sI (h : Hp) (a k : Nat) (v : Int32) : Hp := (h.1, h.2.1, u2 (HI h) a k v, h.2.2.2)
def sR (h : Hp) (a k : Nat) (v : Nat) : Hp := (h.1, h.2.1, h.2.2.1, u2 (HR h) a k v, h.2.2.2.2)
def sJ (h : Hp) (a k : Nat) (v : Int64) : Hp := (h.1, h.2.1, h.2.2.1, h.2.2.2.1, u2 (HJ h) a k v, h.2.2.2.2.2)
def sD (h : Hp) (a k : Nat) (v : UInt64) : Hp := (h.1, h.2.1, h.2.2.1, h.2.2.2.1, h.2.2.2.2.1, u2 (HD h) a k v)
/-- a new cell of a kind, with a length, all 0 -/
def hnew (h : Hp) (kd len : Nat) : Hp := ((HN h + 1, HC h + 1, HS h + len), (fun a => if a = HN h then (kd, len) else h.2.1 a), u1 (HI h) (HN h) 0, u1 (HR h) (HN h) 0, u1 (HJ h) (HN h) 0, u1 (HD h) (HN h) 0)
/-- new int[n][m] -/
def hnew2 (h : Hp) (n m : Nat) : Hp := ((HN h + (1 + n), HC h + (1 + n), HS h + (n + n * m)), (fun a => if a = HN h then (106, n) else if HN h < a ∧ a ≤ HN h + n then (100, m) else h.2.1 a), (fun a k => if HN h ≤ a ∧ a ≤ HN h + n then 0 else HI h a k), (fun a k => if a = HN h then (if k < n then HN h + 1 + k else 0) else if HN h < a ∧ a ≤ HN h + n then 0 else HR h a k), (fun a k => if HN h ≤ a ∧ a ≤ HN h + n then 0 else HJ h a k), (fun a k => if HN h ≤ a ∧ a ≤ HN h + n then 0 else HD h a k))
/-- new boolean[n][m] -/
def hnew3 (h : Hp) (n m : Nat) : Hp := ((HN h + (1 + n), HC h + (1 + n), HS h + (n + n * m)), (fun a => if a = HN h then (108, n) else if HN h < a ∧ a ≤ HN h + n then (103, m) else h.2.1 a), (fun a k => if HN h ≤ a ∧ a ≤ HN h + n then 0 else HI h a k), (fun a k => if a = HN h then (if k < n then HN h + 1 + k else 0) else if HN h < a ∧ a ≤ HN h + n then 0 else HR h a k), (fun a k => if HN h ≤ a ∧ a ≤ HN h + n then 0 else HJ h a k), (fun a k => if HN h ≤ a ∧ a ≤ HN h + n then 0 else HD h a k))
/-- a byte array's copy -/
def hcln (h : Hp) (a : Nat) : Hp := ((HN h + 1, HC h + 1, HS h + HL h a), (fun b => if b = HN h then (102, HL h a) else h.2.1 b), (fun b k => if b = HN h then HI h a k else HI h b k), u1 (HR h) (HN h) 0, u1 (HJ h) (HN h) 0, u1 (HD h) (HN h) 0)
/-- an exception is made and thrown: a cell of six slots that nobody sees -/
def hthr (h : Hp) : Hp := ((HN h, HC h + 1, HS h + 6), h.2)
def hcpy (h : Hp) (sa sp da dp n : Nat) : Hp := (h.1, h.2.1, (fun a k => if a = da ∧ dp ≤ k ∧ k < dp + n then HI h sa (sp + (k - dp)) else HI h a k), h.2.2.2)
abbrev Res : Type := Option (Except Nat Value × Hp)
/-- is j an index of n places -/
def inb (j : Int32) (n : Nat) : Bool := decide (0 ≤ j) && decide (j.toNatClampNeg < n)
def gl : List Value → Nat → Value
  | [], _ => .null
  | v :: _, 0 => v
  | _ :: l, k + 1 => gl l k
def sl : List Value → Nat → Value → List Value
  | [], _, _ => []
  | _ :: l, 0, w => w :: l
  | v :: l, k + 1, w => v :: sl l k w
def popn : Nat → List Value → List Value → Option (List Value × List Value)
  | 0, st, acc => some (acc, st)
  | _ + 1, [], _ => none
  | n + 1, v :: st, acc => popn n st (v :: acc)
def wgt : List Value → Nat
  | [] => 0
  | v :: l => v.category + wgt l
def padn : Nat → List Value → List Value
  | 0, _ => []
  | n + 1, [] => .null :: padn n []
  | n + 1, v :: l => v :: padn n l
/-- what a call hands back, by the type of its answer: 0 nothing, 1 int, 2 a reference, 3 double, 4 float -/
def bV (r : Res) (f : Hp → Res) (g : Nat → Hp → Res) : Res := match r with
  | some (.ok .null, h) => f h
  | some (.error e, h) => g e h
  | _ => none
def bI (r : Res) (f : Int32 → Hp → Res) (g : Nat → Hp → Res) : Res := match r with
  | some (.ok (.int x), h) => f x h
  | some (.error e, h) => g e h
  | _ => none
def bR (r : Res) (f : Nat → Hp → Res) (g : Nat → Hp → Res) : Res := match r with
  | some (.ok (.ref x), h) => f x h
  | some (.error e, h) => g e h
  | _ => none
def bD (r : Res) (f : UInt64 → Hp → Res) (g : Nat → Hp → Res) : Res := match r with
  | some (.ok (.double x), h) => f x h
  | some (.error e, h) => g e h
  | _ => none
def bF (r : Res) (f : UInt32 → Hp → Res) (g : Nat → Hp → Res) : Res := match r with
  | some (.ok (.float x), h) => f x h
  | some (.error e, h) => g e h
  | _ => none
/-- a thrown exception at pc, against a table of (from, to, the place behind the handler's store, which, the local it stores to): there, or the way out -/
def hsel : List (Nat × Nat × Nat × Nat × Nat) → Nat → Nat → (Nat → Nat → Res) → Res → Res
  | [], _, _, _, o => o
  | r :: l, pc, e, k, o => cond (Nat.ble r.1 pc && Nat.blt pc r.2.1) (if e = r.2.2.2.1 then k r.2.2.1 r.2.2.2.2 else hsel l pc e k o) (hsel l pc e k o)
def chI (h : Hp) (a kd : Nat) (j : Int32) : Bool := Nat.beq (HK h a) kd && inb j (HL h a)
def ckK (h : Hp) (a kd : Nat) : Bool := Nat.beq (HK h a) kd
/-- a String, a literal or a made one -/
def ckS (h : Hp) (a : Nat) : Bool := ckK h a 11 || ckK h a 9
def ckG (h : Hp) (a kd : Nat) : Bool := match kd with
  | 11 => ckS h a
  | kd => ckK h a kd
/-- may n bytes or ints be copied so -/
def bfit (h : Hp) (a sp n : Nat) : Bool := (List.range n).all (fun i => decide (-128 ≤ HI h a (sp + i)) && decide (HI h a (sp + i) ≤ 127))
def cpOK (h : Hp) (sa da : Nat) (sp dp n : Int32) (w : Nat) : Bool := ((ckK h da 102 && (ckK h sa 102 || ckK h sa 203) && bfit h sa sp.toNatClampNeg n.toNatClampNeg) || (ckK h da 100 && ckK h sa 100)) && Nat.ble w 8 && decide (sa ≠ da) && decide (0 ≤ n) && decide (0 ≤ sp) && decide (0 ≤ dp) && Nat.ble (sp.toNatClampNeg + n.toNatClampNeg) (HL h sa) && Nat.ble (dp.toNatClampNeg + n.toNatClampNeg) (HL h da)
def rkOK (rk : Nat) (as : List Value) (h : Hp) : Bool := match rk with
  | 0 => true
  | rk + 1 => match as with
    | .ref a :: _ => ckG h a (rk + 1)
    | _ => false
/-- does an int fit a type: 0 int, 1 boolean, 2 char, 3 byte -/
def fitc (t : Nat) (x : Int32) : Bool := match t with
  | 0 => true
  | 1 => decide (x = 0) || decide (x = 1)
  | 2 => decide (0 ≤ x) && decide (x ≤ 65535)
  | _ => decide (-128 ≤ x) && decide (x ≤ 127)
def cint {β : Type} (c : ClassFile.Cond) (x y : Int32) (t f : β) : β := match c with
  | .eq => if x = y then t else f
  | .ne => if x = y then f else t
  | .lt => if x < y then t else f
  | .ge => if x < y then f else t
  | .gt => if y < x then t else f
  | .le => if y < x then f else t
def tsel : List Int → Nat → Int → Int
  | [], _, d => d
  | o :: _, 0, _ => o
  | _ :: l, k + 1, d => tsel l k d
section STP
variable (hs : List (Nat × Nat × Nat × Nat × Nat)) (ks : Nat → List Value → List Value → Hp → Res) (cl : Nat → List Value → Hp → Res)
/-- a call with the arguments as and the rest of the stack st: what comes back goes on at nx, what is thrown goes to a handler or out -/
def callp (pc nx y2 rt : Nat) (ls as st : List Value) (h : Hp) : Res := match rt with
  | 0 => bV (cl y2 as h) (fun h' => ks nx ls st h') (fun e h' => hsel hs pc e (fun q k => ks q (sl ls k .null) [] h') (some (.error e, h')))
  | 1 => bI (cl y2 as h) (fun x h' => ks nx ls (.int x :: st) h') (fun e h' => hsel hs pc e (fun q k => ks q (sl ls k .null) [] h') (some (.error e, h')))
  | 2 => bR (cl y2 as h) (fun x h' => ks nx ls (.ref x :: st) h') (fun e h' => hsel hs pc e (fun q k => ks q (sl ls k .null) [] h') (some (.error e, h')))
  | 3 => bD (cl y2 as h) (fun x h' => ks nx ls (.double x :: st) h') (fun e h' => hsel hs pc e (fun q k => ks q (sl ls k .null) [] h') (some (.error e, h')))
  | _ => bF (cl y2 as h) (fun x h' => ks nx ls (.float x :: st) h') (fun e h' => hsel hs pc e (fun q k => ks q (sl ls k .null) [] h') (some (.error e, h')))
end STP
section STQ
variable {β : Type} (nn : β) (fin : Except Nat Value × Hp → β) (ks : Nat → List Value → List Value → Hp → β) (call : Nat → Nat → List Value → List Value → List Value → Hp → β) (rk : Nat → Nat) (y : Nat)
/-- one instruction, resolved: what it does, and how it goes on -/
def stp (op : Instr) (nx : Nat) (ls st : List Value) (h : Hp) : β :=
  match op with
  | .iconst v => ks nx ls (.int (Int32.ofInt v) :: st) h
  | .lconst v => ks nx ls (.long (Int64.ofNat v.val) :: st) h
  | .fconst _ => ks nx ls (.float FP.fconst0 :: st) h
  | .dconst _ => ks nx ls (.double FP.dconst0 :: st) h
  | .iload k => match gl ls k with
    | .int x => ks nx ls (.int x :: st) h
    | _ => nn
  | .aload k => match gl ls k with
    | .ref x => ks nx ls (.ref x :: st) h
    | _ => nn
  | .dload k => match gl ls k with
    | .double x => ks nx ls (.double x :: st) h
    | _ => nn
  | .fload k => match gl ls k with
    | .float x => ks nx ls (.float x :: st) h
    | _ => nn
  | .istore k => match st with
    | .int x :: st => ks nx (sl ls k (.int x)) st h
    | _ => nn
  | .astore k => match st with
    | .ref x :: st => ks nx (sl ls k (.ref x)) st h
    | _ => nn
  | .fstore k => match st with
    | .float x :: st => ks nx (sl ls k (.float x)) st h
    | _ => nn
  | .dstore k => match st with
    | .double x :: st => ks nx (sl (sl ls k (.double x)) (k + 1) .null) st h
    | _ => nn
  | .iinc k v => match gl ls k with
    | .int x => ks nx (sl ls k (.int (x + Int32.ofInt v))) st h
    | _ => nn
  | .iadd => match st with
    | .int y :: .int x :: st => ks nx ls (.int (x + y) :: st) h
    | _ => nn
  | .isub => match st with
    | .int y :: .int x :: st => ks nx ls (.int (x - y) :: st) h
    | _ => nn
  | .imul => match st with
    | .int y :: .int x :: st => ks nx ls (.int (x * y) :: st) h
    | _ => nn
  | .iand => match st with
    | .int y :: .int x :: st => ks nx ls (.int (x &&& y) :: st) h
    | _ => nn
  | .ior => match st with
    | .int y :: .int x :: st => ks nx ls (.int (x ||| y) :: st) h
    | _ => nn
  | .ixor => match st with
    | .int y :: .int x :: st => ks nx ls (.int (x ^^^ y) :: st) h
    | _ => nn
  | .ishl => match st with
    | .int y :: .int x :: st => ks nx ls (.int (x <<< (y &&& 31)) :: st) h
    | _ => nn
  | .ishr => match st with
    | .int y :: .int x :: st => ks nx ls (.int (x >>> (y &&& 31)) :: st) h
    | _ => nn
  | .iushr => match st with
    | .int y :: .int x :: st => ks nx ls (.int (x.toUInt32 >>> (y.toUInt32 &&& Int32.toUInt32 31)).toInt32 :: st) h
    | _ => nn
  | .ineg => match st with
    | .int x :: st => ks nx ls (.int (-x) :: st) h
    | _ => nn
  | .idiv => match st with
    | .int y :: .int x :: st => if y = 0 then nn else ks nx ls (.int (x / y) :: st) h
    | _ => nn
  | .irem => match st with
    | .int y :: .int x :: st => if y = 0 then nn else ks nx ls (.int (x - x / y * y) :: st) h
    | _ => nn
  | .i2b => match st with
    | .int x :: st => ks nx ls (.int x.toInt8.toInt32 :: st) h
    | _ => nn
  | .i2c => match st with
    | .int x :: st => ks nx ls (.int (x.toUInt32 % 65536).toInt32 :: st) h
    | _ => nn
  | .i2l => match st with
    | .int x :: st => ks nx ls (.long x.toInt64 :: st) h
    | _ => nn
  | .i2d => match st with
    | .int x :: st => ks nx ls (.double (FP.i2d x) :: st) h
    | _ => nn
  | .i2f => match st with
    | .int x :: st => ks nx ls (.float (FP.i2f x) :: st) h
    | _ => nn
  | .f2d => match st with
    | .float x :: st => if FP.f2d x &&& 0x7fffffffffffffff ≤ 0x7ff0000000000000 then ks nx ls (.double (FP.f2d x) :: st) h else nn
    | _ => nn
  | .ddiv => match st with
    | .double y :: .double x :: st => if FP.ddiv x y &&& 0x7fffffffffffffff ≤ 0x7ff0000000000000 then ks nx ls (.double (FP.ddiv x y) :: st) h else nn
    | _ => nn
  | .fdiv => match st with
    | .float y :: .float x :: st => if FP.fdiv x y &&& 0x7fffffff ≤ 0x7f800000 then ks nx ls (.float (FP.fdiv x y) :: st) h else nn
    | _ => nn
  | .lcmp => match st with
    | .long y :: .long x :: st => ks nx ls (.int (lg_cmp x y) :: st) h
    | _ => nn
  | .dcmp o => match st with
    | .double y :: .double x :: st => ks nx ls (.int (Op.cmpValue (FP.dcmp x y) o) :: st) h
    | _ => nn
  | .fcmp o => match st with
    | .float y :: .float x :: st => ks nx ls (.int (Op.cmpValue (FP.fcmp x y) o) :: st) h
    | _ => nn
  | .dup => match st with
    | .int x :: st => ks nx ls (.int x :: .int x :: st) h
    | .ref x :: st => ks nx ls (.ref x :: .ref x :: st) h
    | _ => nn
  | .dup_x1 => match st with
    | .int x :: .ref a :: st => ks nx ls (.int x :: .ref a :: .int x :: st) h
    | .int x :: .int a :: st => ks nx ls (.int x :: .int a :: .int x :: st) h
    | _ => nn
  | .dup2 => match st with
    | .int x :: .ref a :: st => ks nx ls (.int x :: .ref a :: .int x :: .ref a :: st) h
    | _ => nn
  | .pop => match st with
    | .int _ :: st => ks nx ls st h
    | .ref _ :: st => ks nx ls st h
    | _ => nn
  | .goto t => ks t.toNat ls st h
  | .ifCond c t => match st with
    | .int x :: st => cint c x 0 (ks t.toNat ls st h) (ks nx ls st h)
    | _ => nn
  | .if_icmp c t => match st with
    | .int y :: .int x :: st => cint c x y (ks t.toNat ls st h) (ks nx ls st h)
    | _ => nn
  | .ifnonnull t => match st with
    | .ref a :: st => cond (Nat.blt 0 (HK h a)) (ks t.toNat ls st h) nn
    | _ => nn
  | .tableswitch d lo hi os => match st with
    | .int x :: st => if x.toInt < lo then ks d.toNat ls st h else if hi < x.toInt then ks d.toNat ls st h else ks (tsel os.toList (x.toInt - lo).toNat d).toNat ls st h
    | _ => nn
  | .getfield n => match st with
    | .ref a :: st => cond (ckG h a (n / 64)) (match n % 2 with
      | 0 => ks nx ls (.int (HI h a (n / 2 % 32)) :: st) h
      | _ => ks nx ls (.ref (HR h a (n / 2 % 32)) :: st) h) nn
    | _ => nn
  | .putfield n => match st with
    | .int x :: .ref a :: st => cond (Nat.beq (n % 2) 0) (cond (ckK h a (n / 64 % 16)) (match n / 1024 with
      | 0 => ks nx ls st (sI h a (n / 2 % 32) x)
      | t + 1 => cond (fitc (t + 1) x) (ks nx ls st (sI h a (n / 2 % 32) x)) nn) nn) nn
    | .ref x :: .ref a :: st => cond (Nat.beq (n % 2) 1) (cond (ckK h a (n / 64 % 16)) (ks nx ls st (sR h a (n / 2 % 32) x)) nn) nn
    | _ => nn
  | .getstatic a => ks nx ls (.ref a :: st) h
  | .new n => ks nx ls (.ref (HN h) :: st) (hnew h (n / 32) (n % 32))
  | .newarray t => match st with
    | .int n :: st => cond (decide (0 ≤ n) && decide (n ≤ 100000)) (ks nx ls (.ref (HN h) :: st) (hnew h (match t with | .int => 100 | .char => 101 | .byte => 102 | .boolean => 103 | _ => 0) n.toNatClampNeg)) nn
    | _ => nn
  | .anewarray kd => match st with
    | .int n :: st => cond (decide (0 ≤ n) && decide (n ≤ 100)) (ks nx ls (.ref (HN h) :: st) (hnew h kd n.toNatClampNeg)) nn
    | _ => nn
  | .multianewarray kd _ => match st with
    | .int m :: .int n :: st => match kd with
      | 108 => cond (decide (0 ≤ n) && decide (n ≤ 100) && decide (0 ≤ m) && decide (m ≤ 100)) (ks nx ls (.ref (HN h) :: st) (hnew3 h n.toNatClampNeg m.toNatClampNeg)) nn
      | _ => cond (decide (0 ≤ n) && decide (n ≤ 100) && decide (0 ≤ m) && decide (m ≤ 100)) (ks nx ls (.ref (HN h) :: st) (hnew2 h n.toNatClampNeg m.toNatClampNeg)) nn
    | _ => nn
  | .arraylength => match st with
    | .ref a :: st => cond (Nat.ble 100 (HK h a)) (ks nx ls (.int (Int32.ofNat (HL h a)) :: st) h) nn
    | _ => nn
  | .iaload => match st with
    | .int j :: .ref a :: st => cond (chI h a 100 j) (ks nx ls (.int (HI h a j.toNatClampNeg) :: st) h) nn
    | _ => nn
  | .saload => match st with
    | .int j :: .ref a :: st => cond (chI h a 200 j) (ks nx ls (.int (HI h a j.toNatClampNeg) :: st) h) nn
    | _ => nn
  | .caload => match st with
    | .int j :: .ref a :: st => cond (chI h a 101 j) (ks nx ls (.int (HI h a j.toNatClampNeg) :: st) h) nn
    | _ => nn
  | .baload => match st with
    | .int j :: .ref a :: st => cond (chI h a 102 j) (ks nx ls (.int (HI h a j.toNatClampNeg) :: st) h) nn
    | _ => nn
  | .faload => match st with
    | .int j :: .ref a :: st => cond (chI h a 203 j) (ks nx ls (.int (HI h a j.toNatClampNeg) :: st) h) nn
    | _ => nn
  | .swap => match st with
    | .int j :: .ref a :: st => cond (chI h a 103 j) (ks nx ls (.int (HI h a j.toNatClampNeg) :: st) h) nn
    | _ => nn
  | .checkcast _ => match st with
    | .ref a :: st => cond (ckK h a 102) (ks nx ls (.ref a :: st) h) nn
    | _ => nn
  | .instanceof _ => match st with
    | .ref a :: st => cond (ckK h a 102 && bfit h a 0 (HL h a) && Nat.ble (wgt st) 8) (ks nx ls (.ref (HN h) :: st) (hcln h a)) nn
    | _ => nn
  | .aaload => match st with
    | .int j :: .ref a :: st => cond ((Nat.beq (HK h a) 106 || Nat.beq (HK h a) 107) && inb j (HL h a)) (ks nx ls (.ref (HR h a j.toNatClampNeg) :: st) h) nn
    | _ => nn
  | .dup_x2 => match st with
    | .int j :: .ref a :: st => cond (chI h a 108 j) (ks nx ls (.ref (HR h a j.toNatClampNeg) :: st) h) nn
    | _ => nn
  | .iastore => match st with
    | .int x :: .int j :: .ref a :: st => cond (chI h a 100 j) (ks nx ls st (sI h a j.toNatClampNeg x)) nn
    | _ => nn
  | .castore => match st with
    | .int x :: .int j :: .ref a :: st => cond (chI h a 101 j && fitc 2 x) (ks nx ls st (sI h a j.toNatClampNeg x)) nn
    | _ => nn
  | .bastore => match st with
    | .int x :: .int j :: .ref a :: st => cond (chI h a 102 j && fitc 3 x) (ks nx ls st (sI h a j.toNatClampNeg x)) nn
    | _ => nn
  | .nop => match st with
    | .int x :: .int j :: .ref a :: st => cond (chI h a 103 j && fitc 1 x) (ks nx ls st (sI h a j.toNatClampNeg x)) nn
    | _ => nn
  | .aastore => match st with
    | .ref x :: .int j :: .ref a :: st => cond (chI h a 107 j && ckK h x 2) (ks nx ls st (sR h a j.toNatClampNeg x)) nn
    | _ => nn
  | .invokeinterface y2 c => match popn (c / 8) st [] with
    | some (as, st) => cond (Nat.blt y2 y && Nat.ble (wgt st) 8 && Nat.beq (wgt as) as.length) (cond (rkOK (rk y2) as h) (call y2 (c % 8) ls as st h) nn) nn
    | none => nn
  | .invokespecial _ => match st with
    | .ref a :: st => cond (Nat.blt 0 (HK h a) && Nat.ble (wgt st) 8) (ks nx ls st h) nn
    | _ => nn
  | .invokedynamic e => cond (Nat.ble (wgt st) 8) (fin (.error e, hthr h)) nn
  | .invokestatic n => match n with
    | 0 => match st with
      | .int n :: .int dp :: .ref da :: .int sp :: .ref sa :: st => cond (cpOK h sa da sp dp n (wgt st)) (ks nx ls st (hcpy h sa sp.toNatClampNeg da dp.toNatClampNeg n.toNatClampNeg)) nn
      | _ => nn
    | 1 => match st with
      | .int y :: .int x :: st => cond (Nat.ble (wgt st) 8) (ks nx ls (.int (if y < x then y else x) :: st) h) nn
      | _ => nn
    | 2 => match st with
      | .int y :: .int x :: st => cond (Nat.ble (wgt st) 8) (ks nx ls (.int (if x < y then y else x) :: st) h) nn
      | _ => nn
    | _ => match st with
      | .int x :: st => cond (Nat.ble (wgt st) 8) (ks nx ls (.int (if 0 ≤ x then x else 0 - x) :: st) h) nn
      | _ => nn
  | .ireturn => match st with
    | [.int x] => fin (.ok (.int x), h)
    | _ => nn
  | .ret t => match st with
    | [.int x] => cond (fitc t x) (fin (.ok (.int x), h)) nn
    | _ => nn
  | .areturn => match st with
    | [.ref x] => fin (.ok (.ref x), h)
    | _ => nn
  | .dreturn => match st with
    | [.double x] => fin (.ok (.double x), h)
    | _ => nn
  | .freturn => match st with
    | [.float x] => fin (.ok (.float x), h)
    | _ => nn
  | .return_ => match st with
    | [] => fin (.ok .null, h)
    | _ => nn
  | _ => nn
end STQ
