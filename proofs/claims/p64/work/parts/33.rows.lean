/-! EACH ROW of the code against its bytes: the instruction decodes there, and the abstract one is its own -/
def fndFld : List (Nat × Nat × Nat × Nat × Nat) → Nat → Nat → Nat → Nat → Bool
  | [], _, _, _, _ => false
  | r :: l, o, i, kd, k => (Nat.beq r.1 o && Nat.beq r.2.1 i && Nat.beq r.2.2.1 kd && Nat.beq r.2.2.2.1 k) || fndFld l o i kd k
def fndLnk : List (Nat × Nat × Nat × Nat × List Nat) → Nat → Nat → Nat → Nat → Bool
  | [], _, _, _, _ => false
  | r :: l, o, i, kd, y => (Nat.beq r.1 o && Nat.beq r.2.1 i && Nat.beq r.2.2.1 kd && Nat.beq r.2.2.2.1 y) || fndLnk l o i kd y
def fndNew : List (Nat × Nat × Nat × List Nat) → Nat → Nat → Nat → Bool
  | [], _, _, _ => false
  | r :: l, o, i, kd => (Nat.beq r.1 o && Nat.beq r.2.1 i && Nat.beq r.2.2.1 kd) || fndNew l o i kd
def fndLdi : List (Nat × Nat × Int × Nat) → Nat → Nat → Int → Bool
  | [], _, _, _ => false
  | r :: l, o, i, v => (Nat.beq r.1 o && Nat.beq r.2.1 i && decide (r.2.2.1 = v)) || fndLdi l o i v
def fnd3 : List (Nat × Nat × Nat) → Nat → Nat → Nat → Bool
  | [], _, _, _ => false
  | r :: l, a, b, c => (Nat.beq r.1 a && Nat.beq r.2.1 b && Nat.beq r.2.2 c) || fnd3 l a b c
def rtc (t : Option FieldType) : Nat := match t with
  | none => 0
  | some .int => 1
  | some .boolean => 1
  | some .char => 1
  | some .byte => 1
  | some .double => 3
  | some .float => 4
  | some (.object _) => 2
  | some (.array _) => 2
  | _ => 9
/-- fields of String: 15 coder, 9 value; method ids of the law's class have number olaw -/
def jmp (pc : Nat) (off t : Int) : Bool := decide ((pc : Int) + off = t) && decide (0 ≤ t)
noncomputable def fty (kd k : Nat) : FieldType := tta kd k
def ftc (t : FieldType) : Nat := match t with
  | .int => 0
  | .boolean => 2
  | .byte => 6
  | .char => 4
  | .object _ => 1
  | .array _ => 1
  | _ => 99
def jmps : Nat → List Int → List Int → Bool
  | _, [], [] => true
  | pc, a :: l, b :: k => jmp pc a b && jmps pc l k
  | _, _, _ => false
/-- is op what orig does there: method y, place pc, next place nx -/
noncomputable def matchop (y pc nx : Nat) (orig op : Instr) : Bool := match op with
  | .iconst v => match orig with
    | .iconst w => decide (v = w) && Nat.beq nx (pc + 1)
    | .bipush w => decide (Int32.ofInt v = (Int8.ofInt w).toInt32) && Nat.beq nx (pc + 2)
    | .sipush w => decide (Int32.ofInt v = (Int16.ofInt w).toInt32) && Nat.beq nx (pc + 3)
    | .ldc i => fndLdi ldiA (yo y) i v && Nat.beq nx (pc + 2)
    | .ldc_w i => fndLdi ldiA (yo y) i v && Nat.beq nx (pc + 3)
    | .getstatic i => decide (v = 1) && fnd3 stzA (yo y) i 1 && Nat.beq nx (pc + 3)
    | _ => false
  | .lconst v => match orig with
    | .lconst w => decide (v = w) && Nat.beq nx (pc + 1)
    | _ => false
  | .fconst v => decide (orig = .fconst 0) && decide (v = 0) && Nat.beq nx (pc + 1)
  | .dconst v => decide (orig = .dconst 0) && decide (v = 0) && Nat.beq nx (pc + 1)
  | .iload k => match orig with
    | .iload_n n => Nat.beq n.val k && Nat.beq nx (pc + 1)
    | .iload n => Nat.beq n k && Nat.beq nx (pc + 2)
    | _ => false
  | .aload k => match orig with
    | .aload_n n => Nat.beq n.val k && Nat.beq nx (pc + 1)
    | .aload n => Nat.beq n k && Nat.beq nx (pc + 2)
    | _ => false
  | .fload k => match orig with
    | .fload_n n => Nat.beq n.val k && Nat.beq nx (pc + 1)
    | .fload n => Nat.beq n k && Nat.beq nx (pc + 2)
    | _ => false
  | .dload k => match orig with
    | .dload_n n => Nat.beq n.val k && Nat.beq nx (pc + 1)
    | .dload n => Nat.beq n k && Nat.beq nx (pc + 2)
    | _ => false
  | .istore k => Nat.blt k (nl y) && (match orig with
    | .istore_n n => Nat.beq n.val k && Nat.beq nx (pc + 1)
    | .istore n => Nat.beq n k && Nat.beq nx (pc + 2)
    | _ => false)
  | .astore k => Nat.blt k (nl y) && (match orig with
    | .astore_n n => Nat.beq n.val k && Nat.beq nx (pc + 1)
    | .astore n => Nat.beq n k && Nat.beq nx (pc + 2)
    | _ => false)
  | .fstore k => Nat.blt k (nl y) && (match orig with
    | .fstore_n n => Nat.beq n.val k && Nat.beq nx (pc + 1)
    | .fstore n => Nat.beq n k && Nat.beq nx (pc + 2)
    | _ => false)
  | .dstore k => Nat.blt (k + 1) (nl y) && (match orig with
    | .dstore_n n => Nat.beq n.val k && Nat.beq nx (pc + 1)
    | .dstore n => Nat.beq n k && Nat.beq nx (pc + 2)
    | _ => false)
  | .iinc k v => Nat.blt k (nl y) && decide (orig = .iinc k v) && Nat.beq nx (pc + 3)
  | .goto t => match orig with
    | .goto off => jmp pc off t && Nat.beq nx (pc + 3)
    | _ => false
  | .ifCond c t => Nat.beq nx (pc + 3) && (match orig with
    | .ifCond c' off => decide (c = c') && jmp pc off t
    | _ => false)
  | .if_icmp c t => Nat.beq nx (pc + 3) && (match orig with
    | .if_icmp c' off => decide (c = c') && jmp pc off t
    | _ => false)
  | .ifnonnull t => Nat.beq nx (pc + 3) && (match orig with
    | .ifnonnull off => jmp pc off t
    | _ => false)
  | .tableswitch d lo hi os => match orig with
    | .tableswitch d' lo' hi' os' => decide (lo = lo') && decide (hi = hi') && jmp pc d' d && jmps pc os'.toList os.toList && decide (hi - lo + 1 = os.toList.length) && decide (lo ≤ hi)
    | _ => false
  | .getfield n => Nat.beq nx (pc + 3) && (match orig with
    | .getfield i => (fndFld fldA (yo y) i (n / 64) (n / 2 % 32) && Nat.blt (n / 64) 11 && Nat.beq (ftc (fty (n / 64) (n / 2 % 32)) % 2) (n % 2)) || (fnd3 stfA (yo y) i n && fndFld fldA (yo y) i 9 (n / 2 % 32) && Nat.beq (ftc (fty 9 (n / 2 % 32)) % 2) (n % 2))
    | _ => false)
  | .putfield n => Nat.beq nx (pc + 3) && (match orig with
    | .putfield i => fndFld fldA (yo y) i (n / 64 % 16) (n / 2 % 32) && Nat.beq (ftc (fty (n / 64 % 16) (n / 2 % 32))) (n / 1024 * 2 + n % 2) && (!(TTa (n / 64 % 16) (n / 2 % 32)).2.2.2 || (decide ((yn y).name = "<init>") && decide ((TTa (n / 64 % 16) (n / 2 % 32)).1 = cn (yo y))))
    | _ => false)
  | .getstatic a => match orig with
    | .aconst_null => Nat.beq a 0 && Nat.beq nx (pc + 1)
    | .getstatic i => fnd3 stzA (yo y) i (a + 100) && Nat.beq nx (pc + 3)
    | .ldc i => fnd3 slsA (yo y) i a && Nat.beq nx (pc + 2)
    | .ldc_w i => fnd3 slsA (yo y) i a && Nat.beq nx (pc + 3)
    | _ => false
  | .new n => Nat.beq nx (pc + 3) && Nat.beq (n % 32) (NNa (n / 32)) && (match orig with
    | .new i => fndNew newA (yo y) i (n / 32)
    | _ => false)
  | .newarray t => decide (orig = .newarray t) && Nat.beq nx (pc + 2) && (match t with | .int => true | .char => true | .byte => true | .boolean => true | _ => false)
  | .anewarray kd => Nat.beq kd 107 && Nat.beq nx (pc + 3) && (match orig with
    | .anewarray i => fnd3 anwA (yo y) i 0
    | _ => false)
  | .multianewarray kd _ => Nat.beq nx (pc + 4) && (match orig with
    | .multianewarray i d => Nat.beq d 2 && fnd3 anwA (yo y) i (match kd with | 108 => 2 | _ => 1)
    | _ => false)
  | .dup_x2 => decide (orig = .aaload) && Nat.beq nx (pc + 1)
  | .swap => decide (orig = .baload) && Nat.beq nx (pc + 1)
  | .nop => decide (orig = .bastore) && Nat.beq nx (pc + 1)
  | .checkcast _ => Nat.beq nx (pc + 3) && (match orig with
    | .checkcast i => fnd3 anwA (yo y) i 3
    | _ => false)
  | .instanceof _ => Nat.beq nx (pc + 3) && (match orig with
    | .invokevirtual i => fnd3 anwA (yo y) i 4
    | _ => false)
  | .iaload => decide (orig = .iaload) && Nat.beq nx (pc + 1)
  | .saload => decide (orig = .iaload) && Nat.beq nx (pc + 1)
  | .baload => decide (orig = .baload) && Nat.beq nx (pc + 1)
  | .faload => decide (orig = .baload) && Nat.beq nx (pc + 1)
  | .invokeinterface y2 c => Nat.beq nx (pc + 3) && Nat.blt y2 343 && Nat.beq (c % 8) (rtc (yr y2)) && (match orig with
    | .invokevirtual i => (fndLnk lnkA (yo y) i 0 y2 || fndLnk lnkA (yo y) i 5 y2 || fndLnk lnkA (yo y) i 8 y2) && Nat.beq (c / 8) (np y2 + 1)
    | .invokestatic i => (fndLnk lnkA (yo y) i 1 y2 || fndLnk lnkA (yo y) i 4 y2 || fndLnk lnkA (yo y) i 7 y2) && Nat.beq (c / 8) (np y2)
    | .invokespecial i => (fndLnk lnkA (yo y) i 2 y2 || fndLnk lnkA (yo y) i 3 y2 || fndLnk lnkA (yo y) i 6 y2) && Nat.beq (c / 8) (np y2 + 1)
    | _ => false)
  | .invokespecial z => Nat.beq z 0 && Nat.beq nx (pc + 3) && (match orig with
    | .invokespecial i => fnd3 oinA (yo y) i 0
    | _ => false)
  | .invokestatic n => Nat.beq nx (pc + 3) && (match orig with
    | .invokestatic i => fnd3 mthA (yo y) i n
    | _ => false)
  | .invokedynamic e => List.isEmpty (hd y) && (match orig with
    | .new i => fndThr thrA y pc i e
    | _ => false)
  | .ireturn => decide (orig = .ireturn) && decide (yr y = some .int) && Nat.beq nx (pc + 1)
  | .ret t => decide (orig = .ireturn) && Nat.beq nx (pc + 1) && (match t with | 1 => decide (yr y = some .boolean) | 2 => decide (yr y = some .char) | 3 => decide (yr y = some .byte) | _ => false)
  | .areturn => decide (orig = .areturn) && Nat.beq (rtc (yr y)) 2 && Nat.beq nx (pc + 1)
  | .dreturn => decide (orig = .dreturn) && decide (yr y = some .double) && Nat.beq nx (pc + 1)
  | .freturn => decide (orig = .freturn) && decide (yr y = some .float) && Nat.beq nx (pc + 1)
  | .return_ => decide (orig = .return_) && decide (yr y = none) && Nat.beq nx (pc + 1)
  | .aload_n _ => false
  | .ldc _ => false
  | o => decide (orig = o) && Nat.beq nx (pc + 1)
noncomputable def chkRow (y : Nat) (r : Nat × Instr × Nat × Instr) : Bool := decide (decode (yb y) r.1 = .ok (r.2.1, r.2.2.1 - r.1)) && Nat.blt r.1 r.2.2.1 && matchop y r.1 r.2.2.1 r.2.1 r.2.2.2
