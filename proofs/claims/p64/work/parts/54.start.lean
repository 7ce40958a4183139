/-! THE LAW'S START: what the Statement gives of it, put into the words of the abstract machine -/
def FL : List Cond := flatC (Cond.and given_1 narrow_1)
/-- literals: class, entry, place among the old cells, of stringRef, of what is said of it -/
def litP : List (Nat × Nat × Nat × Nat × Nat) := [(0, 286, 4, 1328, 1028), (0, 288, 6, 1329, 1043), (0, 290, 8, 1330, 1059), (0, 278, 10, 1252, 903), (8, 200, 12, 1257, 909), (8, 212, 14, 1261, 913), (8, 214, 16, 1262, 918), (8, 235, 18, 1319, 980), (8, 237, 20, 1320, 985), (8, 239, 22, 1321, 990), (8, 241, 24, 1322, 1005), (8, 243, 26, 1323, 1019), (7, 77, 28, 655, 398)]
/-- messages: class, entry, of stringRef, of what is said of it; in the order of the throws -/
def msgP : List (Nat × Nat × Nat × Nat) := [(0, 351, 792, 532), (0, 358, 834, 656), (0, 343, 787, 514), (0, 353, 794, 559), (0, 88, 474, 279), (0, 95, 509, 329), (0, 100, 525, 357), (0, 265, 1309, 958), (0, 181, 812, 600), (0, 330, 938, 737), (0, 332, 943, 772), (0, 345, 864, 690), (0, 181, 812, 600), (0, 292, 1272, 925), (0, 265, 1309, 958), (0, 188, 824, 620), (0, 360, 932, 719), (0, 341, 1487, 1069), (0, 309, 735, 466), (0, 314, 741, 494)]
def nestP : List Nat := [84, 118, 186, 224, 258, 377, 380, 718]
def ncP : List (List Nat) := [[0, 242, 274, 258, 0], [227, 0, 276, 259, 0], [229, 245, 0, 261, 0], [226, 243, 275, 0, 0], [232, 248, 278, 264, 0]]
def tS (o i : Nat) : Term := .string (cn o) i
def tV (o i : Nat) : Term := .field (tS o i) "java/lang/String" "value" "[B"
def okStr (o i tb fl : Nat) : Bool := (match TBL[tb]? with
  | some (.stringRef c k _) => decide (c = cn o) && Nat.beq k i
  | _ => false) && decide (FL[fl]? = some (.exactly (tS o i) "java/lang/String"))
def okLit (r : Nat × Nat × Nat × Nat × Nat) : Bool := match r with
  | (o, i, a, tb, fl) => okStr o i tb fl && decide (FL[fl + 1]? = some (.eq (.field (tS o i) "java/lang/String" "coder" "B") (.int 0))) && decide (FL[fl + 2]? = some (.arrayOf (tV o i) .byte)) && decide (FL[fl + 3]? = some (.eq (.length (tV o i)) (.int (Int32.ofNat (litA.getD ((a - 4) / 2) []).length)))) &&
    (List.range (litA.getD ((a - 4) / 2) []).length).all (fun j => decide (FL[fl + 4 + j]? = some (.eq (.elem (tV o i) (.int (Int32.ofNat j))) (.int ((litA.getD ((a - 4) / 2) []).getD j 0))))) && decide (4 ≤ a) && decide (a < 30) && decide (a % 2 = 0)
theorem lit_ok : litP.all okLit = true := by decide +kernel
theorem sls_lit : slsA.all (fun r => litP.any (fun q => Nat.beq q.1 r.1 && Nat.beq q.2.1 r.2.1 && Nat.beq q.2.2.1 r.2.2)) = true := by decide +kernel
theorem lit_all : (List.range 13).all (fun k => litP.any (fun q => Nat.beq q.2.2.1 (4 + 2 * k))) = true := by decide +kernel
theorem lit_one : litP.all (fun q => litP.all (fun r => !(Nat.beq q.2.2.1 r.2.2.1) || (Nat.beq q.1 r.1 && Nat.beq q.2.1 r.2.1))) = true := by decide +kernel
def okMsgs : List (Nat × Nat × Nat × Nat × Nat × Nat × Nat × Nat) → List (Nat × Nat × Nat × Nat) → Bool
  | [], _ => true
  | _ :: _, [] => false
  | r :: l, q :: k => Nat.beq q.1 r.2.2.1 && Nat.beq q.2.1 r.2.2.2.2.1 && okStr q.1 q.2.1 q.2.2.1 q.2.2.2 && okMsgs l k
theorem msg_ok : okMsgs thrA msgP = true := by decide +kernel
theorem msgs_at : ∀ {l : List (Nat × Nat × Nat × Nat × Nat × Nat × Nat × Nat)} {k : List (Nat × Nat × Nat × Nat)}, okMsgs l k = true → ∀ r ∈ l, ∃ tb fl, okStr r.2.2.1 r.2.2.2.2.1 tb fl = true
  | [], _, _ => fun r h => nomatch h
  | _ :: _, [], h => by cases h
  | r :: l, q :: k, h => by
    simp only [okMsgs, Bool.and_eq_true] at h
    intro r' hr'
    rcases List.mem_cons.mp hr' with rfl | hr'
    · exact ⟨q.2.2.1, q.2.2.2, by rw [← Nat.eq_of_beq_eq_true h.1.1.1, ← Nat.eq_of_beq_eq_true h.1.1.2]; exact h.1.2⟩
    · exact msgs_at h.2 r' hr'
noncomputable def okNest : List (Nat × Nat × Nat × String) → List Nat → Bool
  | [], _ => true
  | _ :: _, [] => false
  | r :: l, i :: k => decide (TBL[i]? = some (.methodLinkNest (cn r.1) r.2.1 (yn r.2.2.1) r.2.2.2)) && okNest l k
theorem nest_ok : okNest nestA nestP = true := by decide +kernel
theorem nests_at : ∀ {l : List (Nat × Nat × Nat × String)} {k : List Nat}, okNest l k = true → ∀ r ∈ l, Cond.methodLinkNest (cn r.1) r.2.1 (yn r.2.2.1) r.2.2.2 ∈ TBL
  | [], _, _ => fun r h => nomatch h
  | _ :: _, [], h => by cases h
  | r :: l, i :: k, h => by
    simp only [okNest, Bool.and_eq_true, decide_eq_true_eq] at h
    intro r' hr'
    rcases List.mem_cons.mp hr' with rfl | hr'
    · exact List.mem_of_getElem? h.1
    · exact nests_at h.2 r' hr'
def okNc (c d : Nat) : Bool := Nat.beq c d || decide (FL[(ncP.getD (c - 1) []).getD (d - 1) 0]? = some (.not (.castable (exN c) (exN d))))
theorem nc_ok : (List.range 5).all (fun c => (List.range 4).all (fun d => okNc (c + 1) (d + 1))) = true := by decide +kernel
theorem bad_ok : ([1, 2, 3, 4, 5] : List Nat).all (fun e => (exW e).all (fun w => goodWord w || decide (w ∈ TBL))) = true := by decide +kernel
theorem at_ok0 : TBL[89]? = some (.arrayOver (.array .int)) ∧ TBL[171]? = some (.arrayOver (.object "RecordReconciler$Book")) ∧ TBL[285]? = some (.laysStatic "java/lang/String" "COMPACT_STRINGS" "Z") ∧ TBL[456]? = some (.laysStatic "java/lang/Throwable" "UNASSIGNED_STACK" "[Ljava/lang/StackTraceElement;") ∧ TBL[458]? = some (.laysStatic "java/lang/Throwable" "SUPPRESSED_SENTINEL" "Ljava/util/List;") ∧ TBL[690]? = some (.laysStatic "jdk/internal/util/Preconditions" "SIOOBE_FORMATTER" "Ljava/util/function/BiFunction;") ∧ TBL[1133]? = some (.laysStatic "java/lang/Integer" "DigitOnes" "[B") ∧ TBL[1135]? = some (.laysStatic "java/lang/Integer" "DigitTens" "[B") := by decide +kernel
theorem at_okb : TBL[1351]? = some (.arrayOver (.array .boolean)) ∧ TBL[1060]? = some (.castable "[B" "java/lang/Cloneable") := by decide +kernel
theorem at_ok1 : TBL[48]? = some (.initialized "java/lang/String") ∧ TBL[50]? = some (.initialized "java/lang/Throwable") ∧ TBL[63]? = some (.initialized "java/lang/Integer") ∧ TBL[59]? = some (.initialized "jdk/internal/util/Preconditions") := by decide +kernel
theorem fl_ok0 : FL[4]? = some (.eq (.static "java/lang/String" "COMPACT_STRINGS" "Z") (.int 1)) ∧ FL[5]? = some (.isRef (.static "java/lang/Throwable" "UNASSIGNED_STACK" "[Ljava/lang/StackTraceElement;")) ∧ FL[6]? = some (.isRef (.static "java/lang/Throwable" "SUPPRESSED_SENTINEL" "Ljava/util/List;")) ∧ FL[7]? = some (.isRef (.static "jdk/internal/util/Preconditions" "SIOOBE_FORMATTER" "Ljava/util/function/BiFunction;")) ∧ FL[12]? = some (.arrayOf (.static "java/lang/Integer" "DigitOnes" "[B") .byte) ∧ FL[13]? = some (.eq (.length (.static "java/lang/Integer" "DigitOnes" "[B")) (.int 100)) ∧ FL[115]? = some (.arrayOf (.static "java/lang/Integer" "DigitTens" "[B") .byte) ∧ FL[116]? = some (.eq (.length (.static "java/lang/Integer" "DigitTens" "[B")) (.int 100)) := by decide +kernel
theorem dig_ok : (List.range 100).all (fun j => decide (FL[14 + j]? = some (.eq (.elem (.static "java/lang/Integer" "DigitOnes" "[B") (.int (Int32.ofNat j))) (.int (nI (48 + j % 10))))) && decide (FL[117 + j]? = some (.eq (.elem (.static "java/lang/Integer" "DigitTens" "[B") (.int (Int32.ofNat j))) (.int (nI (48 + j / 10)))))) = true := by decide +kernel
theorem sb_ok0 : TBL[276]? = some (.instantiable "java/lang/StringBuilder" 4) ∧ TBL[1067]? = some (.selects "java/lang/StringBuilder" ⟨"java/lang/AbstractStringBuilder", "isLatin1", "()Z"⟩ ⟨"java/lang/AbstractStringBuilder", "isLatin1", "()Z"⟩) ∧ TBL[1040]? = some (.privateMethod ⟨"java/lang/AbstractStringBuilder", "newCapacity", "(I)I"⟩) ∧ TBL[1041]? = some (.instanceMethod ⟨"java/lang/AbstractStringBuilder", "newCapacity", "(I)I"⟩) ∧ TBL[1036]? = some (.privateMethod ⟨"java/lang/AbstractStringBuilder", "ensureCapacityInternal", "(I)V"⟩) ∧ TBL[1037]? = some (.instanceMethod ⟨"java/lang/AbstractStringBuilder", "ensureCapacityInternal", "(I)V"⟩) ∧ TBL[1090]? = some (.privateMethod ⟨"java/lang/AbstractStringBuilder", "inflateIfNeededFor", "(Ljava/lang/String;)V"⟩) ∧ TBL[1091]? = some (.instanceMethod ⟨"java/lang/AbstractStringBuilder", "inflateIfNeededFor", "(Ljava/lang/String;)V"⟩) ∧ TBL[1086]? = some (.privateMethod ⟨"java/lang/AbstractStringBuilder", "putStringAt", "(ILjava/lang/String;)V"⟩) ∧ TBL[1087]? = some (.instanceMethod ⟨"java/lang/AbstractStringBuilder", "putStringAt", "(ILjava/lang/String;)V"⟩) := by decide +kernel
/-- a private method of a superclass is the one that its call selects -/
theorem sel_priv {y z : MethodName} {C : String} {s : State} {args : Array Value} {n : Nat} (hy : y.cls ≠ "java/lang/invoke/MethodHandle" ∧ y.cls ≠ "java/lang/invoke/VarHandle") (hz : z.cls = y.cls)
    (hins : (Cond.instantiable C n).before args s = true) (hsel0 : (Cond.selects C z z).before args s = true) (hpriv : (Cond.privateMethod y).before args s = true) (hinst : (Cond.instanceMethod y).before args s = true) : (Cond.selects C y y).before args s = true := by
  obtain ⟨c, k, hc, hk, -, -, -, -⟩ := Cond.instantiable_spec hins
  obtain ⟨c2, r2, m2, q1, q2, q3, q4, kP, hkP, hkPi⟩ := Cond.selects_spec hsel0
  obtain ⟨mk, methM, hnamed, hmethM, -, -⟩ := Cond.instanceMethod_spec hinst
  have hfound : s.methodFound? y.cls y.name y.desc = some mk := State.methodFound?_of_named hnamed hy
  have hcls : mk.cls = m2.cls := Option.some.inj ((findClass_of_methodNamed hnamed).symm.trans (by rw [← hz]; exact findClass_of_methodNamed q3))
  have hsel : selectMethod {} s.vm c mk = .method mk := selectMethod_private hmethM (Cond.privateMethod_at hpriv mk methM hnamed hmethM)
  simp only [Cond.before, Cond.holds, Cond.value, hc, hfound, hnamed, hsel, hcls, hkP]
  simp; exact hkPi
theorem arrOverA {ty : FieldType} {args : Array Value} {s : State} (h : (Cond.arrayOver (.array ty)).before args s = true) : ∃ (comp c : ClassId) (k : Class), s.vm.classes[c]? = some k ∧ k.kind = .array comp (.array ty) ∧ s.vm.findClass ("[" ++ (FieldType.array ty).toString) = some c := by
  simp only [Cond.before, Cond.holds, Cond.value, beq_iff_eq] at h
  cases hc : s.vm.findClass (FieldType.array ty).toString with
  | none => simp [hc] at h
  | some comp =>
    simp only [hc, Option.bind_some, Option.bind_eq_some_iff, Option.map_eq_some_iff] at h
    obtain ⟨c, hi, k, hk, hb⟩ := h
    obtain ⟨hlt, hp, -⟩ := Array.findIdx?_eq_some_iff_getElem.mp hi
    have hkk : s.vm.classes[c] = k := (Array.getElem?_eq_some_iff.mp hk).2
    rw [hkk] at hp
    cases hkind : k.kind with
    | array component ty =>
      rw [hkind] at hb hp
      simp at hb hp
      exact ⟨comp, c, k, hk, by rw [hkind, hp, hb.1], hb.2⟩
    | _ => rw [hkind] at hb; simp at hb
/-- the abstract heap at the start: nothing but the old cells -/
def hp0 (L : Nat) (xs : Nat → Int32) : Hp := ((31, 0, 0), (fun a => if a < 31 then kcT L a else (0, 0)), (fun a k => if a < 31 then icT xs a k else 0), rcT, (fun _ _ => 0), (fun _ _ => 0))
theorem lit_lens : litA.all (fun l => Nat.blt l.length 1000) = true := by decide
theorem lit_len (k : Nat) : (litA.getD k []).length < 2 ^ 31 := by
  rw [List.getD_eq_getElem?_getD]
  cases hz : litA[k]? with
  | none => decide
  | some l =>
    have : l.length < 1000 := Nat.le_of_ble_eq_true (List.all_eq_true.mp lit_lens l (List.mem_of_getElem? hz))
    show l.length < 2 ^ 31
    omega
section START
variable {s : State} {args : Array Value}
theorem tbl_all (hts : ∀ w ∈ lw_tbl, w.before args s = true) : ∀ w ∈ TBL, w.before args s = true := by
  intro w hw
  have h2 : ∀ (i : Nat) (w : Cond), TBL[i]? = some w → 4 ≤ i → w.before args s = true := by
    intro i w hz hi
    refine hts w ?_
    unfold TBL at hz
    rw [List.getElem?_append_right (by show 4 ≤ i; exact hi)] at hz
    exact List.mem_of_getElem? hz
  obtain ⟨z1, z2, a1, a2, b1, b2, c1, c2, d1, d2⟩ := sb_ok0
  rcases List.mem_append.mp hw with hw | hw
  · simp only [lw_x, List.map_cons, List.map_nil, List.mem_cons, List.not_mem_nil, or_false] at hw
    rcases hw with rfl | rfl | rfl | rfl
    · exact sel_priv (z := ⟨"java/lang/AbstractStringBuilder", "isLatin1", "()Z"⟩) ⟨by decide, by decide⟩ rfl (h2 276 _ z1 (by omega)) (h2 1067 _ z2 (by omega)) (h2 1040 _ a1 (by omega)) (h2 1041 _ a2 (by omega))
    · exact sel_priv (z := ⟨"java/lang/AbstractStringBuilder", "isLatin1", "()Z"⟩) ⟨by decide, by decide⟩ rfl (h2 276 _ z1 (by omega)) (h2 1067 _ z2 (by omega)) (h2 1036 _ b1 (by omega)) (h2 1037 _ b2 (by omega))
    · exact sel_priv (z := ⟨"java/lang/AbstractStringBuilder", "isLatin1", "()Z"⟩) ⟨by decide, by decide⟩ rfl (h2 276 _ z1 (by omega)) (h2 1067 _ z2 (by omega)) (h2 1090 _ c1 (by omega)) (h2 1091 _ c2 (by omega))
    · exact sel_priv (z := ⟨"java/lang/AbstractStringBuilder", "isLatin1", "()Z"⟩) ⟨by decide, by decide⟩ rfl (h2 276 _ z1 (by omega)) (h2 1067 _ z2 (by omega)) (h2 1086 _ d1 (by omega)) (h2 1087 _ d2 (by omega))
  · exact hts w hw
theorem at_in {i : Nat} {w : Cond} (hts : ∀ w ∈ TBL, w.before args s = true) (h : TBL[i]? = some w) : w.before args s = true := hts w (List.mem_of_getElem? h)
theorem fl_in {i : Nat} {w : Cond} (hfl : ∀ w ∈ FL, w.before args s = true) (h : FL[i]? = some w) : w.before args s = true := hfl w (List.mem_of_getElem? h)
theorem str_ref (hts : ∀ w ∈ TBL, w.before args s = true) (hfl : ∀ w ∈ FL, w.before args s = true) {o i tb fl : Nat} (h : okStr o i tb fl = true) : ∃ tx q, vk_R (cn o) i tx q s ∧ (tS o i).eval args s none [] s = some (.ref q) := by
  simp only [okStr, Bool.and_eq_true, decide_eq_true_eq] at h
  obtain ⟨h1, h2⟩ := h
  split at h1
  · rename_i c k tx hz
    simp only [Bool.and_eq_true, decide_eq_true_eq] at h1
    obtain ⟨rfl, hk⟩ := h1
    obtain rfl := Nat.eq_of_beq_eq_true hk
    obtain ⟨a, c, cA, kA, q1, -⟩ := Cond.exactly_spec (fl_in hfl h2)
    exact ⟨tx, a, vk_R.of (at_in hts hz) q1, q1⟩
  · cases h1
/-- a literal, with its bytes -/
theorem lit_cell (hfl : ∀ w ∈ FL, w.before args s = true) {A : Nat → Prop} (hA : ∀ a : Nat, a < s.heap.size → ¬ A a) {r : Nat × Nat × Nat × Nat × Nat} (h : okLit r = true) :
    ∃ q v, (tS r.1 r.2.1).eval args s none [] s = some (.ref q) ∧ va_O "java/lang/String" q A s s.heap ∧ va_OF "java/lang/String" "coder" "B" (.int 0) q A s s.heap ∧ va_OF "java/lang/String" "value" "[B" (.ref v) q A s s.heap ∧ va_T .byte v (litA.getD ((r.2.2.1 - 4) / 2) []).length (fun j => .int ((litA.getD ((r.2.2.1 - 4) / 2) []).getD j 0)) A s s.heap := by
  obtain ⟨o, i, a, tb, fl⟩ := r
  simp only [okLit, Bool.and_eq_true, decide_eq_true_eq] at h
  obtain ⟨⟨⟨⟨⟨⟨⟨h1, h2⟩, h3⟩, h4⟩, h5⟩, h6⟩, h7⟩, h8⟩ := h
  simp only [okStr, Bool.and_eq_true, decide_eq_true_eq] at h1
  obtain ⟨adK, adV, ⟨hS, -⟩, he⟩ := vk_Sof (N := 1) (tm := fun _ => tS o i) (len := [(litA.getD ((a - 4) / 2) []).length]) (byt := [litA.getD ((a - 4) / 2) []]) (A := A) (fun k hk => by
      rw [show k = 0 by omega]
      exact lit_len _) (fun k hk => fl_in hfl h1.2) (fun k hk => fl_in hfl h2) (fun k hk => fl_in hfl h3) (fun k hk => by
      rw [show k = 0 by omega]
      exact fl_in hfl h4) (fun k hk j hj => by
      rw [show k = 0 by omega] at hj ⊢
      have := List.all_eq_true.mp h5 j (List.mem_range.mpr hj)
      exact fl_in hfl (of_decide_eq_true this)) (fun a b ha hb hab => absurd (show a = b by omega) hab) hA
  obtain ⟨g1, g2, g3, g4⟩ := hS 0 (by omega)
  exact ⟨adK 0, adV 0, he 0 (by omega), g1, g2, g3, g4⟩
end START
