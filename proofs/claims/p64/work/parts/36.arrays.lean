/-! ROWS of arrays, of new cells, of what was there before -/
def fixW : List Cond := [.instanceMethod Lib.objectInit, .code Lib.objectInit ⟨#[0xb1]⟩ 1 none, .arrayClass .int, .arrayClass .char, .arrayClass .byte, .arrayClass .boolean, .native arraycopyName, .static arraycopyName, .initialized "java/lang/System", .initialized "java/lang/Math", .static Lib.Math.min.name, .static Lib.Math.max.name, .static Lib.Math.abs.name, .code Lib.Math.min.name Lib.Math.min.code 2 (some .int), .code Lib.Math.max.name Lib.Math.max.code 2 (some .int), .code Lib.Math.abs.name Lib.Math.abs.code 1 (some .int), .sameMethod "[B" "java/lang/Object" "clone" "()Ljava/lang/Object;", .native ⟨"java/lang/Object", "clone", "()Ljava/lang/Object;"⟩, .instanceMethod ⟨"java/lang/Object", "clone", "()Ljava/lang/Object;"⟩, .selects "[B" ⟨"[B", "clone", "()Ljava/lang/Object;"⟩ ⟨"java/lang/Object", "clone", "()Ljava/lang/Object;"⟩]
def stN (c : Nat) : String × String × String := if c = 1 then ("java/lang/String", "COMPACT_STRINGS", "Z") else if c = 101 then ("jdk/internal/util/Preconditions", "SIOOBE_FORMATTER", "Ljava/util/function/BiFunction;") else if c = 102 then ("java/lang/Integer", "DigitOnes", "[B") else ("java/lang/Integer", "DigitTens", "[B")
def sfN (c : Nat) : String × String := if c = 705 then ("value", "[B") else ("coder", "B")
def mtN (c : Nat) : MethodName := if c = 0 then arraycopyName else if c = 1 then Lib.Math.min.name else if c = 2 then Lib.Math.max.name else Lib.Math.abs.name
def anN (c : Nat) : String := if c = 0 then "RecordReconciler$Book" else if c = 1 then "[" ++ (FieldType.array FieldType.int).toString else if c = 2 then "[" ++ (FieldType.array FieldType.boolean).toString else "[B"
def chkZip (g : Nat × Nat × Nat → Cond) : List (Nat × Nat × Nat) → List Nat → Bool
  | [], _ => true
  | _ :: _, [] => false
  | r :: l, i :: is => okAt i (g r) && chkZip g l is
def chkFix : List Nat → List Cond → Bool
  | _, [] => true
  | [], _ :: _ => false
  | i :: is, w :: ws => okAt i w && chkFix is ws
def chkQ (g : Nat × Nat × Nat → Cond) (l : List (Nat × Nat × Nat)) (H : List (Nat × Nat × Nat × Nat)) : Bool := chkZip g l (H.map (fun r => r.2.2.2))
def stW (r : Nat × Nat × Nat) : Cond := .fieldLink (cn r.1) r.2.1 (stN r.2.2).1 (stN r.2.2).2.1 (stN r.2.2).2.2
def sfW (r : Nat × Nat × Nat) : Cond := .fieldLink (cn r.1) r.2.1 "java/lang/String" (sfN r.2.2).1 (sfN r.2.2).2
def anW (r : Nat × Nat × Nat) : Cond := match r.2.2 with
  | 4 => .methodLink (cn r.1) r.2.1 ⟨"[B", "clone", "()Ljava/lang/Object;"⟩
  | c => .classLink (cn r.1) r.2.1 (anN c)
def oiW (r : Nat × Nat × Nat) : Cond := .methodLink (cn r.1) r.2.1 Lib.objectInit
def mtW (r : Nat × Nat × Nat) : Cond := .methodLink (cn r.1) r.2.1 (mtN r.2.2)
def TOK2 : Prop := chkFix fixA fixW = true ∧ chkZip stW stzA stzH = true ∧ chkZip sfW stfA stfH = true ∧ chkQ anW anwA anwAH = true ∧ chkQ oiW oinA oinAH = true ∧ chkQ mtW mthA mthAH = true
theorem chkFix_in : ∀ {is : List Nat} {ws : List Cond}, chkFix is ws = true → ∀ w ∈ ws, w ∈ TW
  | _, [], _ => fun _ h => nomatch h
  | [], _ :: _, h => by cases h
  | i :: is, w :: ws, h => by
    simp only [chkFix, Bool.and_eq_true] at h
    intro w' hw
    rcases List.mem_cons.mp hw with rfl | hw
    · exact tw_of h.1
    · exact chkFix_in h.2 w' hw
theorem chkZip_in {g : Nat × Nat × Nat → Cond} : ∀ {l : List (Nat × Nat × Nat)} {is : List Nat}, chkZip g l is = true → ∀ r ∈ l, g r ∈ TW
  | [], _, _ => fun _ h => nomatch h
  | _ :: _, [], h => by cases h
  | r :: l, i :: is, h => by
    simp only [chkZip, Bool.and_eq_true] at h
    intro r' hr
    rcases List.mem_cons.mp hr with rfl | hr
    · exact tw_of h.1
    · exact chkZip_in h.2 r' hr
theorem fnd3_in {a b c : Nat} : ∀ {l : List (Nat × Nat × Nat)}, fnd3 l a b c = true → (a, b, c) ∈ l
  | [], h => by cases h
  | r :: l, h => by
    simp only [fnd3, Bool.or_eq_true, Bool.and_eq_true] at h
    rcases h with h | h
    · obtain ⟨⟨h1, h2⟩, h3⟩ := h
      have e : r = (a, b, c) := by
        obtain ⟨r1, r2, r3⟩ := r
        rw [show r1 = a from Nat.eq_of_beq_eq_true h1, show r2 = b from Nat.eq_of_beq_eq_true h2, show r3 = c from Nat.eq_of_beq_eq_true h3]
      rw [e]
      exact List.mem_cons_self
    · exact List.mem_cons_of_mem _ (fnd3_in h)
/-- what is known of the old cells -/
def OLD (x : Ctx) (U : State) (H : Heap) : Prop := ∀ a, a < 31 → ((kcT (xL x) a).1 = 203 → ∃ q, xC x a = some q ∧ va_T .byte q (kcT (xL x) a).2 (fun j => .int (icT (xS x) a j)) (fr x) U H) ∧ ((kcT (xL x) a).1 = 200 → ∃ q, xC x a = some q ∧ va_T .int q (xL x) (fun j => .int (icT (xS x) a j)) (fr x) U H) ∧
  ((kcT (xL x) a).1 = 11 → ∃ q, xC x a = some q ∧ va_O "java/lang/String" q (fr x) U H ∧ va_OF "java/lang/String" "value" "[B" (va_rf (xC x (a + 1))) q (fr x) U H ∧ va_OF "java/lang/String" "coder" "B" (.int 0) q (fr x) U H)
theorem inb_in {j : Int32} {n : Nat} (h : inb j n = true) : vp_in j n := by
  simp only [inb, Bool.and_eq_true, decide_eq_true_eq] at h
  rintro (z | z)
  · exact absurd h.1 (by rw [Int32.not_le]; exact z)
  · omega
section ROWS2
variable {p : Program} {l : Launch} {e : Env} {R : Room} {s : State} {m : MethodId} {args : Array Value} {below : List Frame} {meth : Method} {c : Code} {H : Heap} {locs : List Loc} {cells slots : Nat} {Q : State → Prop}
variable {x : Ctx} {ad : Nat → Option Nat} {h : Hp} {y pc : Nat} {rls : Array Slot} {rest : List Value}
theorem kc_cases {L a : Nat} : (kcT L a).1 = 0 ∨ (kcT L a).1 = 11 ∨ (kcT L a).1 = 203 ∨ (kcT L a).1 = 200 := by
  unfold kcT
  repeat' split
  all_goals simp
/-- a cell of a kind of the old ones is an old one -/
theorem St.old (S : St x ad h H) {a kd : Nat} (hk : HK h a = kd) (h1 : kd = 11 ∨ kd = 203 ∨ kd = 200) : a < 31 ∧ (kcT (xL x) a).1 = kd ∧ ad a = xC x a ∧ HL h a = (kcT (xL x) a).2 ∧ (∀ k, HI h a k = icT (xS x) a k) ∧ ∀ k, HR h a k = rcT a k := by
  obtain ⟨-, -, h31, hc, ha, hz, -, hok⟩ := S
  have hlt : a < 31 := by
    rcases Nat.lt_or_ge a 31 with q | q
    · exact q
    · rcases Nat.lt_or_ge a (HN h) with z | z
      · have := (hok a q z).1
        rw [hk] at this
        unfold KOK at this
        omega
      · rw [hz a z] at hk
        omega
  obtain ⟨c1, c2, c3⟩ := hc a hlt
  exact ⟨hlt, by rw [← c1]; exact hk, ha a hlt, by unfold HL; rw [c1], c2, c3⟩
theorem cE_arr {a kd : Nat} (hk : HK h a = kd) (h1 : kd = 100 ∨ kd = 101 ∨ kd = 102 ∨ kd = 103) : cE x ad h a = .inl (xA x kd, HL h a, .inl (HI h a)) := by
  unfold cE
  rw [hk, if_neg (by omega), if_neg (by omega), if_neg (by omega), if_neg (by omega)]
theorem cE_ref {a kd : Nat} (hk : HK h a = kd) (h1 : kd = 106 ∨ kd = 107 ∨ kd = 108) : cE x ad h a = .inl (xA x kd, HL h a, .inr (.inr (.inr (.inr (fun k => ad (HR h a k)))))) := by
  unfold cE
  rw [hk, if_neg (by omega), if_neg (by omega), if_neg (by omega), if_pos (by omega)]
theorem m_iald (F : FX p m c meth s args y) (hK : va_K (xD x) clL (tysL x) s) (S : St x ad h H) {a : Nat} {j : Int32} (hk : HK h a = 100) (hj : inb j (HL h a) = true) (hd : decode (yb y) pc = .ok (.iaload, 1))
    (kk : W p l e R s m args below meth c H locs cells slots Q (F0 m (pc + 1) rls (.int (HI h a j.toNatClampNeg) :: rest))) : W p l e R s m args below meth c H locs cells slots Q (F0 m pc rls (.int j :: va_rf (ad a) :: rest)) := by
  obtain ⟨q, hq, g1, g2, g3⟩ := S.at (a := a) (by rw [hk]; unfold KOK; omega)
  rw [cE_arr hk (by omega)] at g3
  rw [hq]
  exact va_iald F.1 F.2.1 hK S.1 (a - 31) 0 g3 rfl (inb_in hj) hd kk
theorem m_cald (F : FX p m c meth s args y) (hK : va_K (xD x) clL (tysL x) s) (S : St x ad h H) {a : Nat} {j : Int32} (hk : HK h a = 101) (hj : inb j (HL h a) = true) (hd : decode (yb y) pc = .ok (.caload, 1))
    (kk : W p l e R s m args below meth c H locs cells slots Q (F0 m (pc + 1) rls (.int (HI h a j.toNatClampNeg) :: rest))) : W p l e R s m args below meth c H locs cells slots Q (F0 m pc rls (.int j :: va_rf (ad a) :: rest)) := by
  obtain ⟨q, hq, g1, g2, g3⟩ := S.at (a := a) (by rw [hk]; unfold KOK; omega)
  rw [cE_arr hk (by omega)] at g3
  rw [hq]
  exact va_cald F.1 F.2.1 hK S.1 (a - 31) 1 g3 rfl (inb_in hj) hd kk
theorem m_bald (F : FX p m c meth s args y) (hK : va_K (xD x) clL (tysL x) s) (S : St x ad h H) {a : Nat} {j : Int32} (hk : HK h a = 102) (hj : inb j (HL h a) = true) (hd : decode (yb y) pc = .ok (.baload, 1))
    (kk : W p l e R s m args below meth c H locs cells slots Q (F0 m (pc + 1) rls (.int (HI h a j.toNatClampNeg) :: rest))) : W p l e R s m args below meth c H locs cells slots Q (F0 m pc rls (.int j :: va_rf (ad a) :: rest)) := by
  obtain ⟨q, hq, g1, g2, g3⟩ := S.at (a := a) (by rw [hk]; unfold KOK; omega)
  rw [cE_arr hk (by omega)] at g3
  rw [hq]
  exact va_bald F.1 F.2.1 hK S.1 (a - 31) 2 g3 rfl (inb_in hj) hd kk
theorem m_zald (F : FX p m c meth s args y) (hK : va_K (xD x) clL (tysL x) s) (S : St x ad h H) {a : Nat} {j : Int32} (hk : HK h a = 103) (hj : inb j (HL h a) = true) (hd : decode (yb y) pc = .ok (.baload, 1))
    (kk : W p l e R s m args below meth c H locs cells slots Q (F0 m (pc + 1) rls (.int (HI h a j.toNatClampNeg) :: rest))) : W p l e R s m args below meth c H locs cells slots Q (F0 m pc rls (.int j :: va_rf (ad a) :: rest)) := by
  obtain ⟨q, hq, g1, g2, g3⟩ := S.at (a := a) (by rw [hk]; unfold KOK; omega)
  rw [cE_arr hk (by omega)] at g3
  rw [hq]
  exact va_zald F.1 F.2.1 hK S.1 (a - 31) 3 g3 rfl (inb_in hj) hd kk
theorem m_aald (F : FX p m c meth s args y) (hK : va_K (xD x) clL (tysL x) s) (S : St x ad h H) {a kd : Nat} {j : Int32} (hk : HK h a = kd) (hkd : kd = 106 ∨ kd = 107 ∨ kd = 108) (hj : inb j (HL h a) = true) (hd : decode (yb y) pc = .ok (.aaload, 1))
    (kk : W p l e R s m args below meth c H locs cells slots Q (F0 m (pc + 1) rls (va_rf (ad (HR h a j.toNatClampNeg)) :: rest))) : W p l e R s m args below meth c H locs cells slots Q (F0 m pc rls (.int j :: va_rf (ad a) :: rest)) := by
  obtain ⟨q, hq, g1, g2, g3⟩ := S.at (a := a) (by rw [hk]; unfold KOK; omega)
  rw [cE_ref hk hkd] at g3
  rw [hq]
  have hin := inb_in hj
  have hlt : j.toNatClampNeg < HL h a := Nat.not_le.mp fun q => hin (Or.inr q)
  have hc : H[q]? = some (arrV (xA x kd) (HL h a) (fun k => va_rf (ad (HR h a k)))) := S.1 _ _ g3
  have harr : ∃ ty : FieldType, ty.isReference = true ∧ s.isArrayOf (arrV (xA x kd) (HL h a) (fun k => va_rf (ad (HR h a k)))) ty := by
    rcases hkd with rfl | rfl | rfl
    · exact ⟨_, rfl, (hK.2 5 _ rfl).1 _ _⟩
    · exact ⟨_, rfl, (hK.2 6 _ rfl).1 _ _⟩
    · exact ⟨_, rfl, (hK.2 4 _ rfl).1 _ _⟩
  obtain ⟨ty, hty, hof⟩ := harr
  exact W.aald (v := va_rf (ad (HR h a j.toNatClampNeg))) F.1 F.2.1 hc hof hty (fun q => by cases q) (by rw [arrV_size]; exact hin) (by rw [arrV_read _ _ hlt]) rfl rfl hd kk
theorem m_sald (F : FX p m c meth s args y) (hO : OLD x s s.heap) (S : St x ad h H) (hS : va_S (fr x) s.heap H locs) {a : Nat} {j : Int32} (hk : HK h a = 200) (hj : inb j (HL h a) = true) (hd : decode (yb y) pc = .ok (.iaload, 1))
    (kk : W p l e R s m args below meth c H locs cells slots Q (F0 m (pc + 1) rls (.int (HI h a j.toNatClampNeg) :: rest))) : W p l e R s m args below meth c H locs cells slots Q (F0 m pc rls (.int j :: va_rf (ad a) :: rest)) := by
  obtain ⟨o1, o2, o3, o4, o5, -⟩ := S.old hk (by omega)
  obtain ⟨q, hq, hT⟩ := (hO a o1).2.1 o2
  rw [o3, hq]
  have e4 : HL h a = xL x := by
    have h9 := o2
    rw [o4]
    unfold kcT at h9 ⊢
    repeat' split at h9
    all_goals first | (exfalso; simp at h9; done) | skip
    rw [if_neg (by omega), if_neg (by omega), if_neg (by omega)]
  rw [e4] at hj
  exact va_ti F.1 F.2.1 hT hS (inb_in hj) (by rw [o5]) hd kk
theorem m_fald (F : FX p m c meth s args y) (hO : OLD x s s.heap) (S : St x ad h H) (hS : va_S (fr x) s.heap H locs) {a : Nat} {j : Int32} (hk : HK h a = 203) (hj : inb j (HL h a) = true) (hd : decode (yb y) pc = .ok (.baload, 1))
    (kk : W p l e R s m args below meth c H locs cells slots Q (F0 m (pc + 1) rls (.int (HI h a j.toNatClampNeg) :: rest))) : W p l e R s m args below meth c H locs cells slots Q (F0 m pc rls (.int j :: va_rf (ad a) :: rest)) := by
  obtain ⟨o1, o2, o3, o4, o5, -⟩ := S.old hk (by omega)
  obtain ⟨q, hq, hT⟩ := (hO a o1).1 o2
  rw [o3, hq]
  rw [o4] at hj
  exact va_tb F.1 F.2.1 hT hS (inb_in hj) (by rw [o5]) hd kk
theorem m_alen (F : FX p m c meth s args y) (hK : va_K (xD x) clL (tysL x) s) (hO : OLD x s s.heap) (S : St x ad h H) (hS : va_S (fr x) s.heap H locs) {a : Nat} (hk : Nat.ble 100 (HK h a) = true) (hd : decode (yb y) pc = .ok (.arraylength, 1))
    (kk : W p l e R s m args below meth c H locs cells slots Q (F0 m (pc + 1) rls (.int (Int32.ofNat (HL h a)) :: rest))) : W p l e R s m args below meth c H locs cells slots Q (F0 m pc rls (va_rf (ad a) :: rest)) := by
  have hk1 := Nat.le_of_ble_eq_true hk
  rcases Nat.lt_or_ge a 31 with h31 | h31
  · have hkc : HK h a = (kcT (xL x) a).1 := by unfold HK; rw [(S.2.2.2.1 a h31).1]
    have h9 : HK h a = 203 ∨ HK h a = 200 := by
      rcases kc_cases (L := xL x) (a := a) with z | z | z | z <;> omega
    rcases h9 with h9 | h9
    · obtain ⟨o1, o2, o3, o4, o5, -⟩ := S.old h9 (by omega)
      obtain ⟨q, hq, hT⟩ := (hO a o1).1 o2
      rw [o3, hq]
      exact va_tlen F.1 F.2.1 hT hS (by rw [o4]) hd kk
    · obtain ⟨o1, o2, o3, o4, o5, -⟩ := S.old h9 (by omega)
      obtain ⟨q, hq, hT⟩ := (hO a o1).2.1 o2
      rw [o3, hq]
      have e4 : HL h a = xL x := by
        rw [o4]
        unfold kcT at o2 ⊢
        repeat' split at o2
        all_goals first | (exfalso; simp at o2; done) | skip
        rw [if_neg (by omega), if_neg (by omega), if_neg (by omega)]
      exact va_tlen F.1 F.2.1 hT hS (by rw [e4]) hd kk
  · have h2 : a < HN h := by
      rcases Nat.lt_or_ge a (HN h) with z | z
      · exact z
      · rw [S.2.2.2.2.2.1 a z] at hk1; omega
    have hok := (S.2.2.2.2.2.2.2 a h31 h2).1
    obtain ⟨q, hq, g1, g2, g3⟩ := S.at (a := a) hok
    rw [hq]
    have h9 : HK h a = 100 ∨ HK h a = 101 ∨ HK h a = 102 ∨ HK h a = 103 ∨ HK h a = 108 ∨ HK h a = 106 ∨ HK h a = 107 := by unfold KOK at hok; omega
    rcases h9 with h9 | h9 | h9 | h9 | h9 | h9 | h9
    · rw [cE_arr h9 (by omega)] at g3
      exact va_alen F.1 F.2.1 hK S.1 (a - 31) 0 g3 rfl rfl hd kk
    · rw [cE_arr h9 (by omega)] at g3
      exact va_alen F.1 F.2.1 hK S.1 (a - 31) 1 g3 rfl rfl hd kk
    · rw [cE_arr h9 (by omega)] at g3
      exact va_alen F.1 F.2.1 hK S.1 (a - 31) 2 g3 rfl rfl hd kk
    · rw [cE_arr h9 (by omega)] at g3
      exact va_alen F.1 F.2.1 hK S.1 (a - 31) 3 g3 rfl rfl hd kk
    · rw [cE_ref h9 (by omega)] at g3
      exact va_alen F.1 F.2.1 hK S.1 (a - 31) 4 g3 rfl rfl hd kk
    · rw [cE_ref h9 (by omega)] at g3
      exact va_alen F.1 F.2.1 hK S.1 (a - 31) 5 g3 rfl rfl hd kk
    · rw [cE_ref h9 (by omega)] at g3
      exact va_alen F.1 F.2.1 hK S.1 (a - 31) 6 g3 rfl rfl hd kk
theorem upd_HI {a k : Nat} {v : Int32} : upd (HI h a) k v = HI (sI h a k v) a := by
  funext j
  rw [HI_sI]
  unfold upd
  by_cases q : j = k
  · rw [if_pos q, if_pos ⟨rfl, q⟩]
  · rw [if_neg q, if_neg (fun z => q z.2)]
theorem St.wrI (S : St x ad h H) {H1 : Heap} {a k q kd : Nat} {v : Int32} (hk : HK h a = kd) (h1 : kd = 100 ∨ kd = 101 ∨ kd = 102 ∨ kd = 103) (hq : ad a = some q) (g1 : 31 ≤ a) (g2 : a < HN h)
    (P : va_P (xD x) clL ((wl x ad h).set (a - 31) (q, .inl (xA x kd, HL h a, .inl (upd (HI h a) k v)))) H1) (Dd : va_D (fr x) ((wl x ad h).set (a - 31) (q, .inl (xA x kd, HL h a, .inl (upd (HI h a) k v))))) : St x ad (sI h a k v) H1 := by
  refine S.wr (h' := sI h a k v) g1 g2 hq (by rw [cE_arr (h := sI h a k v) (kd := kd) hk h1]) (fun b hb => cE_sI hb) rfl rfl (fun b hb j => by rw [HI_sI, if_neg (fun z => hb z.1)]) (fun _ _ => Or.inl rfl) (fun _ _ _ => rfl) ?_ ?_
  · rw [← upd_HI]; exact P
  · rw [← upd_HI]; exact Dd
theorem m_iast (F : FX p m c meth s args y) (hK : va_K (xD x) clL (tysL x) s) (S : St x ad h H) (hS : va_S (fr x) s.heap H locs) {a : Nat} {j v : Int32} (hk : HK h a = 100) (hj : inb j (HL h a) = true) (hd : decode (yb y) pc = .ok (.iastore, 1))
    (kk : ∀ (H1 : Heap) (locs1 : List Loc), St x ad (sI h a j.toNatClampNeg v) H1 → va_S (fr x) s.heap H1 locs1 → W p l e R s m args below meth c H1 locs1 cells slots Q (F0 m (pc + 1) rls rest)) : W p l e R s m args below meth c H locs cells slots Q (F0 m pc rls (.int v :: .int j :: va_rf (ad a) :: rest)) := by
  obtain ⟨q, hq, g1, g2, g3⟩ := S.at (a := a) (by rw [hk]; unfold KOK; omega)
  rw [cE_arr hk (by omega)] at g3
  rw [hq]
  exact va_iast F.1 F.2.1 hK S.1 S.2.1 hS (a - 31) 0 g3 rfl (inb_in hj) hd (fun H1 locs1 P Dd S1 => kk H1 locs1 (S.wrI hk (by omega) hq g1 g2 P Dd) S1)
theorem m_cast (F : FX p m c meth s args y) (hK : va_K (xD x) clL (tysL x) s) (S : St x ad h H) (hS : va_S (fr x) s.heap H locs) {a : Nat} {j v : Int32} (hk : HK h a = 101) (hj : inb j (HL h a) = true) (hv : fitc 2 v = true) (hd : decode (yb y) pc = .ok (.castore, 1))
    (kk : ∀ (H1 : Heap) (locs1 : List Loc), St x ad (sI h a j.toNatClampNeg v) H1 → va_S (fr x) s.heap H1 locs1 → W p l e R s m args below meth c H1 locs1 cells slots Q (F0 m (pc + 1) rls rest)) : W p l e R s m args below meth c H locs cells slots Q (F0 m pc rls (.int v :: .int j :: va_rf (ad a) :: rest)) := by
  obtain ⟨q, hq, g1, g2, g3⟩ := S.at (a := a) (by rw [hk]; unfold KOK; omega)
  rw [cE_arr hk (by omega)] at g3
  rw [hq]
  have e := (fit2 hv).1
  exact va_cast F.1 F.2.1 hK S.1 S.2.1 hS (a - 31) 1 g3 rfl (inb_in hj) hd (fun H1 locs1 P Dd S1 => by rw [e] at P Dd; exact kk H1 locs1 (S.wrI hk (by omega) hq g1 g2 P Dd) S1)
theorem m_bast (F : FX p m c meth s args y) (hK : va_K (xD x) clL (tysL x) s) (S : St x ad h H) (hS : va_S (fr x) s.heap H locs) {a : Nat} {j v : Int32} (hk : HK h a = 102) (hj : inb j (HL h a) = true) (hv : fitc 3 v = true) (hd : decode (yb y) pc = .ok (.bastore, 1))
    (kk : ∀ (H1 : Heap) (locs1 : List Loc), St x ad (sI h a j.toNatClampNeg v) H1 → va_S (fr x) s.heap H1 locs1 → W p l e R s m args below meth c H1 locs1 cells slots Q (F0 m (pc + 1) rls rest)) : W p l e R s m args below meth c H locs cells slots Q (F0 m pc rls (.int v :: .int j :: va_rf (ad a) :: rest)) := by
  obtain ⟨q, hq, g1, g2, g3⟩ := S.at (a := a) (by rw [hk]; unfold KOK; omega)
  rw [cE_arr hk (by omega)] at g3
  rw [hq]
  have e : vp_nar .byte v = v := by
    rw [vp_nar_byte]
    exact (fit3 hv).1
  exact va_bast F.1 F.2.1 hK S.1 S.2.1 hS (a - 31) 2 g3 rfl (inb_in hj) hd (fun H1 locs1 P Dd S1 => by rw [e] at P Dd; exact kk H1 locs1 (S.wrI hk (by omega) hq g1 g2 P Dd) S1)
theorem fit1z {v : Int32} (h : fitc 1 v = true) : vp_nar .boolean v = v := by
  simp only [fitc, Bool.or_eq_true, decide_eq_true_eq] at h
  rcases h with rfl | rfl <;> decide
theorem m_zast (F : FX p m c meth s args y) (hK : va_K (xD x) clL (tysL x) s) (S : St x ad h H) (hS : va_S (fr x) s.heap H locs) {a : Nat} {j v : Int32} (hk : HK h a = 103) (hj : inb j (HL h a) = true) (hv : fitc 1 v = true) (hd : decode (yb y) pc = .ok (.bastore, 1))
    (kk : ∀ (H1 : Heap) (locs1 : List Loc), St x ad (sI h a j.toNatClampNeg v) H1 → va_S (fr x) s.heap H1 locs1 → W p l e R s m args below meth c H1 locs1 cells slots Q (F0 m (pc + 1) rls rest)) : W p l e R s m args below meth c H locs cells slots Q (F0 m pc rls (.int v :: .int j :: va_rf (ad a) :: rest)) := by
  obtain ⟨q, hq, g1, g2, g3⟩ := S.at (a := a) (by rw [hk]; unfold KOK; omega)
  rw [cE_arr hk (by omega)] at g3
  rw [hq]
  have e : vp_nar .boolean v = v := by
    exact fit1z hv
  exact va_zast F.1 F.2.1 hK S.1 S.2.1 hS (a - 31) 3 g3 rfl (inb_in hj) hd (fun H1 locs1 P Dd S1 => by rw [e] at P Dd; exact kk H1 locs1 (S.wrI hk (by omega) hq g1 g2 P Dd) S1)
end ROWS2
