/-! CONTRACTS of the methods: what a call means, its end, its throws -/
noncomputable def wsY (y : Nat) : List Cond := codeW y :: TW
def rmY (y mc ms : Nat) : Room := { frames := 8 + y, cells := mc, slots := ms, locals := 200 + 40 * y }
def WB (x : Ctx) (ad : Nat → Option Nat) (h : Hp) (U : State) : Prop := St x ad h U.heap ∧ va_K (xD x) clL (tysL x) U ∧ OLDs x U U.heap ∧ xB x ≤ U.heap.size
def QB (x : Ctx) (ad0 : Nat → Option Nat) (n0 : Nat) (h' : Hp) (u : Nat → Option Nat) (t : State) : Prop := Ext ad0 u n0 ∧ St x u h' t.heap
def QCk (k : Nat) (x : Ctx) (ad0 : Nat → Option Nat) (n0 : Nat) (r : Except Nat Value) (h' : Hp) : Array Value → State → Outcome → State → Prop := match k with
  | 0 => va_Qv (S := Nat → Option Nat) (fun _ => r = .ok .null) (QB x ad0 n0 h') (fr x)
  | 1 => va_Qi (S := Nat → Option Nat) (fun i _ => r = .ok (.int i)) (QB x ad0 n0 h') (fr x)
  | 2 => va_Qq (S := Nat → Option Nat) (fun o u => ∃ b, r = .ok (.ref b) ∧ b < HN h' ∧ o = u b) (QB x ad0 n0 h') (fr x)
  | 3 => va_Qd (S := Nat → Option Nat) (fun i _ => r = .ok (.double i)) (QB x ad0 n0 h') (fr x)
  | _ => va_Qf (S := Nat → Option Nat) (fun i _ => r = .ok (.float i)) (QB x ad0 n0 h') (fr x)
noncomputable def QC (y : Nat) (x : Ctx) (ad0 : Nat → Option Nat) (n0 : Nat) (r : Except Nat Value) (h' : Hp) : Array Value → State → Outcome → State → Prop := QCk (rtc (yr y)) x ad0 n0 r h'
def XCC (x : Ctx) (ad0 : Nat → Option Nat) (n0 : Nat) (r : Except Nat Value) (h' : Hp) : String → State → State → Prop := vx_X (S := Nat → Option Nat) (fun _ => True) (fun E u t => (∃ k, r = .error k ∧ E = exN k ∧ 1 ≤ k ∧ k ≤ 5) ∧ QB x ad0 n0 h' u t) (fr x)
/-- the contract of method y's run from as and h to r and h' -/
noncomputable def MetY (l : Launch) (y : Nat) (x : Ctx) (ad : Nat → Option Nat) (h : Hp) (ws : List Value) (r : Except Nat Value) (h' : Hp) : Prop :=
  vx_Met l (yn y) (wsY y) (rmY y (HC h' - HC h) (HS h' - HS h)) (va_Pc ws (WB x ad h)) (QC y x ad (HN h) r h') (XCC x ad (HN h) r h') (HC h' - HC h) (HS h' - HS h) (fr x)
theorem tw_good {w : Cond} (hw : w ∈ TW) : (w.onTables && w.keeps) = true ∨ ∃ ty, w = .arrayClass ty := by
  have h := (List.mem_filter.mp hw).2
  unfold goodWord at h
  split at h
  · exact Or.inr ⟨_, rfl⟩
  · exact Or.inl h
theorem tw_goodIn {ws : List Cond} (h : ∀ w ∈ ws, w ∈ TW) : GoodIn TW ws := fun w hw => ⟨h w hw, tw_good (h w hw)⟩
theorem fndLnk_in {o i kd k : Nat} : ∀ {l : List (Nat × Nat × Nat × Nat × List Nat)}, fndLnk l o i kd k = true → ∃ r ∈ l, r.1 = o ∧ r.2.1 = i ∧ r.2.2.1 = kd ∧ r.2.2.2.1 = k
  | [], h => by cases h
  | r :: l, h => by
    simp only [fndLnk, Bool.or_eq_true, Bool.and_eq_true] at h
    rcases h with h | h
    · exact ⟨r, List.mem_cons_self, Nat.eq_of_beq_eq_true h.1.1.1, Nat.eq_of_beq_eq_true h.1.1.2, Nat.eq_of_beq_eq_true h.1.2, Nat.eq_of_beq_eq_true h.2⟩
    · obtain ⟨r', h1, h2⟩ := fndLnk_in h
      exact ⟨r', List.mem_cons_of_mem _ h1, h2⟩
/-- what is known of a method by its number -/
theorem met_at (hT : TOK) {y : Nat} (hy : y < 343) : codeW y ∈ TW ∧ Cond.initialized (yn y).cls ∈ TW ∧ plainName (yn y).cls = true ∧ (yn y).cls ≠ "java/lang/invoke/MethodHandle" ∧ (yn y).cls ≠ "java/lang/invoke/VarHandle" ∧ (parseMethodDescriptor (yn y).desc).map (fun d => d.parameters.length) = some (np y) ∧ (yn y).cls = cn (yo y) ∧ nl y ≤ 20 := by
  obtain ⟨r, hr⟩ := hT.2.2.2.2.1 y hy
  simp only [chkMet, Bool.and_eq_true, decide_eq_true_eq] at hr
  obtain ⟨⟨⟨⟨⟨⟨⟨a, b⟩, c⟩, d⟩, e⟩, f⟩, g⟩, i⟩ := hr
  exact ⟨tw_of a, tw_of b, c, d, e, f, g, Nat.le_of_ble_eq_true i⟩
theorem wsY_in (hT : TOK) {y : Nat} (hy : y < 343) : ∀ w ∈ wsY y, w ∈ TW := by
  intro w hw
  rcases List.mem_cons.mp hw with rfl | hw
  · exact (met_at hT hy).1
  · exact hw
theorem codeW0 {y : Nat} (h : List.isEmpty (hh y) = true) : codeW y = .code (yn y) (yb y) (nl y) (yr y) := by unfold codeW; rw [h]; rfl
theorem codeW1 {y : Nat} (h : List.isEmpty (hh y) = false) : codeW y = .codeWith (yn y) (yb y) (nl y) (yr y) (hh y) := by unfold codeW; rw [h]; rfl
theorem rk_le_ok : (List.range 343).all (fun y => Nat.ble (rk y) 11) = true := by decide +kernel
theorem rk_le (_ : TOK) {y : Nat} (h : y < 343) : rk y ≤ 11 := Nat.le_of_ble_eq_true (List.all_eq_true.mp rk_le_ok y (List.mem_range.mpr h))
theorem PcBlind {x : Ctx} {ad : Nat → Option Nat} {h : Hp} {ws : List Value} : FrameBlind (va_Pc ws (WB x ad h)) := by
  intro a U g mk q
  obtain ⟨q0, q1, q2, q3, q4⟩ := q
  exact ⟨q0, q1, va_K.moved (u := U) (U := U.calling g mk a) (Vm.Alike.refl U.vm) q2, OLDs.warm (u := U) (U := U.calling g mk a) (State.WarmedH.refl U) q3, q4⟩
theorem lnk0 {o i y2 : Nat} {hs : List Nat} (h : chkLnk (o, i, 0, y2, hs) = true) : Cond.methodLink (cn o) i (yn y2) ∈ TW ∧ Cond.instanceMethod (yn y2) ∈ TW ∧ Cond.selects (yn y2).cls (yn y2) (yn y2) ∈ TW ∧ (yn y2).cls = (if rk y2 = 11 then "java/lang/String" else RRa (rk y2)) ∧ 1 ≤ rk y2 ∧ rk y2 ≤ 11 ∧ List.isEmpty (hh y2) = true := by
  rcases hs with _ | ⟨a, _ | ⟨b, _ | ⟨d, _ | ⟨f, g⟩⟩⟩⟩ <;> first | (exact absurd h Bool.false_ne_true) | skip
  simp only [chkLnk, Bool.and_eq_true, decide_eq_true_eq] at h
  obtain ⟨⟨⟨⟨⟨⟨ka, kb⟩, kc⟩, kd⟩, ke⟩, kf⟩, kg⟩ := h
  exact ⟨tw_of ka, tw_of kb, tw_of kc, kd, Nat.le_of_ble_eq_true ke, Nat.le_of_ble_eq_true kf, kg⟩
theorem lnk5 {o i y2 : Nat} {hs : List Nat} (h : chkLnk (o, i, 5, y2, hs) = true) : Cond.methodLink (cn o) i (yn y2) ∈ TW ∧ Cond.sameMethod (yn y2).cls (yn y2).cls (yn y2).name (yn y2).desc ∈ TW ∧ Cond.selects RR10 (yn y2) (yn y2) ∈ TW ∧ Cond.instanceMethod (yn y2) ∈ TW ∧ rk y2 = 10 ∧ List.isEmpty (hh y2) = true := by
  rcases hs with _ | ⟨a, _ | ⟨b, _ | ⟨d, _ | ⟨f, _ | ⟨g, g'⟩⟩⟩⟩⟩ <;> first | (exact absurd h Bool.false_ne_true) | skip
  simp only [chkLnk, Bool.and_eq_true, decide_eq_true_eq] at h
  obtain ⟨⟨⟨⟨⟨ka, kb⟩, kc⟩, kd⟩, ke⟩, kg⟩ := h
  exact ⟨tw_of ka, tw_of kb, tw_of kc, tw_of kd, Nat.eq_of_beq_eq_true ke, kg⟩
theorem lnk8 {o i y2 : Nat} {hs : List Nat} (h : chkLnk (o, i, 8, y2, hs) = true) : Cond.methodLink (cn o) i (yn 87) ∈ TW ∧ Cond.sameMethod (yn 87).cls (yn 87).cls (yn 87).name (yn 87).desc ∈ TW ∧ Cond.instanceMethod (yn 87) ∈ TW ∧ Cond.selects RR10 (yn 87) (yn y2) ∈ TW ∧ Cond.instanceMethod (yn y2) ∈ TW ∧ y2 = 88 := by
  rcases hs with _ | ⟨a, _ | ⟨b, _ | ⟨d, _ | ⟨f, _ | ⟨g, _ | ⟨g', g''⟩⟩⟩⟩⟩⟩ <;> first | (exact absurd h Bool.false_ne_true) | skip
  simp only [chkLnk, Bool.and_eq_true, decide_eq_true_eq] at h
  obtain ⟨⟨⟨⟨⟨ka, kb⟩, kc⟩, kd⟩, ke⟩, kg⟩ := h
  exact ⟨tw_of ka, tw_of kb, tw_of kc, tw_of kd, tw_of ke, Nat.eq_of_beq_eq_true kg⟩
theorem lnk6 {o i y2 : Nat} {hs : List Nat} (h : chkLnk (o, i, 6, y2, hs) = true) : Cond.methodLink (cn o) i (yn y2) ∈ TW ∧ Cond.sameMethod (yn y2).cls (yn y2).cls (yn y2).name (yn y2).desc ∈ TW ∧ Cond.superclass (cn o) (yn y2).cls ∈ TW ∧ Cond.instanceMethod (yn y2) ∈ TW ∧ rk y2 = 10 ∧ (yn y2).name ≠ "<init>" ∧ List.isEmpty (hh y2) = true := by
  rcases hs with _ | ⟨a, _ | ⟨b, _ | ⟨d, _ | ⟨f, _ | ⟨g, g'⟩⟩⟩⟩⟩ <;> first | (exact absurd h Bool.false_ne_true) | skip
  simp only [chkLnk, Bool.and_eq_true, decide_eq_true_eq] at h
  obtain ⟨⟨⟨⟨⟨⟨ka, kb⟩, kc⟩, kd⟩, ke⟩, kf⟩, kg⟩ := h
  exact ⟨tw_of ka, tw_of kb, tw_of kc, tw_of kd, Nat.eq_of_beq_eq_true ke, kf, kg⟩
theorem lnk1 {o i y2 : Nat} {hs : List Nat} (h : chkLnk (o, i, 1, y2, hs) = true) : Cond.methodLink (cn o) i (yn y2) ∈ TW ∧ Cond.static (yn y2) ∈ TW ∧ rk y2 = 0 ∧ List.isEmpty (hh y2) = true := by
  rcases hs with _ | ⟨a, _ | ⟨b, _ | ⟨d, g⟩⟩⟩ <;> first | (exact absurd h Bool.false_ne_true) | skip
  simp only [chkLnk, Bool.and_eq_true, decide_eq_true_eq] at h
  obtain ⟨⟨⟨ka, kb⟩, kc⟩, kd⟩ := h
  exact ⟨tw_of ka, tw_of kb, Nat.eq_of_beq_eq_true kc, kd⟩
theorem lnk7 {o i y2 : Nat} {hs : List Nat} (h : chkLnk (o, i, 7, y2, hs) = true) : Cond.methodLink (cn o) i (yn y2) ∈ TW ∧ Cond.static (yn y2) ∈ TW ∧ rk y2 = 0 ∧ List.isEmpty (hh y2) = false := by
  rcases hs with _ | ⟨a, _ | ⟨b, _ | ⟨d, g⟩⟩⟩ <;> first | (exact absurd h Bool.false_ne_true) | skip
  simp only [chkLnk, Bool.and_eq_true, decide_eq_true_eq, Bool.not_eq_true'] at h
  obtain ⟨⟨⟨ka, kb⟩, kc⟩, kd⟩ := h
  exact ⟨tw_of ka, tw_of kb, Nat.eq_of_beq_eq_true kc, kd⟩
theorem lnk4 {o i y2 : Nat} {hs : List Nat} (h : chkLnk (o, i, 4, y2, hs) = true) : Cond.static (yn y2) ∈ TW ∧ rk y2 = 0 ∧ List.isEmpty (hh y2) = true := by
  rcases hs with _ | ⟨a, _ | ⟨b, g⟩⟩ <;> first | (exact absurd h Bool.false_ne_true) | skip
  simp only [chkLnk, Bool.and_eq_true, decide_eq_true_eq] at h
  obtain ⟨⟨ka, kc⟩, kd⟩ := h
  exact ⟨tw_of ka, Nat.eq_of_beq_eq_true kc, kd⟩
theorem lnk2 {o i y2 : Nat} {hs : List Nat} (h : chkLnk (o, i, 2, y2, hs) = true) : Cond.methodLink (cn o) i (yn y2) ∈ TW ∧ Cond.instanceMethod (yn y2) ∈ TW ∧ (yn y2).name = "<init>" ∧ 1 ≤ rk y2 ∧ yr y2 = none ∧ List.isEmpty (hh y2) = true := by
  rcases hs with _ | ⟨a, _ | ⟨b, _ | ⟨d, g⟩⟩⟩ <;> first | (exact absurd h Bool.false_ne_true) | skip
  simp only [chkLnk, Bool.and_eq_true, decide_eq_true_eq] at h
  obtain ⟨⟨⟨⟨⟨ka, kb⟩, kc⟩, kd⟩, ke⟩, kf⟩ := h
  exact ⟨tw_of ka, tw_of kb, kc, Nat.le_of_ble_eq_true kd, ke, kf⟩
theorem lnk3 {o i y2 : Nat} {hs : List Nat} (h : chkLnk (o, i, 3, y2, hs) = true) : Cond.instanceMethod (yn y2) ∈ TW ∧ (yn y2).name = "<init>" ∧ 1 ≤ rk y2 ∧ yr y2 = none ∧ List.isEmpty (hh y2) = true := by
  rcases hs with _ | ⟨a, _ | ⟨b, g⟩⟩ <;> first | (exact absurd h Bool.false_ne_true) | skip
  simp only [chkLnk, Bool.and_eq_true, decide_eq_true_eq] at h
  obtain ⟨⟨⟨⟨kb, kc⟩, kd⟩, ke⟩, kf⟩ := h
  exact ⟨tw_of kb, kc, Nat.le_of_ble_eq_true kd, ke, kf⟩
/-- each link by a nest mate stands among the nest's words -/
def chkNest (r : Nat × Nat × Nat × Nat × List Nat) : Bool := !(Nat.beq r.2.2.1 3 || Nat.beq r.2.2.1 4) || nestA.any (fun q => Nat.beq q.1 r.1 && Nat.beq q.2.1 r.2.1 && Nat.beq q.2.2.1 r.2.2.2.1)
theorem nest_ok0 : lnkA.all chkNest = true := by decide +kernel
theorem nest_at {o i kd y2 : Nat} {hs : List Nat} (h : (o, i, kd, y2, hs) ∈ lnkA) (hk : kd = 3 ∨ kd = 4) : ∃ host, (o, i, y2, host) ∈ nestA := by
  have h1 := List.all_eq_true.mp nest_ok0 _ h
  have h2 : (Nat.beq kd 3 || Nat.beq kd 4) = true := by rcases hk with rfl | rfl <;> rfl
  simp only [chkNest, h2, Bool.not_true, Bool.false_or] at h1
  obtain ⟨q, hq, h3⟩ := List.any_eq_true.mp h1
  simp only [Bool.and_eq_true] at h3
  obtain ⟨q1, q2, q3, q4⟩ := q
  obtain ⟨⟨e1, e2⟩, e3⟩ := h3
  have e1 := Nat.eq_of_beq_eq_true e1
  have e2 := Nat.eq_of_beq_eq_true e2
  have e3 := Nat.eq_of_beq_eq_true e3
  dsimp only at e1 e2 e3
  subst e1 e2 e3
  exact ⟨q4, hq⟩
section ROWS6
variable {p : Program} {l : Launch} {e : Env} {R : Room} {s : State} {m : MethodId} {args : Array Value} {below : List Frame} {meth : Method} {c : Code} {H : Heap} {locs : List Loc} {cells slots : Nat} {Q : State → Prop}
variable {x : Ctx} {ad ad0 : Nat → Option Nat} {h : Hp} {y pc n0 mc ms : Nat} {rls : Array Slot} {rest : List Value}
theorem Pc_go (S : St x ad h H) (hK : va_K (xD x) clL (tysL x) s) (hO : OLDs x s s.heap) (hS : va_S (fr x) s.heap H locs) (hB : xB x ≤ s.heap.size) (ws : List Value) : ∀ U : State, U.heap = H → s.WarmedH U.vm → va_Pc ws (WB x ad h) ws.toArray U :=
  fun U hU hW => ⟨rfl, by rw [hU]; exact S, va_K.moved hW.alike hK, hO.go hS hU hW, by rw [hU]; exact Nat.le_trans hB hS.1⟩
/-- the receiver of a call -/
theorem m_recv (hK : va_K (xD x) clL (tysL x) s) (hO : OLDs x s s.heap) (hS : va_S (fr x) s.heap H locs) (S : St x ad h H) {a kd : Nat} (h1 : 1 ≤ kd) (h2 : kd ≤ 11) (hk : ckG h a kd = true) : ∃ q, ad a = some q ∧ ∃ cell : Cell, H[q]? = some cell ∧ cell.vm.isStatics = false ∧ s.vm.findClass (if kd = 11 then "java/lang/String" else RRa kd) = some cell.cls := by
  have hsp : HK h a = kd ∨ (kd = 11 ∧ HK h a = 9) := by
    by_cases h9 : kd = 11
    · subst h9
      have hk : (ckK h a 11 || ckK h a 9) = true := hk
      rw [Bool.or_eq_true] at hk
      exact hk.imp Nat.eq_of_beq_eq_true (fun z => ⟨rfl, Nat.eq_of_beq_eq_true z⟩)
    · have e : ckG h a kd = ckK h a kd := by unfold ckG; split <;> first | omega | rfl
      rw [e] at hk
      exact Or.inl (Nat.eq_of_beq_eq_true hk)
  by_cases h8 : kd = 11 ∧ HK h a = 9
  · obtain ⟨rfl, hk9⟩ := h8
    obtain ⟨q, hq, g1, g2, g3⟩ := S.at (a := a) (by rw [hk9]; exact Or.inl ⟨by decide, by decide⟩)
    rw [cE_obj (by decide) hk9] at g3
    rw [if_pos rfl]
    exact ⟨q, hq, va_recv hK S.1 (clL_at (kd := 9) (by decide) (by decide)) g3⟩
  have hk : HK h a = kd := hsp.resolve_right h8
  by_cases h9 : kd = 11
  · subst h9
    obtain ⟨o1, o2, o3, -, -, -⟩ := S.old hk (by omega)
    obtain ⟨q, hq, g1, -, -⟩ := (hO.1 a o1).2.2 o2
    obtain ⟨cell, c1, c2, c3, -⟩ := g1.kept hS.2.1
    exact ⟨q, by rw [o3, hq], cell, c1, c2, c3⟩
  · obtain ⟨q, hq, g1, g2, g3⟩ := S.at (a := a) (by rw [hk]; exact Or.inl ⟨h1, by omega⟩)
    rw [cE_obj (by omega) hk] at g3
    rw [if_neg h9]
    exact ⟨q, hq, va_recv hK S.1 (clL_at h1 (by omega)) g3⟩
abbrev CFix (p : Program) (m : MethodId) (c : Code) (meth : Method) (s : State) (args : Array Value) (y : Nat) : Prop := CallFix p m c (yb y) (nl y) s args TW (cn (yo y))
theorem FX.fix (F : FX p m c meth s args y) : CFix p m c meth s args y := ⟨F.1, F.2.1, F.2.2.1, F.2.2.2.1, F.2.2.2.2.1⟩
theorem rm_ok {y2 mc ms : Nat} (hT : TOK) (h2 : y2 < 343) (hlt : y2 < y) (h3 : 8 + y ≤ R.frames) (h4 : 200 + 40 * y ≤ R.locals) : (rmY y2 mc ms).frames + 1 ≤ R.frames ∧ 8 + (nl y2 + 11) + (rmY y2 mc ms).locals ≤ R.locals := by
  have := (met_at hT h2).2.2.2.2.2.2.2
  constructor
  · show 8 + y2 + 1 ≤ _
    omega
  · show 8 + (nl y2 + 11) + (200 + 40 * y2) ≤ _
    omega
/-- THE CALL: whatever the link, it runs by the contract -/
theorem m_run (hT : TOK) (F : FX p m c meth s args y) (hK : va_K (xD x) clL (tysL x) s) (hO : OLDs x s s.heap) (S : St x ad h H) (hS : va_S (fr x) s.heap H locs) (hB : xB x ≤ s.heap.size) (hsz : rls.size = nl y) (h3 : 8 + y ≤ R.frames) (h4 : 200 + 40 * y ≤ R.locals)
    {y2 i kd nA : Nat} {orig : Instr} {as ws : List Value} {r : Except Nat Value} {h1 : Hp} (hl : fndLnk lnkA (yo y) i kd y2 = true) (h2 : y2 < 343) (hlt : y2 < y) (has : SK ad (HN h) as ws) (hn : ws.length = nA)
    (hor : (orig = .invokevirtual i ∧ (kd = 0 ∨ kd = 5 ∨ kd = 8) ∧ nA = np y2 + 1) ∨ (orig = .invokestatic i ∧ (kd = 1 ∨ kd = 4 ∨ kd = 7) ∧ nA = np y2) ∨ (orig = .invokespecial i ∧ (kd = 2 ∨ kd = 3 ∨ kd = 6) ∧ nA = np y2 + 1))
    (hrk : rkOK (rk y2) as h = true) (hw : (rest.map fun v => v.category).sum ≤ 8) (hM : MetY l y2 x ad h ws r h1) (hd : decode (yb y) pc = .ok (orig, 3)) (hc : cells + (HC h1 - HC h) ≤ R.cells) (hs : slots + (HS h1 - HS h) ≤ R.slots) :
    vx_Run p l e R s m args below meth c H locs cells slots (HC h1 - HC h) (HS h1 - HS h) (F0 m pc rls (ws.reverse ++ rest)) rest (QC y2 x ad (HN h) r h1 ws.toArray) (XCC x ad (HN h) r h1) (fr x) := by
  obtain ⟨⟨o, i', kd', y', hs2⟩, hrr, e1, e2, e3, e4⟩ := fndLnk_in hl
  dsimp only at e1 e2 e3 e4
  subst e1 e2 e3 e4
  have hck := hT.2.2.2.1 _ hrr
  have hmt := met_at hT h2
  have hrm := rm_ok (R := R) (mc := HC h1 - HC h) (ms := HS h1 - HS h) hT h2 hlt h3 h4
  have hts := F.2.2.2.2.1
  have hPc := Pc_go (ws := ws) S hK hO hS hB
  have hcov : ∀ b : Nat, 2 * (F0 m pc rls (ws.reverse ++ rest)).monitorRoom + (rest.map fun v => v.category).sum ≤ 8 := fun _ => by show 2 * 0 + _ ≤ 8; omega
  have hinw := wsY_in hT h2
  -- the shape of the arguments where there is a receiver
  have hrec : 1 ≤ rk y' → rk y' ≤ 11 → ∃ (q : Nat) (As : List Value), ws = .ref q :: As ∧ ∃ cell : Cell, H[q]? = some cell ∧ cell.vm.isStatics = false ∧ s.vm.findClass (if rk y' = 11 then "java/lang/String" else RRa (rk y')) = some cell.cls := by
    intro k1 k2
    obtain ⟨kk, hkk⟩ : ∃ kk, rk y' = kk + 1 := ⟨rk y' - 1, by omega⟩
    rw [hkk] at hrk
    unfold rkOK at hrk
    cases as with
    | nil => cases hrk
    | cons v as' =>
      cases v with
      | ref a =>
        have ha : ckG h a (kk + 1) = true := hrk
        rw [← hkk] at ha
        obtain ⟨q, hq, cell, c1⟩ := m_recv hK hO hS S k1 k2 ha
        obtain ⟨w, ws', e1, e2, e3⟩ := has
        obtain ⟨-, e4⟩ := e2
        rw [hq] at e4
        exact ⟨q, ws', by rw [e1, e4]; rfl, cell, c1⟩
      | _ => cases hrk
  have hgo : ∀ L : List Cond, (∀ w ∈ L, w ∈ TW) → GoodIn TW (L ++ wsY y') := fun L hL => tw_goodIn (fun w hw => by
    rcases List.mem_append.mp hw with hw | hw
    · exact hL w hw
    · exact hinw w hw)
  have hst : ∀ (q : Nat) (As : List Value), (F0 m pc rls ((Value.ref q :: As).reverse ++ rest)).stack = As.reverse ++ .ref q :: rest := fun q As => by show List.reverse (Value.ref q :: As) ++ rest = _; simp
  have hdd : (yn y').cls ≠ "java/lang/invoke/MethodHandle" ∧ (yn y').cls ≠ "java/lang/invoke/VarHandle" ∧ (parseMethodDescriptor (yn y').desc).map (fun d => d.parameters.length) = some (np y') := ⟨hmt.2.2.2.1, hmt.2.2.2.2.1, hmt.2.2.2.2.2.1⟩
  rcases hor with ⟨rfl, hkd, hnp⟩ | ⟨rfl, hkd, hnp⟩ | ⟨rfl, hkd, hnp⟩
  · rcases hkd with rfl | rfl | rfl
    · obtain ⟨ka, kb, kc, kd, ke, kf, kg⟩ := lnk0 hck
      obtain ⟨q, As, rfl, hcell⟩ := hrec ke kf
      rw [List.length_cons] at hn
      rw [← kd] at hcell
      exact vx_runV F.fix hM (cwV (C := (yn y').cls) (np y') hts (hgo [_, _, _, _] (fun w hw => by
          simp only [List.mem_cons, List.not_mem_nil, or_false] at hw
          rcases hw with rfl | rfl | rfl | rfl
          · exact ka
          · exact kb
          · exact kc
          · exact hmt.2.1)) (show wsY y' = _ by unfold wsY; rw [codeW0 kg]) rfl rfl ⟨rfl, hdd⟩ hrm) ⟨PcBlind, hcell, hPc⟩ rfl (by omega) hsz (hst q As) (hcov 0) hd ⟨hc, hs⟩
    · obtain ⟨ka, kb, kc, kd, ke, kg⟩ := lnk5 hck
      obtain ⟨q, As, rfl, hcell⟩ := hrec (by omega) (by omega)
      rw [List.length_cons] at hn
      rw [ke, if_neg (by decide)] at hcell
      exact vx_runU F.fix hM (va_cwU (C := RR10) (owner := (yn y').cls) (x := yn y') (y := yn y') (np y') hts (hgo [_, _, _, _, _] (fun w hw => by
          simp only [List.mem_cons, List.not_mem_nil, or_false] at hw
          rcases hw with rfl | rfl | rfl | rfl | rfl
          · exact ka
          · exact kb
          · exact kc
          · exact kd
          · exact hmt.2.1)) (show wsY y' = _ by unfold wsY; rw [codeW0 kg]) rfl rfl rfl hdd hrm) ⟨PcBlind, hcell, hPc⟩ rfl (by omega) hsz (hst q As) (hcov 0) hd ⟨hc, hs⟩
    · obtain ⟨ka, kb, kc, kd, ke, kg⟩ := lnk8 hck
      subst kg
      have hrk8 : rk 88 = 10 := by decide +kernel
      have hh8 : List.isEmpty (hh 88) = true := by decide +kernel
      have hm87 := met_at hT (y := 87) (by decide)
      obtain ⟨q, As, rfl, hcell⟩ := hrec (by omega) (by omega)
      rw [List.length_cons] at hn
      rw [hrk8, if_neg (by decide)] at hcell
      have hc87 : Cond.code (yn 87) (yb 87) (nl 87) (yr 87) ∈ TW := by
        have := hm87.1
        rwa [codeW0 (by decide +kernel)] at this
      exact vx_runU F.fix hM (va_cwO (C := RR10) (owner := (yn 87).cls) (x := yn 87) (y := yn 88) (np 88) hts (hgo [_, _, _, _, _, _] (fun w hw => by
          simp only [List.mem_cons, List.not_mem_nil, or_false] at hw
          rcases hw with rfl | rfl | rfl | rfl | rfl | rfl
          · exact ka
          · exact kb
          · exact kc
          · exact kd
          · exact ke
          · exact hmt.2.1)) (show wsY 88 = _ by unfold wsY; rw [codeW0 hh8]) rfl rfl hc87 (by decide +kernel) hrm) ⟨PcBlind, hcell, hPc⟩ rfl (by omega) hsz (hst q As) (hcov 0) hd ⟨hc, hs⟩
  · rcases hkd with rfl | rfl | rfl
    · obtain ⟨ka, kb, kc, kg⟩ := lnk1 hck
      exact vx_runS F.fix hM (va_cwS (np y') hts (hgo [_, _, _] (fun w hw => by
          simp only [List.mem_cons, List.not_mem_nil, or_false] at hw
          rcases hw with rfl | rfl | rfl
          · exact ka
          · exact kb
          · exact hmt.2.1)) (show wsY y' = _ by unfold wsY; rw [codeW0 kg]) rfl rfl hdd hrm) ⟨PcBlind, hPc⟩ rfl (by omega) hsz rfl (hcov 0) hd ⟨hc, hs⟩
    · obtain ⟨kb, kc, kg⟩ := lnk4 hck
      obtain ⟨host, hn9⟩ := nest_at hrr (Or.inr rfl)
      exact vx_runSN F.fix hM ⟨va_cnB (np y') hts (tw_goodIn hinw) (show wsY y' = _ by unfold wsY; rw [codeW0 kg]) rfl rfl (hO.2.2.2.2.2.2.2.1 (yo y, i', y', host) hn9) (hts _ hmt.2.1) hdd hrm, hts _ kb, trivial⟩ ⟨PcBlind, hPc⟩ rfl (by omega) hsz rfl (hcov 0) hd ⟨hc, hs⟩
    · obtain ⟨ka, kb, kc, kg⟩ := lnk7 hck
      exact vx_runSX F.fix hM (vx_cwSW (np y') hts (hgo [_, _, _] (fun w hw => by
          simp only [List.mem_cons, List.not_mem_nil, or_false] at hw
          rcases hw with rfl | rfl | rfl
          · exact ka
          · exact kb
          · exact hmt.2.1)) (show wsY y' = _ by unfold wsY; rw [codeW1 kg]) rfl rfl hdd hrm) ⟨PcBlind, hPc⟩ rfl (by omega) hsz rfl (hcov 0) hd ⟨hc, hs⟩
  · rcases hkd with rfl | rfl | rfl
    · obtain ⟨ka, kb, kc, ke, kf, kg⟩ := lnk2 hck
      obtain ⟨q, As, rfl, hcell⟩ := hrec ke (rk_le hT h2)
      rw [List.length_cons] at hn
      exact vx_runI F.fix hM (cwI (np y') hts (tw_goodIn hinw) (show wsY y' = _ by unfold wsY; rw [codeW0 kg, kf]) rfl rfl (hts _ hmt.2.1) (hts _ ka) (hts _ kb) kc hdd hrm) ⟨PcBlind, hPc⟩ rfl (by omega) hsz (hst q As) (hcov 0) hd ⟨hc, hs⟩
    · obtain ⟨kb, kc, ke, kf, kg⟩ := lnk3 hck
      obtain ⟨q, As, rfl, hcell⟩ := hrec ke (rk_le hT h2)
      obtain ⟨host, hn9⟩ := nest_at hrr (Or.inl rfl)
      rw [List.length_cons] at hn
      have hcw : wsY y' = Cond.code (yn y') (yb y') (nl y') none :: TW := by unfold wsY; rw [codeW0 kg, kf]
      have hl9 : va_Nw (.methodLinkNest (cn (yo y)) i' (yn y') host) s := hO.2.2.2.2.2.2.2.1 (yo y, i', y', host) hn9
      have hN : va_CN R s args (cn (yo y)) i' (yn y') host (yb y') (nl y') none (wsY y') (rmY y' (HC h1 - HC h) (HS h1 - HS h)) (HC h1 - HC h) (HS h1 - HS h) (np y') := va_cnB (Ts := TW) (ws' := TW) (np y') hts (tw_goodIn hinw) hcw rfl rfl hl9 (hts _ hmt.2.1) hdd hrm
      exact vx_runIN F.fix hM ⟨hN, kc, hts _ kb⟩ ⟨PcBlind, hPc⟩ rfl (by omega) hsz (hst q As) (hcov 0) hd ⟨hc, hs⟩
    · obtain ⟨ka, kb, kc, kd, ke, kf, kg⟩ := lnk6 hck
      obtain ⟨q, As, rfl, hcell⟩ := hrec (by omega) (by omega)
      rw [List.length_cons] at hn
      rw [ke, if_neg (by decide)] at hcell
      obtain ⟨cC, hat⟩ := classAt_of (hts _ (new_at hT (o := 0) (i := 50) (kd := 10) (by decide)).2.2.2.1)
      exact vx_runSU (C := RR10) hat F.fix hM (va_cwSU (np y') hts (hgo [_, _, _, _, _] (fun w hw => by
          simp only [List.mem_cons, List.not_mem_nil, or_false] at hw
          rcases hw with rfl | rfl | rfl | rfl | rfl
          · exact ka
          · exact kb
          · exact kc
          · exact kd
          · exact hmt.2.1)) (show wsY y' = _ by unfold wsY; rw [codeW0 kg]) rfl rfl ⟨kf, hdd.2.2⟩ hrm) ⟨PcBlind, hcell, hPc⟩ rfl (by omega) hsz (hst q As) (hcov 0) hd ⟨hc, hs⟩
end ROWS6
