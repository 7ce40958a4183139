/-! ENDS of a method, handlers, throws -/
def hclA : List (Nat × Nat × Nat × Nat) := [(49, 1, 359, 0), (51, 2, 360, 0), (53, 4, 361, 0), (106, 3, 748, 0)]
def chkEx (e : Nat) : Bool := (exW e).all (fun w => !goodWord w || decide (w ∈ TBL))
noncomputable def chkThr (r : Nat × Nat × Nat × Nat × Nat × Nat × Nat × Nat) : Bool :=
  Nat.beq (yo r.1) 0 && Nat.beq r.2.2.1 0 && Nat.ble 1 r.2.2.2.2.2.2.2 && Nat.ble r.2.2.2.2.2.2.2 5 && Nat.beq r.2.2.2.1 (ikE r.2.2.2.2.2.2.2) && Nat.beq r.2.2.2.2.2.2.1 (icE r.2.2.2.2.2.2.2) && List.isEmpty (hh r.1) && decide (decode (yb r.1) r.2.1 = .ok (.new r.2.2.2.1, 3)) && decide (decode (yb r.1) (r.2.1 + 3) = .ok (.dup, 1)) &&
  (if r.2.2.2.2.2.1 = 0 then decide (decode (yb r.1) (r.2.1 + 4) = .ok (.ldc r.2.2.2.2.1, 2)) && decide (decode (yb r.1) (r.2.1 + 6) = .ok (.invokespecial r.2.2.2.2.2.2.1, 3)) && decide (decode (yb r.1) (r.2.1 + 9) = .ok (.athrow, 1))
   else decide (decode (yb r.1) (r.2.1 + 4) = .ok (.ldc_w r.2.2.2.2.1, 3)) && decide (decode (yb r.1) (r.2.1 + 7) = .ok (.invokespecial r.2.2.2.2.2.2.1, 3)) && decide (decode (yb r.1) (r.2.1 + 10) = .ok (.athrow, 1)))
noncomputable def chkH1 (y : Nat) (r : Nat × Nat × Nat × Nat × Nat) (q : Nat × Nat × Nat × Nat) : Bool :=
  Nat.beq r.1 q.1 && Nat.beq r.2.1 q.2.1 && Nat.ble 1 r.2.2.2.1 && Nat.ble r.2.2.2.1 4 && Nat.blt r.2.2.2.2 (nl y) && Nat.blt y 343 && Nat.blt 0 q.2.2.2 &&
  hclA.any (fun z => Nat.beq z.1 q.2.2.2 && Nat.beq z.2.1 r.2.2.2.1 && okAt z.2.2.1 (.classLink (cn (yo y)) q.2.2.2 (exN r.2.2.2.1))) &&
  ((decide (decode (yb y) q.2.2.1 = .ok (.astore r.2.2.2.2, 2)) && Nat.beq r.2.2.1 (q.2.2.1 + 2)) || (List.finRange 4).any (fun n => decide (decode (yb y) q.2.2.1 = .ok (.astore_n n, 1)) && Nat.beq n.val r.2.2.2.2 && Nat.beq r.2.2.1 (q.2.2.1 + 1)))
noncomputable def chkHs (y : Nat) : List (Nat × Nat × Nat × Nat × Nat) → List (Nat × Nat × Nat × Nat) → Bool
  | [], [] => true
  | r :: l, q :: k => chkH1 y r q && chkHs y l k
  | _, _ => false
def TOK3 : Prop := (∀ e, 1 ≤ e → e ≤ 5 → chkEx e = true) ∧ thrA.all chkThr = true ∧ ∀ y, y < 344 → chkHs y (hd y) (hh y) = true
/-- a local of which nothing is known any more -/
theorem LH.putN {ad : Nat → Option Nat} {n y nL i : Nat} {ls : List Value} {rls rls' : Array Slot} {w : Value} (h : LH ad n y nL ls rls) (hd : mem' ((dsl y).map (· + 1)) i = false)
    (h' : lv_has rls' nL ((i, w) :: (lvl rls).filter (fun q => !(q.1 == i) && !(q.1 + 1 == i && q.2.category == 2)))) : LH ad n y nL (sl ls i .null) rls' := by
  refine ⟨h'.1, h'.2.1, fun k => ?_⟩
  rw [gl_sl]
  by_cases hk : k = i ∧ i < ls.length
  · rw [if_pos hk, hk.1]
    exact ⟨trivial, Or.inl rfl⟩
  · rw [if_neg hk]
    refine ⟨(h.2.2 k).1, ?_⟩
    rcases (h.2.2 k).2 with e | ⟨w1, h1, h2⟩
    · exact Or.inl e
    · by_cases hki : k = i
      · exact Or.inl (by
          have hl : ¬ i < ls.length := fun z => hk ⟨hki, z⟩
          have : ∀ (l : List Value) (j : Nat), ¬ j < l.length → gl l j = .null := by
            intro l
            induction l with
            | nil => intro j _; rfl
            | cons a l ih =>
              intro j hj
              cases j with
              | zero => simp at hj
              | succ j => exact ih j (by simpa using hj)
          rw [hki]
          exact this ls i hl)
      · refine Or.inr ⟨w1, h1, h'.2.2 (k, w1) (List.mem_cons_of_mem _ (List.mem_filter.mpr ⟨lvl_mem.mpr h2, ?_⟩))⟩
        have hcat := h1.cat
        have hok := (h.2.2 k).1
        have : ¬ (k + 1 = i ∧ w1.category = 2) := by
          rintro ⟨e1, e2⟩
          rw [hcat] at e2
          have hm : ∀ (l : List Nat), mem' l k = true → mem' (l.map (· + 1)) (k + 1) = true := by
            intro l
            induction l with
            | nil => intro z; cases z
            | cons a l ih =>
              intro z
              simp only [mem', List.map_cons] at z ⊢
              cases hb : Nat.beq a k with
              | true =>
                have : a = k := Nat.eq_of_beq_eq_true hb
                subst this
                simp
              | false =>
                rw [hb] at z
                have hb2 : Nat.beq (a + 1) (k + 1) = false := by
                  rw [← Bool.not_eq_true] at hb ⊢
                  intro z2
                  exact hb (by have := Nat.eq_of_beq_eq_true z2; have : a = k := by omega
                               subst this; simp)
                rw [hb2]
                exact ih z
          cases hg : gl ls k with
          | double d =>
            rw [hg] at hok
            have := hm _ hok
            rw [e1, hd] at this
            cases this
          | long d => rw [hg] at hok; exact hok
          | _ => rw [hg] at e2; simp [Value.category] at e2
        simp only [Bool.and_eq_true, Bool.not_eq_true', beq_eq_false_iff_ne, ne_eq, Bool.and_eq_false_iff]
        refine ⟨hki, ?_⟩
        by_cases e1 : k + 1 = i
        · exact Or.inr (fun z => this ⟨e1, z⟩)
        · exact Or.inl e1
theorem dsl_no {y : Nat} (h : y < 343) : dsl y = [] := by unfold dsl; rw [if_neg (by omega)]
section ROWS7
variable {p : Program} {l : Launch} {e : Env} {R : Room} {s : State} {m : MethodId} {args : Array Value} {below : List Frame} {meth : Method} {c : Code} {H : Heap} {locs : List Loc} {cells slots : Nat} {Q : State → Prop}
variable {x : Ctx} {ad ad0 : Nat → Option Nat} {h h' : Hp} {y pc n0 mc ms : Nat} {rls : Array Slot} {ls rest : List Value}
/-- every entry of the table passes the exception by -/
def passes (c : Code) (s : State) (args : Array Value) (own E : String) (pc : Nat) (z : ExceptionTableEntry) : Prop := covers z pc = false ∨ (z.catchType ≠ 0 ∧ ∃ nm : String, (Cond.classLink own z.catchType nm).before args s = true ∧ va_Nc E nm s)
theorem m_handle (F : FX p m c meth s args y) (hO : OLDs x s s.heap) (hL : LH ad (HN h) y (nl y) ls rls) {k q : Nat} {ce : Cell} (hcell : H[q]? = some ce) (hv : ce.vm = .none) (hcl : s.vm.findClass (exN k) = some ce.cls) (hk1 : 1 ≤ k) (hk5 : k ≤ 5)
    {kk : Nat → Nat → Res} {o : Res} {r : Except Nat Value × Hp} (hs : List (Nat × Nat × Nat × Nat × Nat)) : ∀ (tb : List (Nat × Nat × Nat × Nat)) (pre : List ExceptionTableEntry), chkHs y hs tb = true → c.exceptionTable.toList = pre ++ tableOf tb → (∀ z ∈ pre, passes c s args (cn (yo y)) (exN k) pc z) → hsel hs pc k kk o = some r →
    (∀ (nx k9 : Nat) (rls' : Array Slot), kk nx k9 = some r → LH ad (HN h) y (nl y) (sl ls k9 .null) rls' → W p l e R s m args below meth c H locs cells slots Q (F0 m nx rls' [])) →
    (o = some r → (∀ z ∈ c.exceptionTable.toList, passes c s args (cn (yo y)) (exN k) pc z) → vx_W p l e R s m args below meth c H locs cells slots Q (F0 m pc rls rest) q) →
    vx_W p l e R s m args below meth c H locs cells slots Q (F0 m pc rls rest) q := by
  induction hs with
  | nil =>
    intro tb pre hck htb hpre hsl _ kO
    cases tb with
    | nil =>
      refine kO hsl (fun z hz => ?_)
      rw [htb] at hz
      simp only [tableOf, List.map_nil, List.append_nil] at hz
      exact hpre z hz
    | cons a b => cases hck
  | cons r1 hs ih =>
    intro tb pre hck htb hpre hsl kH kO
    cases tb with
    | nil => cases hck
    | cons q1 tb =>
      simp only [chkHs, Bool.and_eq_true] at hck
      obtain ⟨hc1, hc2⟩ := hck
      simp only [chkH1, Bool.and_eq_true] at hc1
      obtain ⟨⟨⟨⟨⟨⟨⟨⟨a1, a2⟩, a3⟩, a4⟩, a5⟩, a6⟩, a7⟩, a8⟩, a9⟩ := hc1
      have a1 := Nat.eq_of_beq_eq_true a1
      have a2 := Nat.eq_of_beq_eq_true a2
      have a3 := Nat.le_of_ble_eq_true a3
      have a4' := Nat.le_of_ble_eq_true a4
      have a4 : r1.2.2.2.1 ≤ 5 := by omega
      have a5 : r1.2.2.2.2 < nl y := Nat.le_of_ble_eq_true a5
      have a6 : y < 343 := Nat.le_of_ble_eq_true a6
      have a7 : 0 < q1.2.2.2 := Nat.le_of_ble_eq_true a7
      obtain ⟨z, -, hz⟩ := List.any_eq_true.mp a8
      simp only [Bool.and_eq_true] at hz
      have wl := F.2.2.2.2.1 _ (tw_of hz.2)
      have wc : (Cond.castable (exN r1.2.2.2.1) (exN r1.2.2.2.1)).before args s = true := va_Nw.use rfl (hO.2.2.2.2.2.2.2.2.2.2 _ a3 a4 _ (exW_cast _ a3 a4) rfl)
      have htb' : c.exceptionTable.toList = pre ++ (⟨q1.1, q1.2.1, q1.2.2.1, q1.2.2.2⟩ :: tableOf tb) := htb
      have hgo : passes c s args (cn (yo y)) (exN k) pc ⟨q1.1, q1.2.1, q1.2.2.1, q1.2.2.2⟩ → hsel hs pc k kk o = some r → vx_W p l e R s m args below meth c H locs cells slots Q (F0 m pc rls rest) q := by
        intro hp hs2
        refine ih tb (pre ++ [⟨q1.1, q1.2.1, q1.2.2.1, q1.2.2.2⟩]) hc2 (by rw [htb']; simp) (fun w hw => ?_) hs2 kH kO
        rcases List.mem_append.mp hw with hw | hw
        · exact hpre w hw
        · rw [List.mem_singleton.mp hw]
          exact hp
      simp only [hsel] at hsl
      cases hcov : (Nat.ble r1.1 pc && Nat.blt pc r1.2.1) with
      | false =>
        rw [hcov] at hsl
        refine hgo (Or.inl ?_) hsl
        rw [← Bool.not_eq_true] at hcov ⊢
        intro hz2
        apply hcov
        simp only [covers, Bool.and_eq_true, decide_eq_true_eq] at hz2 ⊢
        exact ⟨Nat.ble_eq_true_of_le (by omega), Nat.ble_eq_true_of_le (by show pc + 1 ≤ _; omega)⟩
      | true =>
        rw [hcov] at hsl
        simp only [cond_true] at hsl
        by_cases hke : k = r1.2.2.2.1
        · rw [if_pos hke] at hsl
          simp only [Bool.and_eq_true] at hcov
          have b1 := Nat.le_of_ble_eq_true hcov.1
          have b2 : pc < r1.2.1 := Nat.le_of_ble_eq_true hcov.2
          rw [← hke] at wl wc
          refine vx_catch (own := cn (yo y)) (name := exN k) F.2.2.2.1 pre ⟨q1.1, q1.2.1, q1.2.2.1, q1.2.2.2⟩ (tableOf tb) htb' hpre ?_ (by show q1.2.2.2 ≠ 0; omega) wl wc hcell hv hcl ?_
          · simp only [covers, Bool.and_eq_true, decide_eq_true_eq]
            omega
          · show W p l e R s m args below meth c H locs cells slots Q (F0 m q1.2.2.1 rls [.ref q])
            simp only [Bool.or_eq_true, Bool.and_eq_true, decide_eq_true_eq] at a9
            have hdn : mem' ((dsl y).map (· + 1)) r1.2.2.2.2 = false := by rw [dsl_no a6]; rfl
            rcases a9 with ⟨d1, d2⟩ | d1
            · have d2 := Nat.eq_of_beq_eq_true d2
              refine lv_astore F.1 F.2.1 d1 hL.has a5 rfl (fun rls' h9 => ?_)
              rw [← d2]
              exact kH _ _ rls' hsl (hL.putN hdn h9)
            · obtain ⟨n, -, hn⟩ := List.any_eq_true.mp d1
              simp only [Bool.and_eq_true, decide_eq_true_eq] at hn
              obtain ⟨⟨d1, d2⟩, d3⟩ := hn
              have d2 := Nat.eq_of_beq_eq_true d2
              have d3 := Nat.eq_of_beq_eq_true d3
              refine lv_astore_n F.1 F.2.1 d1 d2 hL.has a5 rfl (fun rls' h9 => ?_)
              rw [← d3]
              exact kH _ _ rls' hsl (hL.putN hdn h9)
        · rw [if_neg hke] at hsl
          exact hgo (Or.inr ⟨by show q1.2.2.2 ≠ 0; omega, _, wl, hO.2.2.2.2.2.2.1 k _ hk1 hk5 a3 a4' hke⟩) hsl
theorem fndThr_in {y pc i k : Nat} : ∀ {l : List (Nat × Nat × Nat × Nat × Nat × Nat × Nat × Nat)}, fndThr l y pc i k = true → ∃ r ∈ l, r.1 = y ∧ r.2.1 = pc ∧ r.2.2.2.1 = i ∧ r.2.2.2.2.2.2.2 = k
  | [], h => by cases h
  | r :: l, h => by
    simp only [fndThr, Bool.or_eq_true, Bool.and_eq_true] at h
    rcases h with h | h
    · exact ⟨r, List.mem_cons_self, Nat.eq_of_beq_eq_true h.1.1.1, Nat.eq_of_beq_eq_true h.1.1.2, Nat.eq_of_beq_eq_true h.1.2, Nat.eq_of_beq_eq_true h.2⟩
    · obtain ⟨r', h1, h2⟩ := fndThr_in h
      exact ⟨r', List.mem_cons_of_mem _ h1, h2⟩
theorem St.ext (S : St x ad h H) {H1 : Heap} (hq : ∀ q : Nat, q < H.size → H1[q]? = H[q]?) : St x ad h H1 := ⟨S.1.kept (fun k q hk => hq q.1 (S.1 k q hk).lt), S.2⟩
theorem St.thr (S : St x ad h H) : St x ad (hthr h) H := S
theorem va_S.ext {A : Nat → Prop} {H0 H1 : Heap} {t : State} (hS : va_S A s.heap H locs) (h1 : H.size ≤ t.heap.size) (h2 : ∀ q : Nat, q < H.size → t.heap[q]? = H[q]?) : va_F A s t := ⟨Nat.le_trans hS.1 h1, fun q a1 a2 => by rw [h2 q (Nat.lt_of_lt_of_le a1 hS.1)]; exact hS.2.1 q a1 a2⟩
theorem fit_ex : ∀ e, 1 ≤ e → e ≤ 5 → Bundle.fit (exN e) = true := by
  intro e h1 h2
  rcases (show e = 1 ∨ e = 2 ∨ e = 3 ∨ e = 4 ∨ e = 5 by omega) with rfl | rfl | rfl | rfl | rfl <;> decide +kernel
theorem fit_up : ∀ n ∈ exU, Bundle.fit n = true := by
  intro n hn
  simp only [exU, List.mem_cons, List.not_mem_nil, or_false] at hn
  rcases hn with rfl | rfl <;> decide +kernel
theorem m_throw (hT3 : TOK3) (F : FX p m c meth s args y) (hst : l.stackTraces = false) (hO : OLDs x s s.heap) (S : St x ad h H) (hS : va_S (fr x) s.heap H locs) (hE : Ext ad0 ad n0) (hsz : rls.size = nl y) (htb : c.exceptionTable.toList = tableOf (hh y)) (hlk : meth.locks = false) {i k : Nat} (hf : fndThr thrA y pc i k = true) (hw : (rest.map fun v => v.category).sum ≤ 8) (h3 : 8 ≤ R.frames) (h4 : 200 ≤ R.locals) (hc : cells + 1 ≤ mc) (hs : slots + 6 ≤ ms) (hc2 : mc ≤ R.cells) (hs2 : ms ≤ R.slots) {QQ : Array Value → State → Outcome → State → Prop} :
    W p l e R s m args below meth c H locs cells slots (vx_MQ below QQ (XCC x ad0 n0 (.error k) (hthr h)) args s mc ms (fr x)) (F0 m pc rls rest) := by
  obtain ⟨⟨y', pc', o, ik, is, wd, ic, k'⟩, hr, e1, e2, e3, e4⟩ := fndThr_in hf
  dsimp only at e1 e2 e3 e4
  subst e1 e2 e3 e4
  have hck := List.all_eq_true.mp hT3.2.1 _ hr
  simp only [chkThr, Bool.and_eq_true, decide_eq_true_eq] at hck
  obtain ⟨⟨⟨⟨⟨⟨⟨⟨⟨a1, a2⟩, a3⟩, a4⟩, a5⟩, a6⟩, a7⟩, a8⟩, a9⟩, a10⟩ := hck
  have a1 := Nat.eq_of_beq_eq_true a1
  have a2 := Nat.eq_of_beq_eq_true a2
  have a3 := Nat.le_of_ble_eq_true a3
  have a4 := Nat.le_of_ble_eq_true a4
  have a5 := Nat.eq_of_beq_eq_true a5
  have a6 := Nat.eq_of_beq_eq_true a6
  subst a2 a5 a6
  have hex := hT3.1 k' a3 a4
  have hwd : ∀ w ∈ exW k', goodWord w = true → w ∈ TW := fun w hw hg => by
    have h1 := List.all_eq_true.mp hex w hw
    rw [hg] at h1
    simp only [Bool.not_true, Bool.false_or, decide_eq_true_eq] at h1
    exact List.mem_filter.mpr ⟨h1, hg⟩
  have hown : s.vm.findClass "RecordReconciler" = some m.cls := by
    have := F.2.2.2.1
    rw [a1] at this
    exact this
  have hgood : ∀ w ∈ exW k', vx_ot w = true := fun w hw => by
    have h1 := List.all_eq_true.mp (exW_dc k' a3 a4) w hw
    unfold vx_ot
    cases hg : goodWord w with
    | true => rw [Bool.or_true]
    | false =>
      rw [hg, Bool.false_or] at h1
      rw [dc_tab h1]
      rfl
  have hb : ∀ w ∈ exW k', w.before args s = true := fun w hw => by
    have h1 := List.all_eq_true.mp (exW_dc k' a3 a4) w hw
    cases hg : goodWord w with
    | true => exact F.2.2.2.2.1 w (hwd w hw hg)
    | false =>
      rw [hg, Bool.false_or] at h1
      exact va_Nw.use (dc_tab h1) (hO.2.2.2.2.2.2.2.2.2.2 k' a3 a4 w hw hg)
  obtain ⟨tx, q, hstr⟩ := hO.2.2.2.1 _ hr
  have hout : ∀ n : Nat, ∀ z ∈ c.exceptionTable.toList, covers z n = false := by
    intro n z hz
    rw [htb] at hz
    have : hh y' = [] := List.isEmpty_iff.mp a7
    rw [this] at hz
    exact nomatch hz
  have hx : ∀ t : State, s.vm.Alike t.vm → H.size ≤ t.heap.size → (∀ q : Nat, q < H.size → t.heap[q]? = H[q]?) → XCC x ad0 n0 (.error k') (hthr h) (exN k') s t := fun t _ h1 h2 => ⟨ad, trivial, ⟨⟨k', rfl, rfl, a3, a4⟩, hE, St.ext (h := hthr h) S h2⟩, hS.ext (H0 := H) (H1 := H) h1 h2⟩
  by_cases h4k : k' = 4
  · subst h4k
    have hL4 : exL 4 = (atN "RecordReconciler" (icE 4)).filter vx_no := rfl
    have hw4 : ∀ w ∈ Cond.classLink "RecordReconciler" (ikE 4) nseN :: Cond.initialized nseN :: (atN "RecordReconciler" (icE 4)).filter vx_no, w ∈ exW 4 := fun w hw => hw
    split at a10
    · simp only [Bool.and_eq_true, decide_eq_true_eq] at a10
      exact nse_throw (own := "RecordReconciler") (ik := ikE 4) (ic := icE 4) F.1 F.2.1 hst hown (hb _ (hw4 _ List.mem_cons_self)) (hb _ (hw4 _ (List.mem_cons_of_mem _ List.mem_cons_self))) hstr (fun w hw => hb w (hw4 _ (List.mem_cons_of_mem _ (List.mem_cons_of_mem _ hw)))) (fun w hw => hgood w (hw4 w hw)) hO.2.2.2.2.1 hO.2.2.2.2.2.1 hS (by rw [hsz, F.2.2.1]) 6 a8 a9 (Or.inl ⟨rfl, a10.1.1⟩) a10.1.2 a10.2 hout (by omega) (by omega) (by omega) (by omega) hlk hx (fun z hz => hS.2.2 z hz) hc hs
    · simp only [Bool.and_eq_true, decide_eq_true_eq] at a10
      exact nse_throw (own := "RecordReconciler") (ik := ikE 4) (ic := icE 4) F.1 F.2.1 hst hown (hb _ (hw4 _ List.mem_cons_self)) (hb _ (hw4 _ (List.mem_cons_of_mem _ List.mem_cons_self))) hstr (fun w hw => hb w (hw4 _ (List.mem_cons_of_mem _ (List.mem_cons_of_mem _ hw)))) (fun w hw => hgood w (hw4 w hw)) hO.2.2.2.2.1 hO.2.2.2.2.2.1 hS (by rw [hsz, F.2.2.1]) 7 a8 a9 (Or.inr ⟨rfl, a10.1.1⟩) a10.1.2 a10.2 hout (by omega) (by omega) (by omega) (by omega) hlk hx (fun z hz => hS.2.2 z hz) hc hs
  have hLk : exL k' = vx_atS "RecordReconciler" (icE k') (exN k') exU := by unfold exL; rw [if_neg h4k]
  have hb2 : ∀ w ∈ Cond.classLink "RecordReconciler" (ikE k') (exN k') :: Cond.initialized (exN k') :: vx_atS "RecordReconciler" (icE k') (exN k') exU, w.before args s = true ∧ vx_ot w = true := fun w hw => by
    rw [← hLk] at hw
    exact ⟨hb w hw, hgood w hw⟩
  have hb := fun w hw => (hb2 w hw).1
  have hgood := fun w hw => (hb2 w hw).2
  split at a10
  · simp only [Bool.and_eq_true, decide_eq_true_eq] at a10
    exact vx_throwS F.1 F.2.1 hst (names := exU) hown (fit_ex k' a3 a4) fit_up (hb _ List.mem_cons_self) (hb _ (List.mem_cons_of_mem _ List.mem_cons_self)) hstr (fun w hw => hb w (List.mem_cons_of_mem _ (List.mem_cons_of_mem _ hw))) hgood hO.2.2.2.2.1 hO.2.2.2.2.2.1 hS (by rw [hsz, F.2.2.1]) a8 a9 a10.1.1 a10.1.2 a10.2 (hout _) (by show 2 + 3 < _; omega) (by show _ + (13 * (2 + 1) + 43) ≤ _; omega) (by omega) (by omega) hlk hx (fun z hz => hS.2.2 z hz) hc hs
  · simp only [Bool.and_eq_true, decide_eq_true_eq] at a10
    exact vx_throwSW F.1 F.2.1 hst (names := exU) hown (fit_ex k' a3 a4) fit_up (hb _ List.mem_cons_self) (hb _ (List.mem_cons_of_mem _ List.mem_cons_self)) hstr (fun w hw => hb w (List.mem_cons_of_mem _ (List.mem_cons_of_mem _ hw))) hgood hO.2.2.2.2.1 hO.2.2.2.2.2.1 hS (by rw [hsz, F.2.2.1]) a8 a9 a10.1.1 a10.1.2 a10.2 (hout _) (by show 2 + 3 < _; omega) (by show _ + (13 * (2 + 1) + 43) ≤ _; omega) (by omega) (by omega) hlk hx (fun z hz => hS.2.2 z hz) hc hs
/-- a return, by the value's kind -/
theorem m_retI (F : FX p m c meth s args y) (S : St x ad h H) (hS : va_S (fr x) s.heap H locs) (hE : Ext ad0 ad n0) (hlk : meth.locks = false) {ty : FieldType} (hyr : yr y = some ty) (hr : meth.sig.returnType = yr y) (hk : rtc (yr y) = 1) {v : Int32} (hn : narrow ty (.int v) = .int v) (hd : decode (yb y) pc = .ok (.ireturn, 1)) (hc : cells ≤ mc) (hs : slots ≤ ms) {XC : String → State → State → Prop} :
    W p l e R s m args below meth c H locs cells slots (vx_MQ below (QC y x ad0 n0 (.ok (.int v)) h) XC args s mc ms (fr x)) (F0 m pc rls [.int v]) := by
  refine W.widen hc hs (vx_ret (W.zret F.1 F.2.1 (by rw [hr, hyr]) hn (fun t ht _ => ?_) hS.2.2 hd hlk))
  unfold QC
  rw [hk]
  exact ⟨⟨v, ad, rfl, rfl, hE, by rw [ht]; exact S⟩, hS.F ht⟩
theorem m_retV (F : FX p m c meth s args y) (S : St x ad h H) (hS : va_S (fr x) s.heap H locs) (hE : Ext ad0 ad n0) (hlk : meth.locks = false) (hyr : yr y = none) (hr : meth.sig.returnType = yr y) (hd : decode (yb y) pc = .ok (.return_, 1)) (hc : cells ≤ mc) (hs : slots ≤ ms) {XC : String → State → State → Prop} :
    W p l e R s m args below meth c H locs cells slots (vx_MQ below (QC y x ad0 n0 (.ok .null) h) XC args s mc ms (fr x)) (F0 m pc rls []) := by
  refine W.widen hc hs (vx_ret (W.vret F.1 F.2.1 (by rw [hr, hyr]) (fun t ht _ => ?_) hS.2.2 hd hlk))
  unfold QC
  rw [hyr]
  exact ⟨⟨ad, rfl, rfl, hE, by rw [ht]; exact S⟩, hS.F ht⟩
theorem m_retD (F : FX p m c meth s args y) (S : St x ad h H) (hS : va_S (fr x) s.heap H locs) (hE : Ext ad0 ad n0) (hlk : meth.locks = false) (hyr : yr y = some .double) (hr : meth.sig.returnType = yr y) {v : UInt64} (hd : decode (yb y) pc = .ok (.dreturn, 1)) (hc : cells ≤ mc) (hs : slots ≤ ms) {XC : String → State → State → Prop} :
    W p l e R s m args below meth c H locs cells slots (vx_MQ below (QC y x ad0 n0 (.ok (.double v)) h) XC args s mc ms (fr x)) (F0 m pc rls [.double v]) := by
  refine W.widen hc hs (vx_ret (W.dret F.1 F.2.1 (by rw [hr, hyr]) (fun t ht _ => ?_) hS.2.2 hd hlk))
  unfold QC
  rw [hyr]
  exact ⟨⟨v, ad, rfl, rfl, hE, by rw [ht]; exact S⟩, hS.F ht⟩
theorem m_retF (F : FX p m c meth s args y) (S : St x ad h H) (hS : va_S (fr x) s.heap H locs) (hE : Ext ad0 ad n0) (hlk : meth.locks = false) (hyr : yr y = some .float) (hr : meth.sig.returnType = yr y) {v : UInt32} (hd : decode (yb y) pc = .ok (.freturn, 1)) (hc : cells ≤ mc) (hs : slots ≤ ms) {XC : String → State → State → Prop} :
    W p l e R s m args below meth c H locs cells slots (vx_MQ below (QC y x ad0 n0 (.ok (.float v)) h) XC args s mc ms (fr x)) (F0 m pc rls [.float v]) := by
  refine W.widen hc hs (vx_ret (W.fret F.1 F.2.1 (by rw [hr, hyr]) (fun t ht _ => ?_) hS.2.2 hd hlk))
  unfold QC
  rw [hyr]
  exact ⟨⟨v, ad, rfl, rfl, hE, by rw [ht]; exact S⟩, hS.F ht⟩
theorem rtc2 {t : Option FieldType} (h : rtc t = 2) : ∃ ft, t = some ft ∧ ((∃ n, ft = .object n) ∨ ∃ t, ft = .array t) := by
  cases t with
  | none => cases h
  | some ft => cases ft <;> first | (cases h; done) | exact ⟨_, rfl, Or.inl ⟨_, rfl⟩⟩ | exact ⟨_, rfl, Or.inr ⟨_, rfl⟩⟩
theorem m_retA (F : FX p m c meth s args y) (S : St x ad h H) (hS : va_S (fr x) s.heap H locs) (hE : Ext ad0 ad n0) (hlk : meth.locks = false) (hk : rtc (yr y) = 2) (hr : meth.sig.returnType = yr y) {b : Nat} (hb : b < HN h) (hd : decode (yb y) pc = .ok (.areturn, 1)) (hc : cells ≤ mc) (hs : slots ≤ ms) {XC : String → State → State → Prop} :
    W p l e R s m args below meth c H locs cells slots (vx_MQ below (QC y x ad0 n0 (.ok (.ref b)) h) XC args s mc ms (fr x)) (F0 m pc rls [va_rf (ad b)]) := by
  obtain ⟨ft, h1, h2⟩ := rtc2 hk
  refine W.widen hc hs (vx_ret (W.aret F.1 F.2.1 (by rw [hr, h1]) h2 (va_rf_or _) (fun t ht _ => ?_) hS.2.2 hd hlk))
  unfold QC
  rw [hk]
  exact ⟨⟨ad b, ad, rfl, ⟨b, rfl, hb, rfl⟩, hE, by rw [ht]; exact S⟩, hS.F ht⟩
end ROWS7
