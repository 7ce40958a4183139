/-! THE LAW'S START: the world, and the claim out of the abstract machine's run -/
def litF (s : State) (args : Array Value) (A : Nat → Prop) (r : Nat × Nat × Nat × Nat × Nat) (q : Nat × Nat) : Prop := (tS r.1 r.2.1).eval args s none [] s = some (.ref q.1) ∧ va_O "java/lang/String" q.1 A s s.heap ∧ va_OF "java/lang/String" "coder" "B" (.int 0) q.1 A s s.heap ∧ va_OF "java/lang/String" "value" "[B" (.ref q.2) q.1 A s s.heap ∧ va_T .byte q.2 (litA.getD ((r.2.2.1 - 4) / 2) []).length (fun j => .int ((litA.getD ((r.2.2.1 - 4) / 2) []).getD j 0)) A s s.heap
section START2
variable {s : State} {args : Array Value}
theorem lits_all (hfl : ∀ w ∈ FL, w.before args s = true) {A : Nat → Prop} (hA : ∀ a : Nat, a < s.heap.size → ¬ A a) : ∀ a : Nat, ∃ q : Nat × Nat, ∀ r ∈ litP, r.2.2.1 = a → litF s args A r q := by
  intro a
  by_cases h : ∃ r ∈ litP, r.2.2.1 = a
  · obtain ⟨r, hr, ha⟩ := h
    obtain ⟨q, v, h1, h2, h3, h4, h5⟩ := lit_cell hfl hA (List.all_eq_true.mp lit_ok r hr)
    refine ⟨(q, v), fun r' hr' ha' => ?_⟩
    have h9 := List.all_eq_true.mp (List.all_eq_true.mp lit_one r hr) r' hr'
    have h8 : Nat.beq r.2.2.1 r'.2.2.1 = true := by rw [ha, ha']; exact Nat.beq_refl a
    rw [h8] at h9
    simp only [Bool.not_true, Bool.false_or, Bool.and_eq_true] at h9
    have e1 := Nat.eq_of_beq_eq_true h9.1
    have e2 := Nat.eq_of_beq_eq_true h9.2
    unfold litF
    rw [← e1, ← e2, ha', ← ha]
    exact ⟨h1, h2, h3, h4, h5⟩
  · exact ⟨(0, 0), fun r hr ha => absurd ⟨r, hr, ha⟩ h⟩
theorem lit_ex {L a : Nat} (h : (kcT L a).1 = 11) : ∃ r ∈ litP, r.2.2.1 = a := by
  obtain ⟨z1, z2, z3⟩ := kc_str h
  have h1 := List.all_eq_true.mp lit_all ((a - 4) / 2) (List.mem_range.mpr (by omega))
  obtain ⟨r, hr, h2⟩ := List.any_eq_true.mp h1
  exact ⟨r, hr, by have := Nat.eq_of_beq_eq_true h2; omega⟩
theorem Kn_all (hts : ∀ w ∈ TBL, w.before args s = true) : ∀ k : Nat, ∃ q : ClassId × (Nat → Nat), k < 10 → u_Kn s (RRa (k + 1)) (TTa (k + 1)) (NNa (k + 1)) q.1 q.2 := by
  intro k
  by_cases hk : k < 10
  · have hw : ∀ w ∈ TW, w.before args s = true := fun w hw => hts w (List.mem_filter.mp hw).1
    have hi : Cond.instantiable (RRa (k + 1)) (NNa (k + 1)) ∈ TW := by
      rcases (show k = 0 ∨ k = 1 ∨ k = 2 ∨ k = 3 ∨ k = 4 ∨ k = 5 ∨ k = 6 ∨ k = 7 ∨ k = 8 ∨ k = 9 by omega) with rfl | rfl | rfl | rfl | rfl | rfl | rfl | rfl | rfl | rfl
      · exact (new_at tok (o := 2) (i := 18) (kd := 1) (by decide)).2.2.2.1
      · exact (new_at tok (o := 0) (i := 7) (kd := 2) (by decide)).2.2.2.1
      · exact (new_at tok (o := 0) (i := 43) (kd := 3) (by decide)).2.2.2.1
      · exact (new_at tok (o := 0) (i := 22) (kd := 4) (by decide)).2.2.2.1
      · exact (new_at tok (o := 2) (i := 9) (kd := 5) (by decide)).2.2.2.1
      · exact (new_at tok (o := 0) (i := 36) (kd := 6) (by decide)).2.2.2.1
      · exact (new_at tok (o := 0) (i := 29) (kd := 7) (by decide)).2.2.2.1
      · exact (new_at tok (o := 8) (i := 8) (kd := 8) (by decide)).2.2.2.1
      · exact (new_at tok (o := 8) (i := 146) (kd := 9) (by decide)).2.2.2.1
      · exact (new_at tok (o := 0) (i := 50) (kd := 10) (by decide)).2.2.2.1
    obtain ⟨cC, iS, h⟩ := u_known hw (lay_in tok (kd := k + 1) (by omega) (by omega)) (hw _ hi)
    exact ⟨(cC, iS), fun _ => h⟩
  · exact ⟨(0, fun _ => 0), fun h => absurd h hk⟩
theorem arr_of {ty : FieldType} (hp : ∀ z, ty ≠ .object z) (h : (Cond.arrayClass ty).before args s = true) : ∃ cA, ArrOfT s cA ty ∧ va_RA s cA ty := by
  obtain ⟨c, k, comp, h1, h2, h3⟩ := Cond.arrayClass_spec h
  refine ⟨c, fun N z => ⟨(fun k h => by cases h), k, h2, comp, h3⟩, ?_⟩
  cases ty with
  | object z => exact absurd rfl (hp z)
  | _ => exact h1
theorem tys_all (hts : ∀ w ∈ TBL, w.before args s = true) : ∃ xa : Nat → ClassId, ∀ (k : Nat) (q : ClassId × FieldType), ([(xa 100, .int), (xa 101, .char), (xa 102, .byte), (xa 104, .long), (xa 105, .double), (xa 106, .array .int), (xa 107, .object "RecordReconciler$Book")] : List (ClassId × FieldType))[k]? = some q → ArrOfT s q.1 q.2 ∧ va_RA s q.1 q.2 := by
  have hw : ∀ w ∈ TW, w.before args s = true := fun w hw => hts w (List.mem_filter.mp hw).1
  have hfx : ∀ w ∈ fixW, w.before args s = true := fun w h => hw w (chkFix_in tok2.1 w h)
  obtain ⟨c0, h0⟩ := arr_of (s := s) (args := args) (ty := .int) (fun z h => by cases h) (hfx _ (by unfold fixW; simp))
  obtain ⟨c1, h1⟩ := arr_of (s := s) (args := args) (ty := .char) (fun z h => by cases h) (hfx _ (by unfold fixW; simp))
  obtain ⟨c2, h2⟩ := arr_of (s := s) (args := args) (ty := .byte) (fun z h => by cases h) (hfx _ (by unfold fixW; simp))
  obtain ⟨c4, h4⟩ := arr_of (s := s) (args := args) (ty := .long) (fun z h => by cases h) (hfx _ (by unfold fixW; simp))
  obtain ⟨c5, h5⟩ := arr_of (s := s) (args := args) (ty := .double) (fun z h => by cases h) (hfx _ (by unfold fixW; simp))
  obtain ⟨cm6, c6, k6, g1, g2, g3⟩ := arrOverA (at_in hts at_ok0.1)
  obtain ⟨cm7, c7, k7, f1, -, f3, f4, f5⟩ := Cond.arrayOver_spec (n := "RecordReconciler$Book") (at_in hts at_ok0.2.1)
  refine ⟨fun kd => if kd = 100 then c0 else if kd = 101 then c1 else if kd = 102 then c2 else if kd = 104 then c4 else if kd = 105 then c5 else if kd = 106 then c6 else c7, ?_⟩
  intro k q hq
  match k, hq with
  | 0, hq => cases hq; exact h0
  | 1, hq => cases hq; exact h1
  | 2, hq => cases hq; exact h2
  | 3, hq => cases hq; exact h4
  | 4, hq => cases hq; exact h5
  | 5, hq => cases hq; exact ⟨fun N z => ⟨(fun k h => by cases h), k6, g1, cm6, g2⟩, g3⟩
  | 6, hq => cases hq; exact ⟨fun N z => ⟨(fun k h => by cases h), k7, f3, cm7, f4⟩, k7, cm7, f3, f4, f1, f5⟩
  | k + 7, hq => simp at hq
end START2
/-- THE CLAIM, out of the abstract machine's run of the law -/
theorem start_of {p : Program} {e : Env} {s : State} {m : MethodId} {below : List Frame} {meth : Method} {c : Code} (l : Launch) (hflags : l.flags = flags0) {b L : Nat} {xs : Nat → Int32} (hL : L ≤ 2560) (C0 : lw_At p s m meth c b L xs) (htb : c.exceptionTable.toList = []) {h' : Hp} (hr : CL 343 [.ref 30] (hp0 L xs) = some (.ok (.int 1), h')) (hc : HC h' ≤ room_1.cells) (hs : HS h' ≤ room_1.slots) :
    W p l e room_1 s m #[Value.ref b] below meth c s.heap [] 0 0 (lw_Z below #[Value.ref b] s) (entryFrame m ([Value.ref b] : List Value).toArray 9) := by
  obtain ⟨hx, hb, hret, hml, hown, hts0, hX, hbl, hlk, hgv⟩ := C0
  have hts := tbl_all hts0
  have hfl : ∀ w ∈ FL, w.before #[Value.ref b] s = true := flat_of_before _ hgv
  have hA : ∀ a : Nat, a < s.heap.size → ¬ (s.heap.size ≤ a) := fun a h1 h2 => by omega
  obtain ⟨lq, hlq⟩ := Classical.axiomOfChoice (lits_all hfl (A := fun q => s.heap.size ≤ q) hA)
  obtain ⟨kn, hkn⟩ := Classical.axiomOfChoice (Kn_all hts)
  obtain ⟨xa, hxa⟩ := tys_all hts
  obtain ⟨f1, f2, f3, f4, f5, f6, f7, f8⟩ := fl_ok0
  obtain ⟨-, -, a1, a2, a3, a4, a5, a6⟩ := at_ok0
  obtain ⟨b1, b2, b3, b4⟩ := at_ok1
  have hdig := fun j (hj : j < 100) => by
    have := List.all_eq_true.mp dig_ok j (List.mem_range.mpr hj)
    simp only [Bool.and_eq_true, decide_eq_true_eq] at this
    exact this
  obtain ⟨t2, e2, T2⟩ := va_Tof (A := fun q => s.heap.size ≤ q) (N := 100) (f := fun j => .int (nI (48 + j % 10))) (by decide) (fl_in hfl f5) (va_eqt (fl_in hfl f6)) (fun j hj => va_eqt (fl_in hfl (hdig j hj).1)) hA
  obtain ⟨t3, e3, T3⟩ := va_Tof (A := fun q => s.heap.size ≤ q) (N := 100) (f := fun j => .int (nI (48 + j / 10))) (by decide) (fl_in hfl f7) (va_eqt (fl_in hfl f8)) (fun j hj => va_eqt (fl_in hfl (hdig j hj).2)) hA
  have hq1 := va_Zqof (A := fun q => s.heap.size ≤ q) (at_in hts a4) (at_in hts b4) (fl_in hfl f4) hA
  obtain ⟨r1, hr1⟩ : ∃ r : Option Nat, va_Z "jdk/internal/util/Preconditions" "SIOOBE_FORMATTER" "Ljava/util/function/BiFunction;" (va_rf r) (fun q => s.heap.size ≤ q) s s.heap := by
    rcases hq1 with h | ⟨t, h⟩
    · exact ⟨none, h⟩
    · exact ⟨some t, h⟩
  obtain ⟨scr, hs1, hs2, hs3, hs4, hs5⟩ := hX
  let xc : Nat → Option Nat := fun a => if a = 0 then none else if a = 1 then r1 else if a = 2 then some t2 else if a = 3 then some t3 else if a = 30 then some b else if a % 2 = 0 then some (lq a).1 else some (lq (a - 1)).2
  let x : Ctx := ((fun k => (kn k).1, fun k => (kn k).2), xa, s.heap.size, xc, L, xs)
  have hlt30 : ∀ a, a < 31 → (kcT L a).1 = 203 → a = 2 ∨ a = 3 ∨ (5 ≤ a ∧ a < 30 ∧ a % 2 = 1) := by
    intro a ha h
    unfold kcT at h
    repeat' split at h
    all_goals first | (simp at h; done) | omega
  have hlt200 : ∀ a, a < 31 → (kcT L a).1 = 200 → a = 30 := by
    intro a ha h
    unfold kcT at h
    repeat' split at h
    all_goals first | (simp at h; done) | omega
  have hOLD : OLD x s s.heap := by
    intro a ha
    refine ⟨fun hk => ?_, fun hk => ?_, fun hk => ?_⟩
    · rcases hlt30 a ha hk with rfl | rfl | ⟨z1, z2, z3⟩
      · exact ⟨t2, rfl, T2⟩
      · exact ⟨t3, rfl, T3⟩
      · have hk11 : (kcT L (a - 1)).1 = 11 := by unfold kcT; rw [if_neg (by omega), if_neg (by omega), if_pos (by omega), if_pos (by omega)]
        obtain ⟨r, hr, hra⟩ := lit_ex hk11
        obtain ⟨-, -, -, -, h5⟩ := hlq (a - 1) r hr hra
        refine ⟨(lq (a - 1)).2, ?_, ?_⟩
        · show xc a = _
          simp only [xc]
          rw [if_neg (by omega), if_neg (by omega), if_neg (by omega), if_neg (by omega), if_neg (by omega), if_neg (by omega)]
        · rw [hra] at h5
          have e1 : (kcT (xL x) a).2 = (litA.getD ((a - 5) / 2) []).length := by
            show (kcT L a).2 = _
            unfold kcT
            rw [if_neg (by omega), if_neg (by omega), if_pos (by omega), if_neg (by omega)]
          have e3 : (fun j => Value.int (icT (xS x) a j)) = fun j => Value.int ((litA.getD ((a - 5) / 2) []).getD j 0) := by
            funext j
            show Value.int (icT xs a j) = _
            unfold icT
            rw [if_neg (by omega), if_neg (by omega), if_neg (by omega), if_pos (by omega), if_neg (by omega)]
          rw [e1, e3]
          rw [show a - 1 - 4 = a - 5 by omega] at h5
          exact h5
    · obtain rfl := hlt200 a ha hk
      refine ⟨b, rfl, scr, hs1, hs2, hs3, by rw [hs4]; exact Nat.le_refl _, by rw [hs4]; rfl, fun j hj => ?_, by show ¬ (s.heap.size ≤ b); omega⟩
      rw [hs5 j hj]
      rfl
    · obtain ⟨z1, z2, z3⟩ := kc_str hk
      obtain ⟨r, hr, hra⟩ := lit_ex (L := L) hk
      obtain ⟨h1, h2, h3, h4, h5⟩ := hlq a r hr hra
      refine ⟨(lq a).1, ?_, h2, ?_, h3⟩
      · show xc a = _
        simp only [xc]
        rw [if_neg (by omega), if_neg (by omega), if_neg (by omega), if_neg (by omega), if_neg (by omega), if_pos z3]
      · have e1 : xC x (a + 1) = some (lq a).2 := by
          show xc (a + 1) = _
          simp only [xc]
          rw [if_neg (by omega), if_neg (by omega), if_neg (by omega), if_neg (by omega), if_neg (by omega), if_neg (by omega)]
          rfl
        rw [e1]
        exact h4
  have hOLDs : OLDs x s s.heap := by
    refine ⟨hOLD, fun r hr => ?_, fun r hr => ?_, fun r hr => ?_, vx_Zqof (at_in hts a2) (at_in hts b2) (fl_in hfl f2) hA, vx_Zqof (at_in hts a3) (at_in hts b2) (fl_in hfl f3) hA, fun k d k1 k2 d1 d2 hkd => ?_, fun r hr => va_Nw.of rfl (hts _ (nests_at nest_ok r hr)), va_AO.of (at_in hts at_ok0.2.1), va_AOA.of (at_in hts at_ok0.1), fun k k1 k2 w hw hg => ?_⟩
    · simp only [stzA, List.mem_cons, List.not_mem_nil, or_false] at hr
      rcases hr with rfl | rfl | rfl | rfl | rfl
      · exact va_Zof (at_in hts a1) (at_in hts b1) (va_eqt (fl_in hfl f1)) hA
      · exact va_Zof (at_in hts a5) (at_in hts b3) e2 hA
      · exact va_Zof (at_in hts a6) (at_in hts b3) e3 hA
      · exact va_Zof (at_in hts a1) (at_in hts b1) (va_eqt (fl_in hfl f1)) hA
      · exact hr1
    · have h1 := List.all_eq_true.mp sls_lit r hr
      obtain ⟨q, hq, h2⟩ := List.any_eq_true.mp h1
      simp only [Bool.and_eq_true] at h2
      have g1 := Nat.eq_of_beq_eq_true h2.1.1
      have g2 := Nat.eq_of_beq_eq_true h2.1.2
      have g3 := Nat.eq_of_beq_eq_true h2.2
      have hok := List.all_eq_true.mp lit_ok q hq
      have hF := hlq r.2.2 q hq g3
      obtain ⟨o, i, a, tb, fl⟩ := q
      dsimp only at g1 g2 g3 hF
      subst g1 g2 g3
      simp only [okLit, Bool.and_eq_true, decide_eq_true_eq] at hok
      obtain ⟨⟨⟨⟨⟨⟨⟨h1, -⟩, -⟩, -⟩, -⟩, z1⟩, z2⟩, z3⟩ := hok
      obtain ⟨tx, q, k1, k2⟩ := str_ref hts hfl h1
      refine ⟨tx, q, k1, ?_⟩
      have : q = (lq r.2.2).1 := by
        have := k2.symm.trans hF.1
        cases this
        rfl
      rw [this]
      show xc r.2.2 = _
      simp only [xc]
      rw [if_neg (by omega), if_neg (by omega), if_neg (by omega), if_neg (by omega), if_neg (by omega), if_pos z3]
    · obtain ⟨tb, fl, h1⟩ := msgs_at msg_ok r hr
      obtain ⟨tx, q, k1, -⟩ := str_ref hts hfl h1
      exact ⟨tx, q, k1⟩
    · have h1 := List.all_eq_true.mp (List.all_eq_true.mp nc_ok (k - 1) (List.mem_range.mpr (by omega))) (d - 1) (List.mem_range.mpr (by omega))
      rw [show k - 1 + 1 = k by omega, show d - 1 + 1 = d by omega] at h1
      simp only [okNc, Bool.or_eq_true, decide_eq_true_eq] at h1
      rcases h1 with h1 | h1
      · exact absurd (Nat.eq_of_beq_eq_true h1) hkd
      · exact va_Nc.of (fl_in hfl h1)
    · have h1 := List.all_eq_true.mp (List.all_eq_true.mp bad_ok k (by
        rcases (show k = 1 ∨ k = 2 ∨ k = 3 ∨ k = 4 ∨ k = 5 by omega) with rfl | rfl | rfl | rfl | rfl <;> simp)) w hw
      rw [hg, Bool.false_or] at h1
      have h2 := List.all_eq_true.mp (exW_dc k k1 k2) w hw
      rw [hg, Bool.false_or] at h2
      exact va_Nw.of (dc_tab h2) (hts w (of_decide_eq_true h1))
  have hK : va_K (xD x) clL (tysL x) s := by
    refine ⟨fun k q hq => ?_, hxa⟩
    have hk : k < 10 := (List.getElem?_eq_some_iff.mp hq).1
    have h1 := clL_at (kd := k + 1) (by omega) (by omega)
    rw [show k + 1 - 1 = k by omega] at h1
    rw [h1] at hq
    cases hq
    exact hkn k hk
  have hN0 : HN (hp0 L xs) = 31 := rfl
  let ad : Nat → Option Nat := fun a => if a < 31 then xc a else none
  have hSt : St x ad (hp0 L xs) s.heap := by
    refine ⟨fun k q h => ?_, ⟨fun i j p q h => ?_, fun k q h => ?_⟩, Nat.le_refl _, fun a ha => ⟨?_, fun k => ?_, fun k => rfl⟩, fun a ha => ?_, fun a ha => ?_, fun a k => ?_, fun a h1 h2 => ?_⟩
    · rw [wl_get, if_neg (by rw [hN0]; omega)] at h
      cases h
    · rw [wl_get, if_neg (by rw [hN0]; omega)] at h
      cases h
    · rw [wl_get, if_neg (by rw [hN0]; omega)] at h
      cases h
    · show (if a < 31 then kcT L a else (0, 0)) = _
      rw [if_pos ha]
      rfl
    · show (if a < 31 then icT xs a k else 0) = _
      rw [if_pos ha]
      rfl
    · show (if a < 31 then xc a else none) = _
      rw [if_pos ha]
      rfl
    · rw [hN0] at ha
      show (if a < 31 then kcT L a else (0, 0)).1 = 0
      rw [if_neg (by omega)]
    · show rcT a k < 31
      unfold rcT
      repeat' split
      all_goals omega
    · rw [hN0] at h2
      omega
  obtain ⟨n, hn⟩ := RF_iff.mp hr
  have hst : l.stackTraces = false := by
    unfold Launch.stackTraces
    rw [hflags]
    decide +kernel
  have hgo := snd n p l e room_1 s m #[Value.ref b] below meth c x ad 31 343 room_1.cells room_1.slots (.ok (.int 1)) h' ⟨⟨hx, hb, hml, hown, fun w hw => hts w (List.mem_filter.mp hw).1, fun h9 => by
      exfalso
      revert h9
      decide +kernel⟩, hst, hK, hOLDs, Nat.le_refl _, rfl, by decide, by decide, hlk, by rw [htb, show hh 343 = [] by decide +kernel]; rfl, hret, Nat.le_refl _, Nat.le_refl _, by omega⟩ 0 _ _ (hp0 L xs) ad _ _ s.heap [] 0 0 hn ⟨hSt, va_S.rf, ⟨fun _ _ => rfl, Nat.le_refl _⟩, LH_entry (ws := [Value.ref b]) ⟨_, _, rfl, ⟨show (30 : Nat) < 31 by decide, rfl⟩, rfl⟩ rfl (by decide), rfl, by show 0 + (HC h' - 0) ≤ _; omega, by show 0 + (HS h' - 0) ≤ _; omega⟩
  rw [lg_entry_eq]
  intro T hT X
  obtain ⟨t, st, o, q1, q2, q3⟩ := hgo T hT X
  refine ⟨t, st, o, q1, q2, ?_⟩
  rcases q3 with ⟨q3, L9, ⟨w1, w2, w3⟩, w4⟩ | ⟨q, -, q3⟩
  · obtain ⟨⟨i, u, rfl, hi, -⟩, -⟩ := q3
    cases hi
    exact ⟨rfl, lw_closed (d0 := s.drawn) (Drawn.sameBut.refl s.drawn lw_cs) w1 w2 (w3.weaken (fun y hy hlt => absurd (w4 y hy) (Nat.not_le.mpr hlt)) (Nat.le_refl _) (Nat.le_refl _))⟩
  · obtain ⟨E, ce, LL, ⟨u, -, ⟨⟨k, hk, -⟩, -⟩, -⟩, -⟩ := q3
    cases hk
