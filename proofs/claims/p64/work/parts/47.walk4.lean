/-! SOUNDNESS: calls, and the theorem -/
theorem SK.len {ad : Nat → Option Nat} {n : Nat} : ∀ {st ws : List Value}, SK ad n st ws → ws.length = st.length
  | [], _, h => by cases h; rfl
  | v :: l, _, h => by
    obtain ⟨w, ws', rfl, h1, h2⟩ := h
    simp only [List.length_cons, SK.len h2]
theorem SK.app {ad : Nat → Option Nat} {n : Nat} : ∀ {a b wa wb : List Value}, SK ad n a wa → SK ad n b wb → SK ad n (a ++ b) (wa ++ wb)
  | [], _, _, _, h, hb => by cases h; exact hb
  | v :: l, _, _, _, h, hb => by
    obtain ⟨w, ws', rfl, h1, h2⟩ := h
    exact ⟨w, ws' ++ _, rfl, h1, SK.app h2 hb⟩
theorem SK.split {ad : Nat → Option Nat} {n : Nat} : ∀ {a b w : List Value}, SK ad n (a ++ b) w → ∃ wa wb, w = wa ++ wb ∧ SK ad n a wa ∧ SK ad n b wb
  | [], b, w, h => ⟨[], w, rfl, rfl, h⟩
  | v :: l, b, w, h => by
    obtain ⟨w1, ws', rfl, h1, h2⟩ := h
    obtain ⟨wa, wb, rfl, h3, h4⟩ := SK.split h2
    exact ⟨w1 :: wa, wb, rfl, ⟨w1, wa, rfl, h1, h3⟩, h4⟩
theorem SK.rev {ad : Nat → Option Nat} {n : Nat} : ∀ {a w : List Value}, SK ad n a w → SK ad n a.reverse w.reverse
  | [], _, h => by cases h; exact rfl
  | v :: l, _, h => by
    obtain ⟨w1, ws', rfl, h1, h2⟩ := h
    rw [List.reverse_cons, List.reverse_cons]
    exact SK.app (SK.rev h2) ⟨w1, [], rfl, h1, rfl⟩
theorem popn_ok : ∀ {k : Nat} {st acc as st' : List Value}, popn k st acc = some (as, st') → ∃ l, as = l ++ acc ∧ st = l.reverse ++ st' ∧ l.length = k
  | 0, st, acc, as, st', h => by
    simp only [popn] at h
    cases h
    exact ⟨[], rfl, rfl, rfl⟩
  | k + 1, [], acc, as, st', h => by simp only [popn] at h; cases h
  | k + 1, v :: st, acc, as, st', h => by
    simp only [popn] at h
    obtain ⟨l, e1, e2, e3⟩ := popn_ok h
    refine ⟨l ++ [v], by rw [e1]; simp, by rw [e2]; simp, by simp [e3]⟩
theorem cat_pos (v : Value) : 1 ≤ v.category := by cases v <;> simp [Value.category]
theorem wgt_len : ∀ l : List Value, l.length ≤ wgt l
  | [] => Nat.le_refl _
  | v :: l => by
    have := wgt_len l
    have := cat_pos v
    simp only [List.length_cons, wgt]
    omega
theorem wgt_one : ∀ {l : List Value}, wgt l = l.length → ∀ v ∈ l, v.category = 1
  | [], _ => fun v h => nomatch h
  | v :: l, h => by
    have h1 := wgt_len l
    have h2 := cat_pos v
    simp only [List.length_cons, wgt] at h
    intro w hw
    rcases List.mem_cons.mp hw with rfl | hw
    · omega
    · exact wgt_one (by omega) w hw
theorem gl_padn : ∀ (n : Nat) (l : List Value) (k : Nat), gl (padn n l) k = if k < n then l.getD k .null else .null
  | 0, l, k => by cases l <;> simp [padn, gl]
  | n + 1, [], 0 => by simp [padn, gl]
  | n + 1, [], k + 1 => by
    simp only [padn, gl, gl_padn n [] k]
    simp
  | n + 1, v :: l, 0 => by simp [padn, gl]
  | n + 1, v :: l, k + 1 => by
    simp only [padn, gl, gl_padn n l k]
    simp
theorem SKat {ad : Nat → Option Nat} {n : Nat} : ∀ {as ws : List Value} {k : Nat} {v : Value}, SK ad n as ws → as[k]? = some v → ∃ w, ws[k]? = some w ∧ VR ad n v w
  | [], _, k, v, h, hk => by simp at hk
  | a :: l, _, 0, v, h, hk => by
    obtain ⟨w, ws', rfl, h1, h2⟩ := h
    simp only [List.getElem?_cons_zero, Option.some.injEq] at hk
    subst hk
    exact ⟨w, rfl, h1⟩
  | a :: l, _, k + 1, v, h, hk => by
    obtain ⟨w, ws', rfl, h1, h2⟩ := h
    simp only [List.getElem?_cons_succ] at hk ⊢
    exact SKat h2 hk
theorem lv_args_at : ∀ {ws : List Value} {i k : Nat} {w : Value}, (∀ w ∈ ws, w.category = 1) → ws[k]? = some w → (i + k, w) ∈ lv_args i ws
  | [], i, k, w, _, h => by simp at h
  | v :: l, i, 0, w, hc, h => by
    simp only [List.getElem?_cons_zero, Option.some.injEq] at h
    subst h
    exact List.mem_cons_self
  | v :: l, i, k + 1, w, hc, h => by
    simp only [List.getElem?_cons_succ] at h
    have h1 : v.category = 1 := hc v List.mem_cons_self
    simp only [lv_args, h1, if_neg (show ¬ (1 : Nat) = 2 by decide)]
    have := lv_args_at (i := i + 1) (fun w hw => hc w (List.mem_cons_of_mem _ hw)) h
    rw [show i + (k + 1) = i + 1 + k by omega]
    exact List.mem_cons_of_mem _ this
theorem SK.cats {ad : Nat → Option Nat} {n : Nat} : ∀ {as ws : List Value}, SK ad n as ws → (∀ v ∈ as, v.category = 1) → ∀ w ∈ ws, w.category = 1
  | [], _, h, _ => by cases h; exact fun w hw => nomatch hw
  | v :: l, _, h, hc => by
    obtain ⟨w, ws', rfl, h1, h2⟩ := h
    intro u hu
    rcases List.mem_cons.mp hu with rfl | hu
    · rw [h1.cat]
      exact hc v List.mem_cons_self
    · exact SK.cats h2 (fun z hz => hc z (List.mem_cons_of_mem _ hz)) u hu
theorem lg_len : ∀ {ws : List Value}, (∀ w ∈ ws, w.category = 1) → (lg_sl ws).length = ws.length
  | [], _ => rfl
  | v :: l, hc => by
    have h1 : v.category = 1 := hc v List.mem_cons_self
    have := lg_len (fun w hw => hc w (List.mem_cons_of_mem _ hw)) (ws := l)
    unfold lg_sl at this ⊢
    rw [List.flatMap_cons, List.length_append, this, if_neg (by omega)]
    simp
    omega
/-- the locals at a method's entry -/
theorem LH_entry {ad : Nat → Option Nat} {n y nL : Nat} {as ws : List Value} (h : SK ad n as ws) (hc : wgt as = as.length) (hl : as.length ≤ nL) : LH ad n y nL (padn nL as) ((lg_sl ws ++ List.replicate (nL - (lg_sl ws).length) Slot.unset).toArray) := by
  have hcat := wgt_one hc
  have hcw := h.cats hcat
  have hv := lv_entry ws (n := nL) (by rw [lg_len hcw, h.len]; exact hl)
  refine ⟨hv.1, hv.2.1, fun k => ?_⟩
  rw [gl_padn]
  by_cases hk : k < nL
  · rw [if_pos hk]
    cases hz : as[k]? with
    | none => rw [List.getD_eq_getElem?_getD, hz]; exact ⟨trivial, Or.inl rfl⟩
    | some v =>
      rw [List.getD_eq_getElem?_getD, hz]
      obtain ⟨w, hw, hvr⟩ := SKat h hz
      have hcv := hcat v (List.mem_of_getElem? hz)
      refine ⟨?_, Or.inr ⟨w, hvr, ?_⟩⟩
      · show okl y k v
        cases v <;> first | trivial | (simp [Value.category] at hcv)
      · have := hv.2.2 _ (lv_args_at (i := 0) hcw hw)
        rw [Nat.zero_add] at this
        exact this
  · rw [if_neg hk]
    exact ⟨trivial, Or.inl rfl⟩
theorem np_nl_ok : (List.range 343).all (fun y => Nat.ble (np y + (if rk y = 0 then 0 else 1)) (nl y)) = true := by decide +kernel
theorem np_nl {y : Nat} (h : y < 343) : np y + (if rk y = 0 then 0 else 1) ≤ nl y := Nat.le_of_ble_eq_true (List.all_eq_true.mp np_nl_ok y (List.mem_range.mpr h))
def SND (n : Nat) : Prop := ∀ (p : Program) (l : Launch) (e : Env) (R : Room) (s : State) (m : MethodId) (args : Array Value) (below : List Frame) (meth : Method) (c : Code) (x : Ctx) (ad0 : Nat → Option Nat) (n0 y mc ms : Nat) (r : Except Nat Value) (h' : Hp), CX p l R s m args meth c x y mc ms → Go p l e R s m args below meth c x ad0 n0 y mc ms n r h'
/-- a method's run that is followed gives its contract -/
theorem met_of (hT : TOK) {n : Nat} (hN : SND n) {l : Launch} (hst : l.stackTraces = false) {y : Nat} (hy : y < 343) {x : Ctx} (h0 : xC x 0 = none) {ad : Nat → Option Nat} {h h' : Hp} {as ws : List Value} {r : Except Nat Value} (hr : ev n y 0 (padn (nl y) as) [] h = some (r, h')) (hk : SK ad (HN h) as ws) (hc : wgt as = as.length) (hl : as.length ≤ nl y) : MetY l y x ad h ws r h' := by
  have hmt := met_at hT hy
  have body : ∀ (p : Program) (e : Env) (s : State) (m : MethodId) (args : Array Value) (below : List Frame) (meth : Method) (c : Code) (s₁ : State), BodyLoose p l (yn y) (headSpec (wsY y) (rmY y (HC h' - HC h) (HS h' - HS h))) (yb y) (nl y) (yr y) e s m args below meth c s₁ → c.maxLocals = nl y → c.exceptionTable.toList = tableOf (hh y) → va_Pc ws (WB x ad h) args s →
      W p l e (headSpec (wsY y) (rmY y (HC h' - HC h) (HS h' - HS h))).room s m args below meth c s.heap [] 0 0 (vx_MQ below (QC y x ad (HN h) r h') (XCC x ad (HN h) r h') args s (HC h' - HC h) (HS h' - HS h) (fr x)) (entryFrame m args (nl y)) := by
    intro p e s m args below meth c s₁ B hml htb hv
    obtain ⟨rfl, S, hK, hO, hB⟩ := hv
    have hts := atoms_spec (ws := wsY y) B.pre
    have hown : s.vm.findClass (yn y).cls = some m.cls := findClass_of_methodNamed B.named
    rw [hmt.2.2.2.2.2.2.1] at hown
    have hin : meth.name = (yn y).name := (name_of_methodNamed B.named B.method).1
    rw [lg_entry_eq]
    refine hN p l e _ s m ws.toArray below meth c x ad (HN h) y (HC h' - HC h) (HS h' - HS h) r h' ⟨⟨B.exec, B.bytes, hml, hown, fun w hw => hts w (List.mem_cons_of_mem _ hw), fun h9 => hin.trans h9⟩, hst, hK, hO, hB, h0, Nat.le_refl _, Nat.le_refl _, B.notSynchronized, htb, B.returns, Nat.le_refl _, Nat.le_refl _, by omega⟩ 0 _ _ h ad _ _ s.heap [] 0 0 hr ⟨S, va_S.rf, ⟨fun _ _ => rfl, Nat.le_refl _⟩, LH_entry hk hc hl, rfl, by omega, by omega⟩
  unfold MetY
  cases hh0 : List.isEmpty (hh y) with
  | true =>
    have e0 : hh y = [] := List.isEmpty_iff.mp hh0
    refine vx_ofW (cc := yb y) (maxL := nl y) (ret := yr y) hmt.2.2.1 (ws' := TW) (by unfold wsY; rw [codeW0 hh0]) (fun p e s m args below meth c s₁ B hml htb hv => body p e s m args below meth c s₁ B hml ?_ hv)
    rw [e0]
    cases hl2 : c.exceptionTable.toList with
    | nil => rfl
    | cons a b => exact (htb a (by rw [hl2]; exact List.mem_cons_self)).elim
  | false =>
    refine vx_ofWH (cc := yb y) (maxL := nl y) (ret := yr y) (hh := hh y) hmt.2.2.1 (ws' := TW) (by unfold wsY; rw [codeW1 hh0]) (fun p e s m args below meth c s₁ B hml hv => body p e s m args below meth c s₁ B hml ?_ hv)
    have hts := atoms_spec (ws := wsY y) B.pre
    have h9 := hts (codeW y) List.mem_cons_self
    rw [codeW1 hh0] at h9
    exact vx_table (x := yn y) B h9
theorem mth_lt0 : mthA.all (fun r => Nat.ble r.2.2 3) = true := by decide
theorem mth_lt {o i a : Nat} (h : fnd3 mthA o i a = true) : a ≤ 3 := Nat.le_of_ble_eq_true (List.all_eq_true.mp mth_lt0 _ (fnd3_in h))
section WALK5
variable {p : Program} {l : Launch} {e : Env} {R : Room} {s : State} {m : MethodId} {args : Array Value} {below : List Frame} {meth : Method} {c : Code} {H : Heap} {locs : List Loc} {cells slots : Nat}
variable {x : Ctx} {ad ad0 : Nat → Option Nat} {h h' : Hp} {y pc nx n0 mc ms n : Nat} {rls : Array Slot} {ls st rst : List Value} {r : Except Nat Value} {orig : Instr}

theorem w_newarray {t : ArrayType} (hT2 : TOK2) (C : CX p l R s m args meth c x y mc ms) (G : Go p l e R s m args below meth c x ad0 n0 y mc ms n r h') (hr : stp none some (ev n y) (callp (hd y) (ev n y) (fun y2 as h => ev n y2 0 (padn (nl y2) as) [] h) pc nx) rk y (.newarray t) nx ls st h = some (r, h')) (hd : decode (yb y) pc = .ok (orig, nx - pc)) (hm : matchop y pc nx orig (.newarray t) = true) (T : Wt s x ad0 n0 y h' mc ms ad h H locs cells slots ls st rls rst) : W p l e R s m args below meth c H locs cells slots (QE below y x ad0 n0 r h' args s mc ms) (F0 m pc rls rst) := by
  simp only [stp] at hr
  split at hr
  · rename_i k st0
    cases hb : (decide (0 ≤ k) && decide (k ≤ 100000)) with
    | false => rw [hb] at hr; cases hr
    | true =>
      rw [hb] at hr
      simp only [cond_true] at hr
      obtain ⟨_, rfl, k1⟩ := SKi T.2.2.2.2.1
      simp only [matchop, Bool.and_eq_true, decide_eq_true_eq] at hm
      obtain ⟨⟨rfl, hnx⟩, hm⟩ := hm
      obtain rfl := Nat.eq_of_beq_eq_true hnx
      rw [show pc + 2 - pc = 2 by omega] at hd
      have hmo := ev_mo _ _ _ _ _ _ _ _ hr
      have b1 : HC h + 1 ≤ HC h' := hmo.2.1
      have b2 : HS h + k.toNatClampNeg ≤ HS h' := hmo.2.2
      have t1 := T.2.2.2.2.2.1
      have t2 := T.2.2.2.2.2.2
      have c1 := C.2.2.2.2.2.2.2.2.2.2.2.1
      have c2 := C.2.2.2.2.2.2.2.2.2.2.2.2.1
      cases t
      case int =>
        exact m_newa hT2 C.1 C.2.2.1 T.1 T.2.1 C.2.2.2.2.1 (kd := 100) (k := 0) (ty := .int) (a0 := (k.toNatClampNeg, .inl (fun _ => 0))) rfl (by unfold fixW; simp) rfl (by unfold KOK; omega) (fun cA => rfl) (fun q => by
          rw [cE_arr (kd := 100) (by rw [HK_new, if_pos rfl]) (by omega), HL_new, if_pos rfl]
          have : HI (hnew h 100 k.toNatClampNeg) (HN h) = fun _ => 0 := u1_eq (f := HI h)
          rw [this]) hd hb (by decide) (by omega) (by omega) (fun q H1 S1 hS1 => G _ _ _ _ _ _ _ _ _ _ _ hr (T.grow adN_ext (Nat.le_succ _) rfl rfl hmo S1 hS1 ((k1.ext adN_ext (Nat.le_succ _)).r (Nat.lt_succ_self _))))
      case char =>
        exact m_newa hT2 C.1 C.2.2.1 T.1 T.2.1 C.2.2.2.2.1 (kd := 101) (k := 1) (ty := .char) (a0 := (k.toNatClampNeg, .inl (fun _ => 0))) rfl (by unfold fixW; simp) rfl (by unfold KOK; omega) (fun cA => rfl) (fun q => by
          rw [cE_arr (kd := 101) (by rw [HK_new, if_pos rfl]) (by omega), HL_new, if_pos rfl]
          have : HI (hnew h 101 k.toNatClampNeg) (HN h) = fun _ => 0 := u1_eq (f := HI h)
          rw [this]) hd hb (by decide) (by omega) (by omega) (fun q H1 S1 hS1 => G _ _ _ _ _ _ _ _ _ _ _ hr (T.grow adN_ext (Nat.le_succ _) rfl rfl hmo S1 hS1 ((k1.ext adN_ext (Nat.le_succ _)).r (Nat.lt_succ_self _))))
      case byte =>
        exact m_newa hT2 C.1 C.2.2.1 T.1 T.2.1 C.2.2.2.2.1 (kd := 102) (k := 2) (ty := .byte) (a0 := (k.toNatClampNeg, .inl (fun _ => 0))) rfl (by unfold fixW; simp) rfl (by unfold KOK; omega) (fun cA => rfl) (fun q => by
          rw [cE_arr (kd := 102) (by rw [HK_new, if_pos rfl]) (by omega), HL_new, if_pos rfl]
          have : HI (hnew h 102 k.toNatClampNeg) (HN h) = fun _ => 0 := u1_eq (f := HI h)
          rw [this]) hd hb (by decide) (by omega) (by omega) (fun q H1 S1 hS1 => G _ _ _ _ _ _ _ _ _ _ _ hr (T.grow adN_ext (Nat.le_succ _) rfl rfl hmo S1 hS1 ((k1.ext adN_ext (Nat.le_succ _)).r (Nat.lt_succ_self _))))
      case boolean =>
        exact m_newa hT2 C.1 C.2.2.1 T.1 T.2.1 C.2.2.2.2.1 (kd := 103) (k := 3) (ty := .boolean) (a0 := (k.toNatClampNeg, .inl (fun _ => 0))) rfl (by unfold fixW; simp) rfl (by unfold KOK; omega) (fun cA => rfl) (fun q => by
          rw [cE_arr (kd := 103) (by rw [HK_new, if_pos rfl]) (by omega), HL_new, if_pos rfl]
          have : HI (hnew h 103 k.toNatClampNeg) (HN h) = fun _ => 0 := u1_eq (f := HI h)
          rw [this]) hd hb (by decide) (by omega) (by omega) (fun q H1 S1 hS1 => G _ _ _ _ _ _ _ _ _ _ _ hr (T.grow adN_ext (Nat.le_succ _) rfl rfl hmo S1 hS1 ((k1.ext adN_ext (Nat.le_succ _)).r (Nat.lt_succ_self _))))
      all_goals cases hm
  · cases hr

theorem w_anewarray {kd : Nat} (hT2 : TOK2) (C : CX p l R s m args meth c x y mc ms) (G : Go p l e R s m args below meth c x ad0 n0 y mc ms n r h') (hr : stp none some (ev n y) (callp (hd y) (ev n y) (fun y2 as h => ev n y2 0 (padn (nl y2) as) [] h) pc nx) rk y (.anewarray kd) nx ls st h = some (r, h')) (hd : decode (yb y) pc = .ok (orig, nx - pc)) (hm : matchop y pc nx orig (.anewarray kd) = true) (T : Wt s x ad0 n0 y h' mc ms ad h H locs cells slots ls st rls rst) : W p l e R s m args below meth c H locs cells slots (QE below y x ad0 n0 r h' args s mc ms) (F0 m pc rls rst) := by
  simp only [stp] at hr
  split at hr
  · rename_i k st0
    cases hb : (decide (0 ≤ k) && decide (k ≤ 100)) with
    | false => rw [hb] at hr; cases hr
    | true =>
      rw [hb] at hr
      simp only [cond_true] at hr
      obtain ⟨_, rfl, k1⟩ := SKi T.2.2.2.2.1
      simp only [matchop, Bool.and_eq_true] at hm
      obtain ⟨⟨hk, hnx⟩, hm⟩ := hm
      obtain rfl := Nat.eq_of_beq_eq_true hnx
      obtain rfl := Nat.eq_of_beq_eq_true hk
      rw [show pc + 3 - pc = 3 by omega] at hd
      have hmo := ev_mo _ _ _ _ _ _ _ _ hr
      have b1 : HC h + 1 ≤ HC h' := hmo.2.1
      have b2 : HS h + k.toNatClampNeg ≤ HS h' := hmo.2.2
      have t1 := T.2.2.2.2.2.1
      have t2 := T.2.2.2.2.2.2
      have c1 := C.2.2.2.2.2.2.2.2.2.2.2.1
      have c2 := C.2.2.2.2.2.2.2.2.2.2.2.2.1
      split at hm
      · exact m_newq hT2 C.1 C.2.2.1 C.2.2.2.1 C.2.2.2.2.2.1 T.1 T.2.1 C.2.2.2.2.1 hm hd hb (by omega) (by omega) (fun q H1 locs1 S1 hS1 => G _ _ _ _ _ _ _ _ _ _ _ hr (T.grow adN_ext (Nat.le_succ _) rfl rfl hmo S1 hS1 ((k1.ext adN_ext (Nat.le_succ _)).r (Nat.lt_succ_self _))))
      · cases hm
  · cases hr

theorem w_multianewarray {kd dd : Nat} (hT2 : TOK2) (C : CX p l R s m args meth c x y mc ms) (G : Go p l e R s m args below meth c x ad0 n0 y mc ms n r h') (hr : stp none some (ev n y) (callp (hd y) (ev n y) (fun y2 as h => ev n y2 0 (padn (nl y2) as) [] h) pc nx) rk y (.multianewarray kd dd) nx ls st h = some (r, h')) (hd : decode (yb y) pc = .ok (orig, nx - pc)) (hm : matchop y pc nx orig (.multianewarray kd dd) = true) (T : Wt s x ad0 n0 y h' mc ms ad h H locs cells slots ls st rls rst) : W p l e R s m args below meth c H locs cells slots (QE below y x ad0 n0 r h' args s mc ms) (F0 m pc rls rst) := by
  simp only [stp] at hr
  split at hr
  · rename_i k z st0
    split at hr
    · skip
      cases hb : (decide (0 ≤ z) && decide (z ≤ 100) && decide (0 ≤ k) && decide (k ≤ 100)) with
      | false => rw [hb] at hr; cases hr
      | true =>
        rw [hb] at hr
        simp only [cond_true] at hr
        obtain ⟨_, rfl, k1⟩ := SKi T.2.2.2.2.1
        obtain ⟨_, rfl, k2⟩ := SKi k1
        simp only [matchop, Bool.and_eq_true] at hm
        obtain ⟨hnx, hm⟩ := hm
        obtain rfl := Nat.eq_of_beq_eq_true hnx
        rw [show pc + 4 - pc = 4 by omega] at hd
        have hmo := ev_mo _ _ _ _ _ _ _ _ hr
        have b1 : HC h + (1 + z.toNatClampNeg) ≤ HC h' := hmo.2.1
        have b2 : HS h + (z.toNatClampNeg + z.toNatClampNeg * k.toNatClampNeg) ≤ HS h' := hmo.2.2
        have t1 := T.2.2.2.2.2.1
        have t2 := T.2.2.2.2.2.2
        have c1 := C.2.2.2.2.2.2.2.2.2.2.2.1
        have c2 := C.2.2.2.2.2.2.2.2.2.2.2.2.1
        split at hm
        · simp only [Bool.and_eq_true] at hm
          obtain ⟨h2, hm⟩ := hm
          obtain rfl := Nat.eq_of_beq_eq_true h2
          exact m_mnz hT2 C.1 C.2.2.1 C.2.2.2.1 C.2.2.2.2.2.1 T.1 T.2.1 C.2.2.2.2.1 hm hd hb (by omega) (by omega) (fun ad' H1 locs1 hx S1 hS1 => G _ _ _ _ _ _ _ _ _ _ _ hr (T.grow hx (Nat.le_add_right _ _) rfl rfl hmo S1 hS1 ((k2.ext hx (Nat.le_add_right _ _)).r (show HN h < HN h + (1 + _) by omega))))
        · cases hm
    · rename_i hkd
      cases hb : (decide (0 ≤ z) && decide (z ≤ 100) && decide (0 ≤ k) && decide (k ≤ 100)) with
      | false => rw [hb] at hr; cases hr
      | true =>
        rw [hb] at hr
        simp only [cond_true] at hr
        obtain ⟨_, rfl, k1⟩ := SKi T.2.2.2.2.1
        obtain ⟨_, rfl, k2⟩ := SKi k1
        simp only [matchop, Bool.and_eq_true] at hm
        obtain ⟨hnx, hm⟩ := hm
        obtain rfl := Nat.eq_of_beq_eq_true hnx
        rw [show pc + 4 - pc = 4 by omega] at hd
        have hmo := ev_mo _ _ _ _ _ _ _ _ hr
        have b1 : HC h + (1 + z.toNatClampNeg) ≤ HC h' := hmo.2.1
        have b2 : HS h + (z.toNatClampNeg + z.toNatClampNeg * k.toNatClampNeg) ≤ HS h' := hmo.2.2
        have t1 := T.2.2.2.2.2.1
        have t2 := T.2.2.2.2.2.2
        have c1 := C.2.2.2.2.2.2.2.2.2.2.2.1
        have c2 := C.2.2.2.2.2.2.2.2.2.2.2.2.1
        split at hm
        · rename_i i9 d9
          simp only [Bool.and_eq_true] at hm
          obtain ⟨h2, hm⟩ := hm
          obtain rfl := Nat.eq_of_beq_eq_true h2
          exact m_mna hT2 C.1 C.2.2.1 C.2.2.2.1 C.2.2.2.2.2.1 T.1 T.2.1 C.2.2.2.2.1 hm hd hb (by omega) (by omega) (fun ad' H1 locs1 hx S1 hS1 => G _ _ _ _ _ _ _ _ _ _ _ hr (T.grow hx (Nat.le_add_right _ _) rfl rfl hmo S1 hS1 ((k2.ext hx (Nat.le_add_right _ _)).r (show HN h < HN h + (1 + _) by omega))))
        · cases hm
  · cases hr

theorem w_instanceof {z : Nat} (hT2 : TOK2) (C : CX p l R s m args meth c x y mc ms) (G : Go p l e R s m args below meth c x ad0 n0 y mc ms n r h') (hr : stp none some (ev n y) (callp (hd y) (ev n y) (fun y2 as h => ev n y2 0 (padn (nl y2) as) [] h) pc nx) rk y (.instanceof z) nx ls st h = some (r, h')) (hd : decode (yb y) pc = .ok (orig, nx - pc)) (hm : matchop y pc nx orig (.instanceof z) = true) (T : Wt s x ad0 n0 y h' mc ms ad h H locs cells slots ls st rls rst) : W p l e R s m args below meth c H locs cells slots (QE below y x ad0 n0 r h' args s mc ms) (F0 m pc rls rst) := by
  simp only [stp] at hr
  split at hr
  · rename_i a st0
    cases hb : (ckK h a 102 && bfit h a 0 (HL h a) && Nat.ble (wgt st0) 8) with
    | false => rw [hb] at hr; cases hr
    | true =>
      rw [hb] at hr
      simp only [cond_true] at hr
      simp only [Bool.and_eq_true] at hb
      obtain ⟨_, rfl, hx, k1⟩ := SKr T.2.2.2.2.1
      have hw := k1.wgt
      have h8 := Nat.le_of_ble_eq_true hb.2
      simp only [matchop, Bool.and_eq_true] at hm
      obtain ⟨hnx, hm⟩ := hm
      obtain rfl := Nat.eq_of_beq_eq_true hnx
      rw [show pc + 3 - pc = 3 by omega] at hd
      have r1 := C.2.2.2.2.2.2.1
      have r2 := C.2.2.2.2.2.2.2.1
      have hmo := ev_mo _ _ _ _ _ _ _ _ hr
      have b1 : HC h + 1 ≤ HC h' := hmo.2.1
      have b2 : HS h + HL h a ≤ HS h' := hmo.2.2
      have t1 := T.2.2.2.2.2.1
      have t2 := T.2.2.2.2.2.2
      have c1 := C.2.2.2.2.2.2.2.2.2.2.2.1
      have c2 := C.2.2.2.2.2.2.2.2.2.2.2.2.1
      split at hm
      · exact m_cln hT2 C.1 C.2.2.1 C.2.2.2.1 T.1 T.2.1 C.2.2.2.2.1 T.2.2.2.1.1 hm (Nat.eq_of_beq_eq_true hb.1.1) hb.1.2 hd (by omega) (by omega) (by omega) (by omega) (fun q H1 S1 hS1 => G _ _ _ _ _ _ _ _ _ _ _ hr (T.grow adN_ext (Nat.le_succ _) rfl rfl hmo S1 hS1 ((k1.ext adN_ext (Nat.le_succ _)).r (Nat.lt_succ_self _))))
      · cases hm
  · cases hr

theorem w_oinit {z : Nat} (hT2 : TOK2) (C : CX p l R s m args meth c x y mc ms) (G : Go p l e R s m args below meth c x ad0 n0 y mc ms n r h') (hr : stp none some (ev n y) (callp (hd y) (ev n y) (fun y2 as h => ev n y2 0 (padn (nl y2) as) [] h) pc nx) rk y (.invokespecial z) nx ls st h = some (r, h')) (hd : decode (yb y) pc = .ok (orig, nx - pc)) (hm : matchop y pc nx orig (.invokespecial z) = true) (T : Wt s x ad0 n0 y h' mc ms ad h H locs cells slots ls st rls rst) : W p l e R s m args below meth c H locs cells slots (QE below y x ad0 n0 r h' args s mc ms) (F0 m pc rls rst) := by
  simp only [stp] at hr
  split at hr
  · rename_i a st0
    cases hb : (Nat.blt 0 (HK h a) && Nat.ble (wgt st0) 8) with
    | false => rw [hb] at hr; cases hr
    | true =>
      rw [hb] at hr
      simp only [Bool.and_eq_true] at hb
      obtain ⟨_, rfl, hx, k1⟩ := SKr T.2.2.2.2.1
      have hw := k1.wgt
      have h8 := Nat.le_of_ble_eq_true hb.2
      simp only [matchop, Bool.and_eq_true] at hm
      obtain ⟨⟨-, hnx⟩, hm⟩ := hm
      obtain rfl := Nat.eq_of_beq_eq_true hnx
      rw [show pc + 3 - pc = 3 by omega] at hd
      have r1 := C.2.2.2.2.2.2.1
      have r2 := C.2.2.2.2.2.2.2.1
      split at hm
      · exact m_oinit hT2 C.1 C.2.2.2.1 T.1 T.2.2.2.1.1 hm (Nat.le_of_ble_eq_true hb.1) hd (by omega) (by omega) (G _ _ _ _ _ _ _ _ _ _ _ hr (T.stk k1))
      · cases hm
  · cases hr

theorem w_invokestatic {z : Nat} (hT2 : TOK2) (C : CX p l R s m args meth c x y mc ms) (G : Go p l e R s m args below meth c x ad0 n0 y mc ms n r h') (hr : stp none some (ev n y) (callp (hd y) (ev n y) (fun y2 as h => ev n y2 0 (padn (nl y2) as) [] h) pc nx) rk y (.invokestatic z) nx ls st h = some (r, h')) (hd : decode (yb y) pc = .ok (orig, nx - pc)) (hm : matchop y pc nx orig (.invokestatic z) = true) (T : Wt s x ad0 n0 y h' mc ms ad h H locs cells slots ls st rls rst) : W p l e R s m args below meth c H locs cells slots (QE below y x ad0 n0 r h' args s mc ms) (F0 m pc rls rst) := by
  simp only [matchop, Bool.and_eq_true] at hm
  obtain ⟨hnx, hm⟩ := hm
  obtain rfl := Nat.eq_of_beq_eq_true hnx
  rw [show pc + 3 - pc = 3 by omega] at hd
  have r1 := C.2.2.2.2.2.2.1
  have r2 := C.2.2.2.2.2.2.2.1
  have t1 := T.2.2.2.2.2.1
  have t2 := T.2.2.2.2.2.2
  have c1 := C.2.2.2.2.2.2.2.2.2.2.2.1
  have c2 := C.2.2.2.2.2.2.2.2.2.2.2.2.1
  split at hm
  · have hz := mth_lt hm
    rcases (show z = 0 ∨ z = 1 ∨ z = 2 ∨ z = 3 by omega) with rfl | rfl | rfl | rfl
    · simp only [stp] at hr
      split at hr
      · rename_i k dp da sp sa st0
        cases hb : cpOK h sa da sp dp k (wgt st0) with
        | false => rw [hb] at hr; cases hr
        | true =>
          rw [hb] at hr
          obtain ⟨_, rfl, k1⟩ := SKi T.2.2.2.2.1
          obtain ⟨_, rfl, k2⟩ := SKi k1
          obtain ⟨_, rfl, -, k3⟩ := SKr k2
          obtain ⟨_, rfl, k4⟩ := SKi k3
          obtain ⟨_, rfl, -, k5⟩ := SKr k4
          exact m_copy hT2 C.1 C.2.2.1 C.2.2.2.1 T.1 T.2.1 T.2.2.2.1.1 hm hb k5.wgt hd (by omega) (by omega) (fun H1 locs1 S1 hS1 => G _ _ _ _ _ _ _ _ _ _ _ hr (T.hp rfl S1 hS1 k5))
      · cases hr
    · simp only [stp] at hr
      split at hr
      · rename_i b a st0
        cases hb : Nat.ble (wgt st0) 8 with
        | false => rw [hb] at hr; cases hr
        | true =>
          rw [hb] at hr
          obtain ⟨_, rfl, k1⟩ := SKi T.2.2.2.2.1
          obtain ⟨_, rfl, k2⟩ := SKi k1
          have h8 := Nat.le_of_ble_eq_true hb
          have hw := k2.wgt
          exact m_min hT2 C.1 T.2.2.2.1.1 hm hd (by omega) (by omega) (by omega) (by omega) (G _ _ _ _ _ _ _ _ _ _ _ hr (T.stk k2.i))
      · cases hr
    · simp only [stp] at hr
      split at hr
      · rename_i b a st0
        cases hb : Nat.ble (wgt st0) 8 with
        | false => rw [hb] at hr; cases hr
        | true =>
          rw [hb] at hr
          obtain ⟨_, rfl, k1⟩ := SKi T.2.2.2.2.1
          obtain ⟨_, rfl, k2⟩ := SKi k1
          have h8 := Nat.le_of_ble_eq_true hb
          have hw := k2.wgt
          exact m_max hT2 C.1 T.2.2.2.1.1 hm hd (by omega) (by omega) (by omega) (by omega) (G _ _ _ _ _ _ _ _ _ _ _ hr (T.stk k2.i))
      · cases hr
    · simp only [stp] at hr
      split at hr
      · rename_i a st0
        cases hb : Nat.ble (wgt st0) 8 with
        | false => rw [hb] at hr; cases hr
        | true =>
          rw [hb] at hr
          obtain ⟨_, rfl, k1⟩ := SKi T.2.2.2.2.1
          have h8 := Nat.le_of_ble_eq_true hb
          have hw := k1.wgt
          exact m_abs hT2 C.1 T.2.2.2.1.1 hm hd (by omega) (by omega) (by omega) (by omega) (G _ _ _ _ _ _ _ _ _ _ _ hr (T.stk k1.i))
      · cases hr
  · cases hm

theorem w_throw {k : Nat} (hT3 : TOK3) (C : CX p l R s m args meth c x y mc ms) (G : Go p l e R s m args below meth c x ad0 n0 y mc ms n r h') (hr : stp none some (ev n y) (callp (hd y) (ev n y) (fun y2 as h => ev n y2 0 (padn (nl y2) as) [] h) pc nx) rk y (.invokedynamic k) nx ls st h = some (r, h')) (hd : decode (yb y) pc = .ok (orig, nx - pc)) (hm : matchop y pc nx orig (.invokedynamic k) = true) (T : Wt s x ad0 n0 y h' mc ms ad h H locs cells slots ls st rls rst) : W p l e R s m args below meth c H locs cells slots (QE below y x ad0 n0 r h' args s mc ms) (F0 m pc rls rst) := by
  simp only [stp] at hr
  cases hb : Nat.ble (wgt st) 8 with
  | false => rw [hb] at hr; cases hr
  | true =>
    rw [hb] at hr
    simp only [cond_true, Option.some.injEq, Prod.mk.injEq] at hr
    obtain ⟨rfl, rfl⟩ := hr
    have h8 := Nat.le_of_ble_eq_true hb
    have hw := T.2.2.2.2.1.wgt
    simp only [matchop, Bool.and_eq_true] at hm
    obtain ⟨-, hm⟩ := hm
    have r1 := C.2.2.2.2.2.2.1
    have r2 := C.2.2.2.2.2.2.2.1
    have t1 := T.2.2.2.2.2.1
    have t2 := T.2.2.2.2.2.2
    have e1 : HC (hthr h) = HC h + 1 := rfl
    have e2 : HS (hthr h) = HS h + 6 := rfl
    split at hm
    · exact m_throw hT3 C.1 C.2.1 C.2.2.2.1 T.1 T.2.1 T.2.2.1.1 T.2.2.2.1.1 C.2.2.2.2.2.2.2.2.2.1 C.2.2.2.2.2.2.2.2.1 hm (by omega) (by omega) (by omega) (by omega) (by omega) C.2.2.2.2.2.2.2.2.2.2.2.1 C.2.2.2.2.2.2.2.2.2.2.2.2.1
    · cases hm

theorem w_ireturn (C : CX p l R s m args meth c x y mc ms) (G : Go p l e R s m args below meth c x ad0 n0 y mc ms n r h') (hr : stp none some (ev n y) (callp (hd y) (ev n y) (fun y2 as h => ev n y2 0 (padn (nl y2) as) [] h) pc nx) rk y .ireturn nx ls st h = some (r, h')) (hd : decode (yb y) pc = .ok (orig, nx - pc)) (hm : matchop y pc nx orig .ireturn = true) (T : Wt s x ad0 n0 y h' mc ms ad h H locs cells slots ls st rls rst) : W p l e R s m args below meth c H locs cells slots (QE below y x ad0 n0 r h' args s mc ms) (F0 m pc rls rst) := by
  simp only [stp] at hr
  split at hr
  · rename_i v
    cases hr
    obtain ⟨_, rfl, k1⟩ := SKi T.2.2.2.2.1
    obtain rfl := SK0 k1
    simp only [matchop, Bool.and_eq_true, decide_eq_true_eq] at hm
    obtain ⟨⟨rfl, hy⟩, hnx⟩ := hm
    obtain rfl := Nat.eq_of_beq_eq_true hnx
    rw [show pc + 1 - pc = 1 by omega] at hd
    have t1 := T.2.2.2.2.2.1
    have t2 := T.2.2.2.2.2.2
    exact m_retI C.1 T.1 T.2.1 T.2.2.1.1 C.2.2.2.2.2.2.2.2.1 hy C.2.2.2.2.2.2.2.2.2.2.1 (by rw [hy]; rfl) rfl hd (by omega) (by omega)
  · cases hr

theorem w_dreturn (C : CX p l R s m args meth c x y mc ms) (G : Go p l e R s m args below meth c x ad0 n0 y mc ms n r h') (hr : stp none some (ev n y) (callp (hd y) (ev n y) (fun y2 as h => ev n y2 0 (padn (nl y2) as) [] h) pc nx) rk y .dreturn nx ls st h = some (r, h')) (hd : decode (yb y) pc = .ok (orig, nx - pc)) (hm : matchop y pc nx orig .dreturn = true) (T : Wt s x ad0 n0 y h' mc ms ad h H locs cells slots ls st rls rst) : W p l e R s m args below meth c H locs cells slots (QE below y x ad0 n0 r h' args s mc ms) (F0 m pc rls rst) := by
  simp only [stp] at hr
  split at hr
  · rename_i v
    cases hr
    obtain ⟨_, rfl, k1⟩ := SKd T.2.2.2.2.1
    obtain rfl := SK0 k1
    simp only [matchop, Bool.and_eq_true, decide_eq_true_eq] at hm
    obtain ⟨⟨rfl, hy⟩, hnx⟩ := hm
    obtain rfl := Nat.eq_of_beq_eq_true hnx
    rw [show pc + 1 - pc = 1 by omega] at hd
    have t1 := T.2.2.2.2.2.1
    have t2 := T.2.2.2.2.2.2
    exact m_retD C.1 T.1 T.2.1 T.2.2.1.1 C.2.2.2.2.2.2.2.2.1 hy C.2.2.2.2.2.2.2.2.2.2.1 hd (by omega) (by omega)
  · cases hr

theorem w_freturn (C : CX p l R s m args meth c x y mc ms) (G : Go p l e R s m args below meth c x ad0 n0 y mc ms n r h') (hr : stp none some (ev n y) (callp (hd y) (ev n y) (fun y2 as h => ev n y2 0 (padn (nl y2) as) [] h) pc nx) rk y .freturn nx ls st h = some (r, h')) (hd : decode (yb y) pc = .ok (orig, nx - pc)) (hm : matchop y pc nx orig .freturn = true) (T : Wt s x ad0 n0 y h' mc ms ad h H locs cells slots ls st rls rst) : W p l e R s m args below meth c H locs cells slots (QE below y x ad0 n0 r h' args s mc ms) (F0 m pc rls rst) := by
  simp only [stp] at hr
  split at hr
  · rename_i v
    cases hr
    obtain ⟨_, rfl, k1⟩ := SKf T.2.2.2.2.1
    obtain rfl := SK0 k1
    simp only [matchop, Bool.and_eq_true, decide_eq_true_eq] at hm
    obtain ⟨⟨rfl, hy⟩, hnx⟩ := hm
    obtain rfl := Nat.eq_of_beq_eq_true hnx
    rw [show pc + 1 - pc = 1 by omega] at hd
    have t1 := T.2.2.2.2.2.1
    have t2 := T.2.2.2.2.2.2
    exact m_retF C.1 T.1 T.2.1 T.2.2.1.1 C.2.2.2.2.2.2.2.2.1 hy C.2.2.2.2.2.2.2.2.2.2.1 hd (by omega) (by omega)
  · cases hr

theorem w_areturn (C : CX p l R s m args meth c x y mc ms) (G : Go p l e R s m args below meth c x ad0 n0 y mc ms n r h') (hr : stp none some (ev n y) (callp (hd y) (ev n y) (fun y2 as h => ev n y2 0 (padn (nl y2) as) [] h) pc nx) rk y .areturn nx ls st h = some (r, h')) (hd : decode (yb y) pc = .ok (orig, nx - pc)) (hm : matchop y pc nx orig .areturn = true) (T : Wt s x ad0 n0 y h' mc ms ad h H locs cells slots ls st rls rst) : W p l e R s m args below meth c H locs cells slots (QE below y x ad0 n0 r h' args s mc ms) (F0 m pc rls rst) := by
  simp only [stp] at hr
  split at hr
  · rename_i v
    cases hr
    obtain ⟨_, rfl, hx, k1⟩ := SKr T.2.2.2.2.1
    obtain rfl := SK0 k1
    simp only [matchop, Bool.and_eq_true, decide_eq_true_eq] at hm
    obtain ⟨⟨rfl, hy⟩, hnx⟩ := hm
    obtain rfl := Nat.eq_of_beq_eq_true hnx
    rw [show pc + 1 - pc = 1 by omega] at hd
    have t1 := T.2.2.2.2.2.1
    have t2 := T.2.2.2.2.2.2
    exact m_retA C.1 T.1 T.2.1 T.2.2.1.1 C.2.2.2.2.2.2.2.2.1 (Nat.eq_of_beq_eq_true hy) C.2.2.2.2.2.2.2.2.2.2.1 hx hd (by omega) (by omega)
  · cases hr

theorem w_return (C : CX p l R s m args meth c x y mc ms) (G : Go p l e R s m args below meth c x ad0 n0 y mc ms n r h') (hr : stp none some (ev n y) (callp (hd y) (ev n y) (fun y2 as h => ev n y2 0 (padn (nl y2) as) [] h) pc nx) rk y .return_ nx ls st h = some (r, h')) (hd : decode (yb y) pc = .ok (orig, nx - pc)) (hm : matchop y pc nx orig .return_ = true) (T : Wt s x ad0 n0 y h' mc ms ad h H locs cells slots ls st rls rst) : W p l e R s m args below meth c H locs cells slots (QE below y x ad0 n0 r h' args s mc ms) (F0 m pc rls rst) := by
  simp only [stp] at hr
  split at hr
  · cases hr
    obtain rfl := SK0 T.2.2.2.2.1
    simp only [matchop, Bool.and_eq_true, decide_eq_true_eq] at hm
    obtain ⟨⟨rfl, hy⟩, hnx⟩ := hm
    obtain rfl := Nat.eq_of_beq_eq_true hnx
    rw [show pc + 1 - pc = 1 by omega] at hd
    have t1 := T.2.2.2.2.2.1
    have t2 := T.2.2.2.2.2.2
    exact m_retV C.1 T.1 T.2.1 T.2.2.1.1 C.2.2.2.2.2.2.2.2.1 hy C.2.2.2.2.2.2.2.2.2.2.1 hd (by omega) (by omega)
  · cases hr

theorem w_ret {t : Nat} (C : CX p l R s m args meth c x y mc ms) (G : Go p l e R s m args below meth c x ad0 n0 y mc ms n r h') (hr : stp none some (ev n y) (callp (hd y) (ev n y) (fun y2 as h => ev n y2 0 (padn (nl y2) as) [] h) pc nx) rk y (.ret t) nx ls st h = some (r, h')) (hd : decode (yb y) pc = .ok (orig, nx - pc)) (hm : matchop y pc nx orig (.ret t) = true) (T : Wt s x ad0 n0 y h' mc ms ad h H locs cells slots ls st rls rst) : W p l e R s m args below meth c H locs cells slots (QE below y x ad0 n0 r h' args s mc ms) (F0 m pc rls rst) := by
  simp only [stp] at hr
  split at hr
  · rename_i v
    cases hf : fitc t v with
    | false => rw [hf] at hr; cases hr
    | true =>
      rw [hf] at hr
      cases hr
      obtain ⟨_, rfl, k1⟩ := SKi T.2.2.2.2.1
      obtain rfl := SK0 k1
      simp only [matchop, Bool.and_eq_true, decide_eq_true_eq] at hm
      obtain ⟨⟨rfl, hnx⟩, hm⟩ := hm
      obtain rfl := Nat.eq_of_beq_eq_true hnx
      rw [show pc + 1 - pc = 1 by omega] at hd
      have t1 := T.2.2.2.2.2.1
      have t2 := T.2.2.2.2.2.2
      split at hm
      · have hy : yr y = some .boolean := of_decide_eq_true hm
        exact m_retI C.1 T.1 T.2.1 T.2.2.1.1 C.2.2.2.2.2.2.2.2.1 hy C.2.2.2.2.2.2.2.2.2.2.1 (by rw [hy]; rfl) (fit_int (t := 1) rfl hf).1 hd (by omega) (by omega)
      · have hy : yr y = some .char := of_decide_eq_true hm
        exact m_retI C.1 T.1 T.2.1 T.2.2.1.1 C.2.2.2.2.2.2.2.2.1 hy C.2.2.2.2.2.2.2.2.2.2.1 (by rw [hy]; rfl) (fit_int (t := 2) rfl hf).1 hd (by omega) (by omega)
      · have hy : yr y = some .byte := of_decide_eq_true hm
        exact m_retI C.1 T.1 T.2.1 T.2.2.1.1 C.2.2.2.2.2.2.2.2.1 hy C.2.2.2.2.2.2.2.2.2.2.1 (by rw [hy]; rfl) (fit_int (t := 3) rfl hf).1 hd (by omega) (by omega)
      · cases hm
  · cases hr

end WALK5
