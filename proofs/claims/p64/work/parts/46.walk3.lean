/-! SOUNDNESS, instruction by instruction: fields, arrays, new cells -/
theorem stf_in {o i n : Nat} (h : fnd3 stfA o i n = true) : n = 705 ∨ n = 706 := by
  have h1 := fnd3_in h
  simp only [stfA, List.mem_cons, List.not_mem_nil, or_false, Prod.mk.injEq] at h1
  omega
theorem fld_ftc (hT : TOK) {o i kd k : Nat} (h : fndFld fldA o i kd k = true) : ftc (tta kd k) = 0 ∨ ftc (tta kd k) = 1 ∨ ftc (tta kd k) = 2 ∨ ftc (tta kd k) = 6 := by
  obtain ⟨h1, h2, h3, -⟩ := fld_at hT h
  have := nna_at kd h2
  exact ftc_at kd h2 k (by omega)
section WALK4
variable {p : Program} {l : Launch} {e : Env} {R : Room} {s : State} {m : MethodId} {args : Array Value} {below : List Frame} {meth : Method} {c : Code} {H : Heap} {locs : List Loc} {cells slots : Nat}
variable {x : Ctx} {ad ad0 : Nat → Option Nat} {h h' : Hp} {y pc nx n0 mc ms n : Nat} {rls : Array Slot} {ls st rst : List Value} {r : Except Nat Value} {orig : Instr}

theorem w_getfield {k : Nat} (hT : TOK) (hT2 : TOK2) (C : CX p l R s m args meth c x y mc ms) (G : Go p l e R s m args below meth c x ad0 n0 y mc ms n r h') (hr : stp none some (ev n y) (callp (hd y) (ev n y) (fun y2 as h => ev n y2 0 (padn (nl y2) as) [] h) pc nx) rk y (.getfield k) nx ls st h = some (r, h')) (hd : decode (yb y) pc = .ok (orig, nx - pc)) (hm : matchop y pc nx orig (.getfield k) = true) (T : Wt s x ad0 n0 y h' mc ms ad h H locs cells slots ls st rls rst) : W p l e R s m args below meth c H locs cells slots (QE below y x ad0 n0 r h' args s mc ms) (F0 m pc rls rst) := by
  simp only [stp] at hr
  split at hr
  · rename_i a st0
    cases hb : ckG h a (k / 64) with
    | false => rw [hb] at hr; cases hr
    | true =>
      rw [hb] at hr
      simp only [cond_true] at hr
      obtain ⟨_, rfl, hx, k1⟩ := SKr T.2.2.2.2.1
      simp only [matchop, Bool.and_eq_true] at hm
      obtain ⟨hnx, hm⟩ := hm
      obtain rfl := Nat.eq_of_beq_eq_true hnx
      rw [show pc + 3 - pc = 3 by omega] at hd
      split at hm
      · simp only [Bool.or_eq_true, Bool.and_eq_true] at hm
        rcases hm with ⟨⟨f1, f2⟩, f3⟩ | ⟨⟨f1, f4⟩, f5⟩
        · have hk : HK h a = k / 64 := by
            have f2 := Nat.le_of_ble_eq_true f2
            have e : ckG h a (k / 64) = ckK h a (k / 64) := by unfold ckG; split <;> first | omega | rfl
            rw [e] at hb
            exact Nat.eq_of_beq_eq_true hb
          have f3 := Nat.eq_of_beq_eq_true f3
          unfold fty at f3
          refine m_get hT C.1 C.2.2.1 T.1 f1 hk hd ?_
          unfold fv
          rcases Nat.mod_two_eq_zero_or_one k with hz | hz
          · rw [hz] at hr f3
            rw [if_neg (by omega)]
            exact G _ _ _ _ _ _ _ _ _ _ _ hr (T.stk k1.i)
          · rw [hz] at hr f3
            rw [if_pos f3]
            exact G _ _ _ _ _ _ _ _ _ _ _ hr (T.stk (k1.r (T.1.2.2.2.2.2.2.1 _ _)))
        · have f2 := stf_in f1
          have hk : HK h a = 11 ∨ HK h a = 9 := by
            have hb2 : (ckK h a 11 || ckK h a 9) = true := by rcases f2 with rfl | rfl <;> exact hb
            rw [Bool.or_eq_true] at hb2
            exact hb2.imp Nat.eq_of_beq_eq_true Nat.eq_of_beq_eq_true
          rcases hk with hk | hk
          · refine m_getS hT2 C.1 C.2.2.2.1 T.1 T.2.1 f2 f1 hk hd ?_
            rcases f2 with rfl | rfl
            · rw [if_pos (by decide)]
              exact G _ _ _ _ _ _ _ _ _ _ _ hr (T.stk (k1.r (T.1.2.2.2.2.2.2.1 _ _)))
            · rw [if_neg (by decide)]
              exact G _ _ _ _ _ _ _ _ _ _ _ hr (T.stk k1.i)
          · have f5 := Nat.eq_of_beq_eq_true f5
            unfold fty at f5
            refine m_get hT C.1 C.2.2.1 T.1 f4 hk hd ?_
            unfold fv
            rcases f2 with rfl | rfl
            · rw [if_pos f5]
              exact G _ _ _ _ _ _ _ _ _ _ _ hr (T.stk (k1.r (T.1.2.2.2.2.2.2.1 _ _)))
            · rw [if_neg (by omega)]
              exact G _ _ _ _ _ _ _ _ _ _ _ hr (T.stk k1.i)
      · cases hm
  · cases hr

theorem w_putfield {k : Nat} (hT : TOK) (C : CX p l R s m args meth c x y mc ms) (G : Go p l e R s m args below meth c x ad0 n0 y mc ms n r h') (hr : stp none some (ev n y) (callp (hd y) (ev n y) (fun y2 as h => ev n y2 0 (padn (nl y2) as) [] h) pc nx) rk y (.putfield k) nx ls st h = some (r, h')) (hd : decode (yb y) pc = .ok (orig, nx - pc)) (hm : matchop y pc nx orig (.putfield k) = true) (T : Wt s x ad0 n0 y h' mc ms ad h H locs cells slots ls st rls rst) : W p l e R s m args below meth c H locs cells slots (QE below y x ad0 n0 r h' args s mc ms) (F0 m pc rls rst) := by
  simp only [stp] at hr
  split at hr
  · rename_i x0 a st0
    cases hb0 : Nat.beq (k % 2) 0 with
    | false => rw [hb0] at hr; cases hr
    | true =>
      rw [hb0] at hr
      simp only [cond_true] at hr
      cases hb : ckK h a (k / 64 % 16) with
      | false => rw [hb] at hr; cases hr
      | true =>
        rw [hb] at hr
        simp only [cond_true] at hr
        obtain ⟨_, rfl, k1⟩ := SKi T.2.2.2.2.1
        obtain ⟨_, rfl, hx, k2⟩ := SKr k1
        have hk := Nat.eq_of_beq_eq_true hb
        have hb0 := Nat.eq_of_beq_eq_true hb0
        simp only [matchop, Bool.and_eq_true] at hm
        obtain ⟨hnx, hm⟩ := hm
        obtain rfl := Nat.eq_of_beq_eq_true hnx
        rw [show pc + 3 - pc = 3 by omega] at hd
        split at hm
        · simp only [Bool.and_eq_true] at hm
          obtain ⟨⟨f1, f2⟩, hfin⟩ := hm
          have f2 := Nat.eq_of_beq_eq_true f2
          unfold fty at f2
          rw [hb0, Nat.add_zero] at f2
          have key : fitc (k / 1024) x0 = true → ev n y (pc + 3) ls st0 (sI h a (k / 2 % 32) x0) = some (r, h') → W p l e R s m args below meth c H locs cells slots (QE below y x ad0 n0 r h' args s mc ms) (F0 m pc rls (.int x0 :: va_rf (ad a) :: _)) := fun hfc hr => by
            refine m_put hT C.1 C.2.2.1 T.1 T.2.1 (h' := sI h a (k / 2 % 32) x0) f1 hk hd hfin (fit_int f2 hfc).1 (fit_int f2 hfc).2 ?_ (fun j hj => ?_) (fun b hb => cE_sI hb) rfl rfl (fun b hb j => by rw [HI_sI, if_neg (fun z => hb z.1)]) (fun _ _ => Or.inl rfl) (fun _ _ _ => rfl) (fun H1 locs1 S1 hS1 => G _ _ _ _ _ _ _ _ _ _ _ hr (T.hp rfl S1 hS1 k2))
            · unfold fv
              rw [if_neg (by rw [f2]; omega), HI_sI, if_pos ⟨rfl, rfl⟩]
            · have e1 : HI (sI h a (k / 2 % 32) x0) a j = HI h a j := by rw [HI_sI, if_neg (fun z => hj z.2)]
              unfold fv
              rw [e1]
              rfl
          cases hq : k / 1024 with
          | zero =>
            rw [hq] at hr
            exact key (by rw [hq]; rfl) hr
          | succ t =>
            rw [hq] at hr
            simp only at hr
            cases hfc : fitc (t + 1) x0 with
            | false => rw [hfc] at hr; cases hr
            | true =>
              rw [hfc] at hr
              exact key (by rw [hq]; exact hfc) hr
        · cases hm
  · rename_i x0 a st0
    cases hb0 : Nat.beq (k % 2) 1 with
    | false => rw [hb0] at hr; cases hr
    | true =>
      rw [hb0] at hr
      simp only [cond_true] at hr
      cases hb : ckK h a (k / 64 % 16) with
      | false => rw [hb] at hr; cases hr
      | true =>
        rw [hb] at hr
        simp only [cond_true] at hr
        obtain ⟨_, rfl, hx0, k1⟩ := SKr T.2.2.2.2.1
        obtain ⟨_, rfl, hx, k2⟩ := SKr k1
        have hk := Nat.eq_of_beq_eq_true hb
        have hb0 := Nat.eq_of_beq_eq_true hb0
        simp only [matchop, Bool.and_eq_true] at hm
        obtain ⟨hnx, hm⟩ := hm
        obtain rfl := Nat.eq_of_beq_eq_true hnx
        rw [show pc + 3 - pc = 3 by omega] at hd
        split at hm
        · simp only [Bool.and_eq_true] at hm
          obtain ⟨⟨f1, f2⟩, hfin⟩ := hm
          have f2 := Nat.eq_of_beq_eq_true f2
          unfold fty at f2
          have f3 : ftc (tta (k / 64 % 16) (k / 2 % 32)) = 1 := by
            have := fld_ftc hT f1
            omega
          obtain ⟨i1, i2⟩ := va_rf_isR (ad x0) _ f3
          refine m_put hT C.1 C.2.2.1 T.1 T.2.1 (h' := sR h a (k / 2 % 32) x0) f1 hk hd hfin i1 i2 ?_ (fun j hj => ?_) (fun b hb => cE_sR hb) rfl rfl (fun _ _ _ => rfl) (fun b j => ?_) (fun b hb j => by rw [HR_sR, if_neg (fun z => hb z.1)]) (fun H1 locs1 S1 hS1 => G _ _ _ _ _ _ _ _ _ _ _ hr (T.hp rfl S1 hS1 k2))
          · unfold fv
            rw [if_pos (by rw [f3]), HR_sR, if_pos ⟨rfl, rfl⟩]
          · have e1 : HR (sR h a (k / 2 % 32) x0) a j = HR h a j := by rw [HR_sR, if_neg (fun z => hj z.2)]
            unfold fv
            rw [e1]
            rfl
          · rw [HR_sR]
            split
            · exact Or.inr hx0
            · exact Or.inl rfl
        · cases hm
  · cases hr

theorem w_iaload (C : CX p l R s m args meth c x y mc ms) (G : Go p l e R s m args below meth c x ad0 n0 y mc ms n r h') (hr : stp none some (ev n y) (callp (hd y) (ev n y) (fun y2 as h => ev n y2 0 (padn (nl y2) as) [] h) pc nx) rk y .iaload nx ls st h = some (r, h')) (hd : decode (yb y) pc = .ok (orig, nx - pc)) (hm : matchop y pc nx orig .iaload = true) (T : Wt s x ad0 n0 y h' mc ms ad h H locs cells slots ls st rls rst) : W p l e R s m args below meth c H locs cells slots (QE below y x ad0 n0 r h' args s mc ms) (F0 m pc rls rst) := by
  have hm : (decide (orig = .iaload) && Nat.beq nx (pc + 1)) = true := hm
  simp only [Bool.and_eq_true, decide_eq_true_eq] at hm
  obtain ⟨rfl, hnx⟩ := hm
  obtain rfl := Nat.eq_of_beq_eq_true hnx
  rw [show pc + 1 - pc = 1 by omega] at hd
  simp only [stp] at hr
  split at hr
  · rename_i j a st0
    cases hb : chI h a 100 j with
    | false => rw [hb] at hr; cases hr
    | true =>
      rw [hb] at hr
      simp only [cond_true] at hr
      obtain ⟨_, rfl, k1⟩ := SKi T.2.2.2.2.1
      obtain ⟨_, rfl, hx, k2⟩ := SKr k1
      simp only [chI, Bool.and_eq_true] at hb
      exact m_iald C.1 C.2.2.1 T.1 (Nat.eq_of_beq_eq_true hb.1) hb.2 hd (G _ _ _ _ _ _ _ _ _ _ _ hr (T.stk k2.i))
  · cases hr

theorem w_caload (C : CX p l R s m args meth c x y mc ms) (G : Go p l e R s m args below meth c x ad0 n0 y mc ms n r h') (hr : stp none some (ev n y) (callp (hd y) (ev n y) (fun y2 as h => ev n y2 0 (padn (nl y2) as) [] h) pc nx) rk y .caload nx ls st h = some (r, h')) (hd : decode (yb y) pc = .ok (orig, nx - pc)) (hm : matchop y pc nx orig .caload = true) (T : Wt s x ad0 n0 y h' mc ms ad h H locs cells slots ls st rls rst) : W p l e R s m args below meth c H locs cells slots (QE below y x ad0 n0 r h' args s mc ms) (F0 m pc rls rst) := by
  have hm : (decide (orig = .caload) && Nat.beq nx (pc + 1)) = true := hm
  simp only [Bool.and_eq_true, decide_eq_true_eq] at hm
  obtain ⟨rfl, hnx⟩ := hm
  obtain rfl := Nat.eq_of_beq_eq_true hnx
  rw [show pc + 1 - pc = 1 by omega] at hd
  simp only [stp] at hr
  split at hr
  · rename_i j a st0
    cases hb : chI h a 101 j with
    | false => rw [hb] at hr; cases hr
    | true =>
      rw [hb] at hr
      simp only [cond_true] at hr
      obtain ⟨_, rfl, k1⟩ := SKi T.2.2.2.2.1
      obtain ⟨_, rfl, hx, k2⟩ := SKr k1
      simp only [chI, Bool.and_eq_true] at hb
      exact m_cald C.1 C.2.2.1 T.1 (Nat.eq_of_beq_eq_true hb.1) hb.2 hd (G _ _ _ _ _ _ _ _ _ _ _ hr (T.stk k2.i))
  · cases hr

theorem w_baload (C : CX p l R s m args meth c x y mc ms) (G : Go p l e R s m args below meth c x ad0 n0 y mc ms n r h') (hr : stp none some (ev n y) (callp (hd y) (ev n y) (fun y2 as h => ev n y2 0 (padn (nl y2) as) [] h) pc nx) rk y .baload nx ls st h = some (r, h')) (hd : decode (yb y) pc = .ok (orig, nx - pc)) (hm : matchop y pc nx orig .baload = true) (T : Wt s x ad0 n0 y h' mc ms ad h H locs cells slots ls st rls rst) : W p l e R s m args below meth c H locs cells slots (QE below y x ad0 n0 r h' args s mc ms) (F0 m pc rls rst) := by
  have hm : (decide (orig = .baload) && Nat.beq nx (pc + 1)) = true := hm
  simp only [Bool.and_eq_true, decide_eq_true_eq] at hm
  obtain ⟨rfl, hnx⟩ := hm
  obtain rfl := Nat.eq_of_beq_eq_true hnx
  rw [show pc + 1 - pc = 1 by omega] at hd
  simp only [stp] at hr
  split at hr
  · rename_i j a st0
    cases hb : chI h a 102 j with
    | false => rw [hb] at hr; cases hr
    | true =>
      rw [hb] at hr
      simp only [cond_true] at hr
      obtain ⟨_, rfl, k1⟩ := SKi T.2.2.2.2.1
      obtain ⟨_, rfl, hx, k2⟩ := SKr k1
      simp only [chI, Bool.and_eq_true] at hb
      exact m_bald C.1 C.2.2.1 T.1 (Nat.eq_of_beq_eq_true hb.1) hb.2 hd (G _ _ _ _ _ _ _ _ _ _ _ hr (T.stk k2.i))
  · cases hr

theorem w_saload (C : CX p l R s m args meth c x y mc ms) (G : Go p l e R s m args below meth c x ad0 n0 y mc ms n r h') (hr : stp none some (ev n y) (callp (hd y) (ev n y) (fun y2 as h => ev n y2 0 (padn (nl y2) as) [] h) pc nx) rk y .saload nx ls st h = some (r, h')) (hd : decode (yb y) pc = .ok (orig, nx - pc)) (hm : matchop y pc nx orig .saload = true) (T : Wt s x ad0 n0 y h' mc ms ad h H locs cells slots ls st rls rst) : W p l e R s m args below meth c H locs cells slots (QE below y x ad0 n0 r h' args s mc ms) (F0 m pc rls rst) := by
  have hm : (decide (orig = .iaload) && Nat.beq nx (pc + 1)) = true := hm
  simp only [Bool.and_eq_true, decide_eq_true_eq] at hm
  obtain ⟨rfl, hnx⟩ := hm
  obtain rfl := Nat.eq_of_beq_eq_true hnx
  rw [show pc + 1 - pc = 1 by omega] at hd
  simp only [stp] at hr
  split at hr
  · rename_i j a st0
    cases hb : chI h a 200 j with
    | false => rw [hb] at hr; cases hr
    | true =>
      rw [hb] at hr
      simp only [cond_true] at hr
      obtain ⟨_, rfl, k1⟩ := SKi T.2.2.2.2.1
      obtain ⟨_, rfl, hx, k2⟩ := SKr k1
      simp only [chI, Bool.and_eq_true] at hb
      exact m_sald C.1 C.2.2.2.1.1 T.1 T.2.1 (Nat.eq_of_beq_eq_true hb.1) hb.2 hd (G _ _ _ _ _ _ _ _ _ _ _ hr (T.stk k2.i))
  · cases hr

theorem w_faload (C : CX p l R s m args meth c x y mc ms) (G : Go p l e R s m args below meth c x ad0 n0 y mc ms n r h') (hr : stp none some (ev n y) (callp (hd y) (ev n y) (fun y2 as h => ev n y2 0 (padn (nl y2) as) [] h) pc nx) rk y .faload nx ls st h = some (r, h')) (hd : decode (yb y) pc = .ok (orig, nx - pc)) (hm : matchop y pc nx orig .faload = true) (T : Wt s x ad0 n0 y h' mc ms ad h H locs cells slots ls st rls rst) : W p l e R s m args below meth c H locs cells slots (QE below y x ad0 n0 r h' args s mc ms) (F0 m pc rls rst) := by
  have hm : (decide (orig = .baload) && Nat.beq nx (pc + 1)) = true := hm
  simp only [Bool.and_eq_true, decide_eq_true_eq] at hm
  obtain ⟨rfl, hnx⟩ := hm
  obtain rfl := Nat.eq_of_beq_eq_true hnx
  rw [show pc + 1 - pc = 1 by omega] at hd
  simp only [stp] at hr
  split at hr
  · rename_i j a st0
    cases hb : chI h a 203 j with
    | false => rw [hb] at hr; cases hr
    | true =>
      rw [hb] at hr
      simp only [cond_true] at hr
      obtain ⟨_, rfl, k1⟩ := SKi T.2.2.2.2.1
      obtain ⟨_, rfl, hx, k2⟩ := SKr k1
      simp only [chI, Bool.and_eq_true] at hb
      exact m_fald C.1 C.2.2.2.1.1 T.1 T.2.1 (Nat.eq_of_beq_eq_true hb.1) hb.2 hd (G _ _ _ _ _ _ _ _ _ _ _ hr (T.stk k2.i))
  · cases hr

theorem w_swap (C : CX p l R s m args meth c x y mc ms) (G : Go p l e R s m args below meth c x ad0 n0 y mc ms n r h') (hr : stp none some (ev n y) (callp (hd y) (ev n y) (fun y2 as h => ev n y2 0 (padn (nl y2) as) [] h) pc nx) rk y .swap nx ls st h = some (r, h')) (hd : decode (yb y) pc = .ok (orig, nx - pc)) (hm : matchop y pc nx orig .swap = true) (T : Wt s x ad0 n0 y h' mc ms ad h H locs cells slots ls st rls rst) : W p l e R s m args below meth c H locs cells slots (QE below y x ad0 n0 r h' args s mc ms) (F0 m pc rls rst) := by
  have hm : (decide (orig = .baload) && Nat.beq nx (pc + 1)) = true := hm
  simp only [Bool.and_eq_true, decide_eq_true_eq] at hm
  obtain ⟨rfl, hnx⟩ := hm
  obtain rfl := Nat.eq_of_beq_eq_true hnx
  rw [show pc + 1 - pc = 1 by omega] at hd
  simp only [stp] at hr
  split at hr
  · rename_i j a st0
    cases hb : chI h a 103 j with
    | false => rw [hb] at hr; cases hr
    | true =>
      rw [hb] at hr
      simp only [cond_true] at hr
      obtain ⟨_, rfl, k1⟩ := SKi T.2.2.2.2.1
      obtain ⟨_, rfl, hx, k2⟩ := SKr k1
      simp only [chI, Bool.and_eq_true] at hb
      exact m_zald C.1 C.2.2.1 T.1 (Nat.eq_of_beq_eq_true hb.1) hb.2 hd (G _ _ _ _ _ _ _ _ _ _ _ hr (T.stk k2.i))
  · cases hr

theorem w_nop (C : CX p l R s m args meth c x y mc ms) (G : Go p l e R s m args below meth c x ad0 n0 y mc ms n r h') (hr : stp none some (ev n y) (callp (hd y) (ev n y) (fun y2 as h => ev n y2 0 (padn (nl y2) as) [] h) pc nx) rk y .nop nx ls st h = some (r, h')) (hd : decode (yb y) pc = .ok (orig, nx - pc)) (hm : matchop y pc nx orig .nop = true) (T : Wt s x ad0 n0 y h' mc ms ad h H locs cells slots ls st rls rst) : W p l e R s m args below meth c H locs cells slots (QE below y x ad0 n0 r h' args s mc ms) (F0 m pc rls rst) := by
  have hm : (decide (orig = .bastore) && Nat.beq nx (pc + 1)) = true := hm
  simp only [Bool.and_eq_true, decide_eq_true_eq] at hm
  obtain ⟨rfl, hnx⟩ := hm
  obtain rfl := Nat.eq_of_beq_eq_true hnx
  rw [show pc + 1 - pc = 1 by omega] at hd
  simp only [stp] at hr
  split at hr
  · rename_i v j a st0
    cases hb : (chI h a 103 j && fitc 1 v) with
    | false => rw [hb] at hr; cases hr
    | true =>
      rw [hb] at hr
      simp only [cond_true] at hr
      obtain ⟨_, rfl, k1⟩ := SKi T.2.2.2.2.1
      obtain ⟨_, rfl, k2⟩ := SKi k1
      obtain ⟨_, rfl, hx, k3⟩ := SKr k2
      simp only [chI, Bool.and_eq_true] at hb
      exact m_zast C.1 C.2.2.1 T.1 T.2.1 (Nat.eq_of_beq_eq_true hb.1.1) hb.1.2 hb.2 hd (fun H1 locs1 S1 hS1 => G _ _ _ _ _ _ _ _ _ _ _ hr (T.hp rfl S1 hS1 k3))
  · cases hr

theorem w_aaload (C : CX p l R s m args meth c x y mc ms) (G : Go p l e R s m args below meth c x ad0 n0 y mc ms n r h') (hr : stp none some (ev n y) (callp (hd y) (ev n y) (fun y2 as h => ev n y2 0 (padn (nl y2) as) [] h) pc nx) rk y .aaload nx ls st h = some (r, h')) (hd : decode (yb y) pc = .ok (orig, nx - pc)) (hm : matchop y pc nx orig .aaload = true) (T : Wt s x ad0 n0 y h' mc ms ad h H locs cells slots ls st rls rst) : W p l e R s m args below meth c H locs cells slots (QE below y x ad0 n0 r h' args s mc ms) (F0 m pc rls rst) := by
  have hm : (decide (orig = .aaload) && Nat.beq nx (pc + 1)) = true := hm
  simp only [Bool.and_eq_true, decide_eq_true_eq] at hm
  obtain ⟨rfl, hnx⟩ := hm
  obtain rfl := Nat.eq_of_beq_eq_true hnx
  rw [show pc + 1 - pc = 1 by omega] at hd
  simp only [stp] at hr
  split at hr
  · rename_i j a st0
    cases hb : ((Nat.beq (HK h a) 106 || Nat.beq (HK h a) 107) && inb j (HL h a)) with
    | false => rw [hb] at hr; cases hr
    | true =>
      rw [hb] at hr
      simp only [cond_true] at hr
      obtain ⟨_, rfl, k1⟩ := SKi T.2.2.2.2.1
      obtain ⟨_, rfl, hx, k2⟩ := SKr k1
      simp only [Bool.and_eq_true, Bool.or_eq_true] at hb
      exact m_aald C.1 C.2.2.1 T.1 rfl (by rcases hb.1 with z | z <;> have := Nat.eq_of_beq_eq_true z <;> omega) hb.2 hd (G _ _ _ _ _ _ _ _ _ _ _ hr (T.stk (k2.r (T.1.2.2.2.2.2.2.1 _ _))))
  · cases hr

theorem w_dupx2 (C : CX p l R s m args meth c x y mc ms) (G : Go p l e R s m args below meth c x ad0 n0 y mc ms n r h') (hr : stp none some (ev n y) (callp (hd y) (ev n y) (fun y2 as h => ev n y2 0 (padn (nl y2) as) [] h) pc nx) rk y .dup_x2 nx ls st h = some (r, h')) (hd : decode (yb y) pc = .ok (orig, nx - pc)) (hm : matchop y pc nx orig .dup_x2 = true) (T : Wt s x ad0 n0 y h' mc ms ad h H locs cells slots ls st rls rst) : W p l e R s m args below meth c H locs cells slots (QE below y x ad0 n0 r h' args s mc ms) (F0 m pc rls rst) := by
  have hm : (decide (orig = .aaload) && Nat.beq nx (pc + 1)) = true := hm
  simp only [Bool.and_eq_true, decide_eq_true_eq] at hm
  obtain ⟨rfl, hnx⟩ := hm
  obtain rfl := Nat.eq_of_beq_eq_true hnx
  rw [show pc + 1 - pc = 1 by omega] at hd
  simp only [stp] at hr
  split at hr
  · rename_i j a st0
    cases hb : chI h a 108 j with
    | false => rw [hb] at hr; cases hr
    | true =>
      rw [hb] at hr
      simp only [cond_true] at hr
      obtain ⟨_, rfl, k1⟩ := SKi T.2.2.2.2.1
      obtain ⟨_, rfl, hx, k2⟩ := SKr k1
      simp only [chI, Bool.and_eq_true] at hb
      exact m_aald C.1 C.2.2.1 T.1 rfl (by have := Nat.eq_of_beq_eq_true hb.1; omega) hb.2 hd (G _ _ _ _ _ _ _ _ _ _ _ hr (T.stk (k2.r (T.1.2.2.2.2.2.2.1 _ _))))
  · cases hr

theorem w_iastore (C : CX p l R s m args meth c x y mc ms) (G : Go p l e R s m args below meth c x ad0 n0 y mc ms n r h') (hr : stp none some (ev n y) (callp (hd y) (ev n y) (fun y2 as h => ev n y2 0 (padn (nl y2) as) [] h) pc nx) rk y .iastore nx ls st h = some (r, h')) (hd : decode (yb y) pc = .ok (orig, nx - pc)) (hm : matchop y pc nx orig .iastore = true) (T : Wt s x ad0 n0 y h' mc ms ad h H locs cells slots ls st rls rst) : W p l e R s m args below meth c H locs cells slots (QE below y x ad0 n0 r h' args s mc ms) (F0 m pc rls rst) := by
  have hm : (decide (orig = .iastore) && Nat.beq nx (pc + 1)) = true := hm
  simp only [Bool.and_eq_true, decide_eq_true_eq] at hm
  obtain ⟨rfl, hnx⟩ := hm
  obtain rfl := Nat.eq_of_beq_eq_true hnx
  rw [show pc + 1 - pc = 1 by omega] at hd
  simp only [stp] at hr
  split at hr
  · rename_i v j a st0
    cases hb : chI h a 100 j with
    | false => rw [hb] at hr; cases hr
    | true =>
      rw [hb] at hr
      simp only [cond_true] at hr
      obtain ⟨_, rfl, k1⟩ := SKi T.2.2.2.2.1
      obtain ⟨_, rfl, k2⟩ := SKi k1
      obtain ⟨_, rfl, hx, k3⟩ := SKr k2
      simp only [chI, Bool.and_eq_true] at hb
      exact m_iast C.1 C.2.2.1 T.1 T.2.1 (Nat.eq_of_beq_eq_true hb.1) hb.2 hd (fun H1 locs1 S1 hS1 => G _ _ _ _ _ _ _ _ _ _ _ hr (T.hp rfl S1 hS1 k3))
  · cases hr

theorem w_castore (C : CX p l R s m args meth c x y mc ms) (G : Go p l e R s m args below meth c x ad0 n0 y mc ms n r h') (hr : stp none some (ev n y) (callp (hd y) (ev n y) (fun y2 as h => ev n y2 0 (padn (nl y2) as) [] h) pc nx) rk y .castore nx ls st h = some (r, h')) (hd : decode (yb y) pc = .ok (orig, nx - pc)) (hm : matchop y pc nx orig .castore = true) (T : Wt s x ad0 n0 y h' mc ms ad h H locs cells slots ls st rls rst) : W p l e R s m args below meth c H locs cells slots (QE below y x ad0 n0 r h' args s mc ms) (F0 m pc rls rst) := by
  have hm : (decide (orig = .castore) && Nat.beq nx (pc + 1)) = true := hm
  simp only [Bool.and_eq_true, decide_eq_true_eq] at hm
  obtain ⟨rfl, hnx⟩ := hm
  obtain rfl := Nat.eq_of_beq_eq_true hnx
  rw [show pc + 1 - pc = 1 by omega] at hd
  simp only [stp] at hr
  split at hr
  · rename_i v j a st0
    cases hb : (chI h a 101 j && fitc 2 v) with
    | false => rw [hb] at hr; cases hr
    | true =>
      rw [hb] at hr
      simp only [cond_true] at hr
      obtain ⟨_, rfl, k1⟩ := SKi T.2.2.2.2.1
      obtain ⟨_, rfl, k2⟩ := SKi k1
      obtain ⟨_, rfl, hx, k3⟩ := SKr k2
      simp only [chI, Bool.and_eq_true] at hb
      exact m_cast C.1 C.2.2.1 T.1 T.2.1 (Nat.eq_of_beq_eq_true hb.1.1) hb.1.2 hb.2 hd (fun H1 locs1 S1 hS1 => G _ _ _ _ _ _ _ _ _ _ _ hr (T.hp rfl S1 hS1 k3))
  · cases hr

theorem w_bastore (C : CX p l R s m args meth c x y mc ms) (G : Go p l e R s m args below meth c x ad0 n0 y mc ms n r h') (hr : stp none some (ev n y) (callp (hd y) (ev n y) (fun y2 as h => ev n y2 0 (padn (nl y2) as) [] h) pc nx) rk y .bastore nx ls st h = some (r, h')) (hd : decode (yb y) pc = .ok (orig, nx - pc)) (hm : matchop y pc nx orig .bastore = true) (T : Wt s x ad0 n0 y h' mc ms ad h H locs cells slots ls st rls rst) : W p l e R s m args below meth c H locs cells slots (QE below y x ad0 n0 r h' args s mc ms) (F0 m pc rls rst) := by
  have hm : (decide (orig = .bastore) && Nat.beq nx (pc + 1)) = true := hm
  simp only [Bool.and_eq_true, decide_eq_true_eq] at hm
  obtain ⟨rfl, hnx⟩ := hm
  obtain rfl := Nat.eq_of_beq_eq_true hnx
  rw [show pc + 1 - pc = 1 by omega] at hd
  simp only [stp] at hr
  split at hr
  · rename_i v j a st0
    cases hb : (chI h a 102 j && fitc 3 v) with
    | false => rw [hb] at hr; cases hr
    | true =>
      rw [hb] at hr
      simp only [cond_true] at hr
      obtain ⟨_, rfl, k1⟩ := SKi T.2.2.2.2.1
      obtain ⟨_, rfl, k2⟩ := SKi k1
      obtain ⟨_, rfl, hx, k3⟩ := SKr k2
      simp only [chI, Bool.and_eq_true] at hb
      exact m_bast C.1 C.2.2.1 T.1 T.2.1 (Nat.eq_of_beq_eq_true hb.1.1) hb.1.2 hb.2 hd (fun H1 locs1 S1 hS1 => G _ _ _ _ _ _ _ _ _ _ _ hr (T.hp rfl S1 hS1 k3))
  · cases hr

theorem w_aastore (C : CX p l R s m args meth c x y mc ms) (G : Go p l e R s m args below meth c x ad0 n0 y mc ms n r h') (hr : stp none some (ev n y) (callp (hd y) (ev n y) (fun y2 as h => ev n y2 0 (padn (nl y2) as) [] h) pc nx) rk y .aastore nx ls st h = some (r, h')) (hd : decode (yb y) pc = .ok (orig, nx - pc)) (hm : matchop y pc nx orig .aastore = true) (T : Wt s x ad0 n0 y h' mc ms ad h H locs cells slots ls st rls rst) : W p l e R s m args below meth c H locs cells slots (QE below y x ad0 n0 r h' args s mc ms) (F0 m pc rls rst) := by
  have hm : (decide (orig = .aastore) && Nat.beq nx (pc + 1)) = true := hm
  simp only [Bool.and_eq_true, decide_eq_true_eq] at hm
  obtain ⟨rfl, hnx⟩ := hm
  obtain rfl := Nat.eq_of_beq_eq_true hnx
  rw [show pc + 1 - pc = 1 by omega] at hd
  simp only [stp] at hr
  split at hr
  · rename_i v j a st0
    cases hb : (chI h a 107 j && ckK h v 2) with
    | false => rw [hb] at hr; cases hr
    | true =>
      rw [hb] at hr
      simp only [cond_true] at hr
      obtain ⟨_, rfl, hv, k1⟩ := SKr T.2.2.2.2.1
      obtain ⟨_, rfl, k2⟩ := SKi k1
      obtain ⟨_, rfl, hx, k3⟩ := SKr k2
      simp only [chI, Bool.and_eq_true] at hb
      exact m_aast C.1 C.2.2.1 T.1 T.2.1 (Nat.eq_of_beq_eq_true hb.1.1) (Nat.eq_of_beq_eq_true hb.2) hb.1.2 hd (fun H1 locs1 S1 hS1 => G _ _ _ _ _ _ _ _ _ _ _ hr (T.hp rfl S1 hS1 k3))
  · cases hr

theorem w_checkcast {z : Nat} (hT2 : TOK2) (C : CX p l R s m args meth c x y mc ms) (G : Go p l e R s m args below meth c x ad0 n0 y mc ms n r h') (hr : stp none some (ev n y) (callp (hd y) (ev n y) (fun y2 as h => ev n y2 0 (padn (nl y2) as) [] h) pc nx) rk y (.checkcast z) nx ls st h = some (r, h')) (hd : decode (yb y) pc = .ok (orig, nx - pc)) (hm : matchop y pc nx orig (.checkcast z) = true) (T : Wt s x ad0 n0 y h' mc ms ad h H locs cells slots ls st rls rst) : W p l e R s m args below meth c H locs cells slots (QE below y x ad0 n0 r h' args s mc ms) (F0 m pc rls rst) := by
  simp only [stp] at hr
  split at hr
  · rename_i a st0
    cases hb : ckK h a 102 with
    | false => rw [hb] at hr; cases hr
    | true =>
      rw [hb] at hr
      simp only [cond_true] at hr
      obtain ⟨_, rfl, hx, k1⟩ := SKr T.2.2.2.2.1
      have hk := Nat.eq_of_beq_eq_true hb
      simp only [matchop, Bool.and_eq_true] at hm
      obtain ⟨hnx, hm⟩ := hm
      obtain rfl := Nat.eq_of_beq_eq_true hnx
      rw [show pc + 3 - pc = 3 by omega] at hd
      split at hm
      · exact m_ckb hT2 C.1 C.2.2.1 T.1 hm hk hd (G _ _ _ _ _ _ _ _ _ _ _ hr (T.stk (k1.r hx)))
      · cases hm
  · cases hr

theorem w_arraylength (C : CX p l R s m args meth c x y mc ms) (G : Go p l e R s m args below meth c x ad0 n0 y mc ms n r h') (hr : stp none some (ev n y) (callp (hd y) (ev n y) (fun y2 as h => ev n y2 0 (padn (nl y2) as) [] h) pc nx) rk y .arraylength nx ls st h = some (r, h')) (hd : decode (yb y) pc = .ok (orig, nx - pc)) (hm : matchop y pc nx orig .arraylength = true) (T : Wt s x ad0 n0 y h' mc ms ad h H locs cells slots ls st rls rst) : W p l e R s m args below meth c H locs cells slots (QE below y x ad0 n0 r h' args s mc ms) (F0 m pc rls rst) := by
  have hm : (decide (orig = .arraylength) && Nat.beq nx (pc + 1)) = true := hm
  simp only [Bool.and_eq_true, decide_eq_true_eq] at hm
  obtain ⟨rfl, hnx⟩ := hm
  obtain rfl := Nat.eq_of_beq_eq_true hnx
  rw [show pc + 1 - pc = 1 by omega] at hd
  simp only [stp] at hr
  split at hr
  · rename_i a st0
    cases hb : Nat.ble 100 (HK h a) with
    | false => rw [hb] at hr; cases hr
    | true =>
      rw [hb] at hr
      simp only [cond_true] at hr
      obtain ⟨_, rfl, hx, k1⟩ := SKr T.2.2.2.2.1
      exact m_alen C.1 C.2.2.1 C.2.2.2.1.1 T.1 T.2.1 hb hd (G _ _ _ _ _ _ _ _ _ _ _ hr (T.stk k1.i))
  · cases hr

theorem w_new {k : Nat} (hT : TOK) (C : CX p l R s m args meth c x y mc ms) (G : Go p l e R s m args below meth c x ad0 n0 y mc ms n r h') (hr : stp none some (ev n y) (callp (hd y) (ev n y) (fun y2 as h => ev n y2 0 (padn (nl y2) as) [] h) pc nx) rk y (.new k) nx ls st h = some (r, h')) (hd : decode (yb y) pc = .ok (orig, nx - pc)) (hm : matchop y pc nx orig (.new k) = true) (T : Wt s x ad0 n0 y h' mc ms ad h H locs cells slots ls st rls rst) : W p l e R s m args below meth c H locs cells slots (QE below y x ad0 n0 r h' args s mc ms) (F0 m pc rls rst) := by
  simp only [stp] at hr
  simp only [matchop, Bool.and_eq_true] at hm
  obtain ⟨⟨hnx, hl⟩, hm⟩ := hm
  obtain rfl := Nat.eq_of_beq_eq_true hnx
  have hl := Nat.eq_of_beq_eq_true hl
  rw [show pc + 3 - pc = 3 by omega] at hd
  split at hm
  · have hmo := ev_mo _ _ _ _ _ _ _ _ hr
    have b1 : HC h + 1 ≤ HC h' := hmo.2.1
    have b2 : HS h + k % 32 ≤ HS h' := hmo.2.2
    have t1 := T.2.2.2.2.2.1
    have t2 := T.2.2.2.2.2.2
    have c1 := C.2.2.2.2.2.2.2.2.2.2.2.1
    have c2 := C.2.2.2.2.2.2.2.2.2.2.2.2.1
    rw [hl] at b2
    have h31 := T.1.2.2.1
    refine m_new hT C.1 C.2.2.1 C.2.2.2.2.2.1 T.1 T.2.1 C.2.2.2.2.1 hm hd (by omega) (by omega) (fun q H1 S1 hS1 => ?_)
    rw [hl] at hr
    exact G _ _ _ _ _ _ _ _ _ _ _ hr (T.grow adN_ext (Nat.le_succ _) rfl rfl (ev_mo _ _ _ _ _ _ _ _ hr) S1 hS1 ((T.2.2.2.2.1.ext adN_ext (Nat.le_succ _)).r (Nat.lt_succ_self _)))
  · cases hm

end WALK4
