/-! SOUNDNESS, instruction by instruction -/
noncomputable def QE (below : List Frame) (y : Nat) (x : Ctx) (ad0 : Nat → Option Nat) (n0 : Nat) (r : Except Nat Value) (h' : Hp) (args : Array Value) (s : State) (mc ms : Nat) : State → Prop := vx_MQ below (QC y x ad0 n0 r h') (XCC x ad0 n0 r h') args s mc ms (fr x)
/-- the runs of fuel n are followed -/
def Go (p : Program) (l : Launch) (e : Env) (R : Room) (s : State) (m : MethodId) (args : Array Value) (below : List Frame) (meth : Method) (c : Code) (x : Ctx) (ad0 : Nat → Option Nat) (n0 y mc ms n : Nat) (r : Except Nat Value) (h' : Hp) : Prop :=
  ∀ (pc : Nat) (ls st : List Value) (h : Hp) (ad : Nat → Option Nat) (rls : Array Slot) (rst : List Value) (H : Heap) (locs : List Loc) (cells slots : Nat), ev n y pc ls st h = some (r, h') → Wt s x ad0 n0 y h' mc ms ad h H locs cells slots ls st rls rst → W p l e R s m args below meth c H locs cells slots (QE below y x ad0 n0 r h' args s mc ms) (F0 m pc rls rst)
section WALK2
variable {p : Program} {l : Launch} {e : Env} {R : Room} {s : State} {m : MethodId} {args : Array Value} {below : List Frame} {meth : Method} {c : Code} {H : Heap} {locs : List Loc} {cells slots : Nat}
variable {x : Ctx} {ad ad0 : Nat → Option Nat} {h h' : Hp} {y pc nx n0 mc ms n : Nat} {rls : Array Slot} {ls st rst : List Value} {r : Except Nat Value} {orig : Instr}

theorem w_iadd (C : CX p l R s m args meth c x y mc ms) (G : Go p l e R s m args below meth c x ad0 n0 y mc ms n r h') (hr : stp none some (ev n y) (callp (hd y) (ev n y) (fun y2 as h => ev n y2 0 (padn (nl y2) as) [] h) pc nx) rk y .iadd nx ls st h = some (r, h')) (hd : decode (yb y) pc = .ok (orig, nx - pc)) (hm : matchop y pc nx orig .iadd = true) (T : Wt s x ad0 n0 y h' mc ms ad h H locs cells slots ls st rls rst) : W p l e R s m args below meth c H locs cells slots (QE below y x ad0 n0 r h' args s mc ms) (F0 m pc rls rst) := by
  have hm : (decide (orig = .iadd) && Nat.beq nx (pc + 1)) = true := hm
  simp only [Bool.and_eq_true, decide_eq_true_eq] at hm
  obtain ⟨rfl, hnx⟩ := hm
  obtain rfl := Nat.eq_of_beq_eq_true hnx
  rw [show pc + 1 - pc = 1 by omega] at hd
  simp only [stp] at hr
  split at hr
  · obtain ⟨_, rfl, k⟩ := SKi T.2.2.2.2.1
    obtain ⟨_, rfl, k2⟩ := SKi k
    exact lv_iadd C.1.1 C.1.2.1 hd (G _ _ _ _ _ _ _ _ _ _ _ hr (T.stk k2.i))
  · cases hr

theorem w_isub (C : CX p l R s m args meth c x y mc ms) (G : Go p l e R s m args below meth c x ad0 n0 y mc ms n r h') (hr : stp none some (ev n y) (callp (hd y) (ev n y) (fun y2 as h => ev n y2 0 (padn (nl y2) as) [] h) pc nx) rk y .isub nx ls st h = some (r, h')) (hd : decode (yb y) pc = .ok (orig, nx - pc)) (hm : matchop y pc nx orig .isub = true) (T : Wt s x ad0 n0 y h' mc ms ad h H locs cells slots ls st rls rst) : W p l e R s m args below meth c H locs cells slots (QE below y x ad0 n0 r h' args s mc ms) (F0 m pc rls rst) := by
  have hm : (decide (orig = .isub) && Nat.beq nx (pc + 1)) = true := hm
  simp only [Bool.and_eq_true, decide_eq_true_eq] at hm
  obtain ⟨rfl, hnx⟩ := hm
  obtain rfl := Nat.eq_of_beq_eq_true hnx
  rw [show pc + 1 - pc = 1 by omega] at hd
  simp only [stp] at hr
  split at hr
  · obtain ⟨_, rfl, k⟩ := SKi T.2.2.2.2.1
    obtain ⟨_, rfl, k2⟩ := SKi k
    exact lv_isub C.1.1 C.1.2.1 hd (G _ _ _ _ _ _ _ _ _ _ _ hr (T.stk k2.i))
  · cases hr

theorem w_imul (C : CX p l R s m args meth c x y mc ms) (G : Go p l e R s m args below meth c x ad0 n0 y mc ms n r h') (hr : stp none some (ev n y) (callp (hd y) (ev n y) (fun y2 as h => ev n y2 0 (padn (nl y2) as) [] h) pc nx) rk y .imul nx ls st h = some (r, h')) (hd : decode (yb y) pc = .ok (orig, nx - pc)) (hm : matchop y pc nx orig .imul = true) (T : Wt s x ad0 n0 y h' mc ms ad h H locs cells slots ls st rls rst) : W p l e R s m args below meth c H locs cells slots (QE below y x ad0 n0 r h' args s mc ms) (F0 m pc rls rst) := by
  have hm : (decide (orig = .imul) && Nat.beq nx (pc + 1)) = true := hm
  simp only [Bool.and_eq_true, decide_eq_true_eq] at hm
  obtain ⟨rfl, hnx⟩ := hm
  obtain rfl := Nat.eq_of_beq_eq_true hnx
  rw [show pc + 1 - pc = 1 by omega] at hd
  simp only [stp] at hr
  split at hr
  · obtain ⟨_, rfl, k⟩ := SKi T.2.2.2.2.1
    obtain ⟨_, rfl, k2⟩ := SKi k
    exact lv_imul C.1.1 C.1.2.1 hd (G _ _ _ _ _ _ _ _ _ _ _ hr (T.stk k2.i))
  · cases hr

theorem w_iand (C : CX p l R s m args meth c x y mc ms) (G : Go p l e R s m args below meth c x ad0 n0 y mc ms n r h') (hr : stp none some (ev n y) (callp (hd y) (ev n y) (fun y2 as h => ev n y2 0 (padn (nl y2) as) [] h) pc nx) rk y .iand nx ls st h = some (r, h')) (hd : decode (yb y) pc = .ok (orig, nx - pc)) (hm : matchop y pc nx orig .iand = true) (T : Wt s x ad0 n0 y h' mc ms ad h H locs cells slots ls st rls rst) : W p l e R s m args below meth c H locs cells slots (QE below y x ad0 n0 r h' args s mc ms) (F0 m pc rls rst) := by
  have hm : (decide (orig = .iand) && Nat.beq nx (pc + 1)) = true := hm
  simp only [Bool.and_eq_true, decide_eq_true_eq] at hm
  obtain ⟨rfl, hnx⟩ := hm
  obtain rfl := Nat.eq_of_beq_eq_true hnx
  rw [show pc + 1 - pc = 1 by omega] at hd
  simp only [stp] at hr
  split at hr
  · obtain ⟨_, rfl, k⟩ := SKi T.2.2.2.2.1
    obtain ⟨_, rfl, k2⟩ := SKi k
    exact lv_iand C.1.1 C.1.2.1 hd (G _ _ _ _ _ _ _ _ _ _ _ hr (T.stk k2.i))
  · cases hr

theorem w_ior (C : CX p l R s m args meth c x y mc ms) (G : Go p l e R s m args below meth c x ad0 n0 y mc ms n r h') (hr : stp none some (ev n y) (callp (hd y) (ev n y) (fun y2 as h => ev n y2 0 (padn (nl y2) as) [] h) pc nx) rk y .ior nx ls st h = some (r, h')) (hd : decode (yb y) pc = .ok (orig, nx - pc)) (hm : matchop y pc nx orig .ior = true) (T : Wt s x ad0 n0 y h' mc ms ad h H locs cells slots ls st rls rst) : W p l e R s m args below meth c H locs cells slots (QE below y x ad0 n0 r h' args s mc ms) (F0 m pc rls rst) := by
  have hm : (decide (orig = .ior) && Nat.beq nx (pc + 1)) = true := hm
  simp only [Bool.and_eq_true, decide_eq_true_eq] at hm
  obtain ⟨rfl, hnx⟩ := hm
  obtain rfl := Nat.eq_of_beq_eq_true hnx
  rw [show pc + 1 - pc = 1 by omega] at hd
  simp only [stp] at hr
  split at hr
  · obtain ⟨_, rfl, k⟩ := SKi T.2.2.2.2.1
    obtain ⟨_, rfl, k2⟩ := SKi k
    exact lv_ior C.1.1 C.1.2.1 hd (G _ _ _ _ _ _ _ _ _ _ _ hr (T.stk k2.i))
  · cases hr

theorem w_ixor (C : CX p l R s m args meth c x y mc ms) (G : Go p l e R s m args below meth c x ad0 n0 y mc ms n r h') (hr : stp none some (ev n y) (callp (hd y) (ev n y) (fun y2 as h => ev n y2 0 (padn (nl y2) as) [] h) pc nx) rk y .ixor nx ls st h = some (r, h')) (hd : decode (yb y) pc = .ok (orig, nx - pc)) (hm : matchop y pc nx orig .ixor = true) (T : Wt s x ad0 n0 y h' mc ms ad h H locs cells slots ls st rls rst) : W p l e R s m args below meth c H locs cells slots (QE below y x ad0 n0 r h' args s mc ms) (F0 m pc rls rst) := by
  have hm : (decide (orig = .ixor) && Nat.beq nx (pc + 1)) = true := hm
  simp only [Bool.and_eq_true, decide_eq_true_eq] at hm
  obtain ⟨rfl, hnx⟩ := hm
  obtain rfl := Nat.eq_of_beq_eq_true hnx
  rw [show pc + 1 - pc = 1 by omega] at hd
  simp only [stp] at hr
  split at hr
  · obtain ⟨_, rfl, k⟩ := SKi T.2.2.2.2.1
    obtain ⟨_, rfl, k2⟩ := SKi k
    exact lv_ixor C.1.1 C.1.2.1 hd (G _ _ _ _ _ _ _ _ _ _ _ hr (T.stk k2.i))
  · cases hr

theorem w_ishl (C : CX p l R s m args meth c x y mc ms) (G : Go p l e R s m args below meth c x ad0 n0 y mc ms n r h') (hr : stp none some (ev n y) (callp (hd y) (ev n y) (fun y2 as h => ev n y2 0 (padn (nl y2) as) [] h) pc nx) rk y .ishl nx ls st h = some (r, h')) (hd : decode (yb y) pc = .ok (orig, nx - pc)) (hm : matchop y pc nx orig .ishl = true) (T : Wt s x ad0 n0 y h' mc ms ad h H locs cells slots ls st rls rst) : W p l e R s m args below meth c H locs cells slots (QE below y x ad0 n0 r h' args s mc ms) (F0 m pc rls rst) := by
  have hm : (decide (orig = .ishl) && Nat.beq nx (pc + 1)) = true := hm
  simp only [Bool.and_eq_true, decide_eq_true_eq] at hm
  obtain ⟨rfl, hnx⟩ := hm
  obtain rfl := Nat.eq_of_beq_eq_true hnx
  rw [show pc + 1 - pc = 1 by omega] at hd
  simp only [stp] at hr
  split at hr
  · obtain ⟨_, rfl, k⟩ := SKi T.2.2.2.2.1
    obtain ⟨_, rfl, k2⟩ := SKi k
    exact lv_ishl C.1.1 C.1.2.1 hd (G _ _ _ _ _ _ _ _ _ _ _ hr (T.stk k2.i))
  · cases hr

theorem w_ishr (C : CX p l R s m args meth c x y mc ms) (G : Go p l e R s m args below meth c x ad0 n0 y mc ms n r h') (hr : stp none some (ev n y) (callp (hd y) (ev n y) (fun y2 as h => ev n y2 0 (padn (nl y2) as) [] h) pc nx) rk y .ishr nx ls st h = some (r, h')) (hd : decode (yb y) pc = .ok (orig, nx - pc)) (hm : matchop y pc nx orig .ishr = true) (T : Wt s x ad0 n0 y h' mc ms ad h H locs cells slots ls st rls rst) : W p l e R s m args below meth c H locs cells slots (QE below y x ad0 n0 r h' args s mc ms) (F0 m pc rls rst) := by
  have hm : (decide (orig = .ishr) && Nat.beq nx (pc + 1)) = true := hm
  simp only [Bool.and_eq_true, decide_eq_true_eq] at hm
  obtain ⟨rfl, hnx⟩ := hm
  obtain rfl := Nat.eq_of_beq_eq_true hnx
  rw [show pc + 1 - pc = 1 by omega] at hd
  simp only [stp] at hr
  split at hr
  · obtain ⟨_, rfl, k⟩ := SKi T.2.2.2.2.1
    obtain ⟨_, rfl, k2⟩ := SKi k
    exact lv_ishr C.1.1 C.1.2.1 hd (G _ _ _ _ _ _ _ _ _ _ _ hr (T.stk k2.i))
  · cases hr

theorem w_iushr (C : CX p l R s m args meth c x y mc ms) (G : Go p l e R s m args below meth c x ad0 n0 y mc ms n r h') (hr : stp none some (ev n y) (callp (hd y) (ev n y) (fun y2 as h => ev n y2 0 (padn (nl y2) as) [] h) pc nx) rk y .iushr nx ls st h = some (r, h')) (hd : decode (yb y) pc = .ok (orig, nx - pc)) (hm : matchop y pc nx orig .iushr = true) (T : Wt s x ad0 n0 y h' mc ms ad h H locs cells slots ls st rls rst) : W p l e R s m args below meth c H locs cells slots (QE below y x ad0 n0 r h' args s mc ms) (F0 m pc rls rst) := by
  have hm : (decide (orig = .iushr) && Nat.beq nx (pc + 1)) = true := hm
  simp only [Bool.and_eq_true, decide_eq_true_eq] at hm
  obtain ⟨rfl, hnx⟩ := hm
  obtain rfl := Nat.eq_of_beq_eq_true hnx
  rw [show pc + 1 - pc = 1 by omega] at hd
  simp only [stp] at hr
  split at hr
  · obtain ⟨_, rfl, k⟩ := SKi T.2.2.2.2.1
    obtain ⟨_, rfl, k2⟩ := SKi k
    exact lv_iushr C.1.1 C.1.2.1 hd rfl (G _ _ _ _ _ _ _ _ _ _ _ hr (T.stk k2.i))
  · cases hr

theorem w_idiv (C : CX p l R s m args meth c x y mc ms) (G : Go p l e R s m args below meth c x ad0 n0 y mc ms n r h') (hr : stp none some (ev n y) (callp (hd y) (ev n y) (fun y2 as h => ev n y2 0 (padn (nl y2) as) [] h) pc nx) rk y .idiv nx ls st h = some (r, h')) (hd : decode (yb y) pc = .ok (orig, nx - pc)) (hm : matchop y pc nx orig .idiv = true) (T : Wt s x ad0 n0 y h' mc ms ad h H locs cells slots ls st rls rst) : W p l e R s m args below meth c H locs cells slots (QE below y x ad0 n0 r h' args s mc ms) (F0 m pc rls rst) := by
  have hm : (decide (orig = .idiv) && Nat.beq nx (pc + 1)) = true := hm
  simp only [Bool.and_eq_true, decide_eq_true_eq] at hm
  obtain ⟨rfl, hnx⟩ := hm
  obtain rfl := Nat.eq_of_beq_eq_true hnx
  rw [show pc + 1 - pc = 1 by omega] at hd
  simp only [stp] at hr
  split at hr
  · split at hr
    · cases hr
    · rename_i hz
      obtain ⟨_, rfl, k⟩ := SKi T.2.2.2.2.1
      obtain ⟨_, rfl, k2⟩ := SKi k
      exact lv_idiv C.1.1 C.1.2.1 hd hz (G _ _ _ _ _ _ _ _ _ _ _ hr (T.stk k2.i))
  · cases hr

theorem w_irem (C : CX p l R s m args meth c x y mc ms) (G : Go p l e R s m args below meth c x ad0 n0 y mc ms n r h') (hr : stp none some (ev n y) (callp (hd y) (ev n y) (fun y2 as h => ev n y2 0 (padn (nl y2) as) [] h) pc nx) rk y .irem nx ls st h = some (r, h')) (hd : decode (yb y) pc = .ok (orig, nx - pc)) (hm : matchop y pc nx orig .irem = true) (T : Wt s x ad0 n0 y h' mc ms ad h H locs cells slots ls st rls rst) : W p l e R s m args below meth c H locs cells slots (QE below y x ad0 n0 r h' args s mc ms) (F0 m pc rls rst) := by
  have hm : (decide (orig = .irem) && Nat.beq nx (pc + 1)) = true := hm
  simp only [Bool.and_eq_true, decide_eq_true_eq] at hm
  obtain ⟨rfl, hnx⟩ := hm
  obtain rfl := Nat.eq_of_beq_eq_true hnx
  rw [show pc + 1 - pc = 1 by omega] at hd
  simp only [stp] at hr
  split at hr
  · split at hr
    · cases hr
    · rename_i hz
      obtain ⟨_, rfl, k⟩ := SKi T.2.2.2.2.1
      obtain ⟨_, rfl, k2⟩ := SKi k
      exact lv_irem C.1.1 C.1.2.1 hd hz (G _ _ _ _ _ _ _ _ _ _ _ hr (T.stk k2.i))
  · cases hr

theorem w_ineg (C : CX p l R s m args meth c x y mc ms) (G : Go p l e R s m args below meth c x ad0 n0 y mc ms n r h') (hr : stp none some (ev n y) (callp (hd y) (ev n y) (fun y2 as h => ev n y2 0 (padn (nl y2) as) [] h) pc nx) rk y .ineg nx ls st h = some (r, h')) (hd : decode (yb y) pc = .ok (orig, nx - pc)) (hm : matchop y pc nx orig .ineg = true) (T : Wt s x ad0 n0 y h' mc ms ad h H locs cells slots ls st rls rst) : W p l e R s m args below meth c H locs cells slots (QE below y x ad0 n0 r h' args s mc ms) (F0 m pc rls rst) := by
  have hm : (decide (orig = .ineg) && Nat.beq nx (pc + 1)) = true := hm
  simp only [Bool.and_eq_true, decide_eq_true_eq] at hm
  obtain ⟨rfl, hnx⟩ := hm
  obtain rfl := Nat.eq_of_beq_eq_true hnx
  rw [show pc + 1 - pc = 1 by omega] at hd
  simp only [stp] at hr
  split at hr
  · obtain ⟨_, rfl, k⟩ := SKi T.2.2.2.2.1
    exact lv_ineg C.1.1 C.1.2.1 hd (G _ _ _ _ _ _ _ _ _ _ _ hr (T.stk k.i))
  · cases hr

theorem w_i2b (C : CX p l R s m args meth c x y mc ms) (G : Go p l e R s m args below meth c x ad0 n0 y mc ms n r h') (hr : stp none some (ev n y) (callp (hd y) (ev n y) (fun y2 as h => ev n y2 0 (padn (nl y2) as) [] h) pc nx) rk y .i2b nx ls st h = some (r, h')) (hd : decode (yb y) pc = .ok (orig, nx - pc)) (hm : matchop y pc nx orig .i2b = true) (T : Wt s x ad0 n0 y h' mc ms ad h H locs cells slots ls st rls rst) : W p l e R s m args below meth c H locs cells slots (QE below y x ad0 n0 r h' args s mc ms) (F0 m pc rls rst) := by
  have hm : (decide (orig = .i2b) && Nat.beq nx (pc + 1)) = true := hm
  simp only [Bool.and_eq_true, decide_eq_true_eq] at hm
  obtain ⟨rfl, hnx⟩ := hm
  obtain rfl := Nat.eq_of_beq_eq_true hnx
  rw [show pc + 1 - pc = 1 by omega] at hd
  simp only [stp] at hr
  split at hr
  · obtain ⟨_, rfl, k⟩ := SKi T.2.2.2.2.1
    exact lv_i2b C.1.1 C.1.2.1 hd rfl (G _ _ _ _ _ _ _ _ _ _ _ hr (T.stk k.i))
  · cases hr

theorem w_i2c (C : CX p l R s m args meth c x y mc ms) (G : Go p l e R s m args below meth c x ad0 n0 y mc ms n r h') (hr : stp none some (ev n y) (callp (hd y) (ev n y) (fun y2 as h => ev n y2 0 (padn (nl y2) as) [] h) pc nx) rk y .i2c nx ls st h = some (r, h')) (hd : decode (yb y) pc = .ok (orig, nx - pc)) (hm : matchop y pc nx orig .i2c = true) (T : Wt s x ad0 n0 y h' mc ms ad h H locs cells slots ls st rls rst) : W p l e R s m args below meth c H locs cells slots (QE below y x ad0 n0 r h' args s mc ms) (F0 m pc rls rst) := by
  have hm : (decide (orig = .i2c) && Nat.beq nx (pc + 1)) = true := hm
  simp only [Bool.and_eq_true, decide_eq_true_eq] at hm
  obtain ⟨rfl, hnx⟩ := hm
  obtain rfl := Nat.eq_of_beq_eq_true hnx
  rw [show pc + 1 - pc = 1 by omega] at hd
  simp only [stp] at hr
  split at hr
  · obtain ⟨_, rfl, k⟩ := SKi T.2.2.2.2.1
    exact lv_i2c C.1.1 C.1.2.1 hd rfl (G _ _ _ _ _ _ _ _ _ _ _ hr (T.stk k.i))
  · cases hr

theorem w_i2l (C : CX p l R s m args meth c x y mc ms) (G : Go p l e R s m args below meth c x ad0 n0 y mc ms n r h') (hr : stp none some (ev n y) (callp (hd y) (ev n y) (fun y2 as h => ev n y2 0 (padn (nl y2) as) [] h) pc nx) rk y .i2l nx ls st h = some (r, h')) (hd : decode (yb y) pc = .ok (orig, nx - pc)) (hm : matchop y pc nx orig .i2l = true) (T : Wt s x ad0 n0 y h' mc ms ad h H locs cells slots ls st rls rst) : W p l e R s m args below meth c H locs cells slots (QE below y x ad0 n0 r h' args s mc ms) (F0 m pc rls rst) := by
  have hm : (decide (orig = .i2l) && Nat.beq nx (pc + 1)) = true := hm
  simp only [Bool.and_eq_true, decide_eq_true_eq] at hm
  obtain ⟨rfl, hnx⟩ := hm
  obtain rfl := Nat.eq_of_beq_eq_true hnx
  rw [show pc + 1 - pc = 1 by omega] at hd
  simp only [stp] at hr
  split at hr
  · obtain ⟨_, rfl, k⟩ := SKi T.2.2.2.2.1
    exact lv_i2l C.1.1 C.1.2.1 hd rfl (G _ _ _ _ _ _ _ _ _ _ _ hr (T.stk k.l))
  · cases hr

theorem w_i2d (C : CX p l R s m args meth c x y mc ms) (G : Go p l e R s m args below meth c x ad0 n0 y mc ms n r h') (hr : stp none some (ev n y) (callp (hd y) (ev n y) (fun y2 as h => ev n y2 0 (padn (nl y2) as) [] h) pc nx) rk y .i2d nx ls st h = some (r, h')) (hd : decode (yb y) pc = .ok (orig, nx - pc)) (hm : matchop y pc nx orig .i2d = true) (T : Wt s x ad0 n0 y h' mc ms ad h H locs cells slots ls st rls rst) : W p l e R s m args below meth c H locs cells slots (QE below y x ad0 n0 r h' args s mc ms) (F0 m pc rls rst) := by
  have hm : (decide (orig = .i2d) && Nat.beq nx (pc + 1)) = true := hm
  simp only [Bool.and_eq_true, decide_eq_true_eq] at hm
  obtain ⟨rfl, hnx⟩ := hm
  obtain rfl := Nat.eq_of_beq_eq_true hnx
  rw [show pc + 1 - pc = 1 by omega] at hd
  simp only [stp] at hr
  split at hr
  · obtain ⟨_, rfl, k⟩ := SKi T.2.2.2.2.1
    exact lv_i2d C.1.1 C.1.2.1 hd (G _ _ _ _ _ _ _ _ _ _ _ hr (T.stk k.d))
  · cases hr

theorem w_i2f (C : CX p l R s m args meth c x y mc ms) (G : Go p l e R s m args below meth c x ad0 n0 y mc ms n r h') (hr : stp none some (ev n y) (callp (hd y) (ev n y) (fun y2 as h => ev n y2 0 (padn (nl y2) as) [] h) pc nx) rk y .i2f nx ls st h = some (r, h')) (hd : decode (yb y) pc = .ok (orig, nx - pc)) (hm : matchop y pc nx orig .i2f = true) (T : Wt s x ad0 n0 y h' mc ms ad h H locs cells slots ls st rls rst) : W p l e R s m args below meth c H locs cells slots (QE below y x ad0 n0 r h' args s mc ms) (F0 m pc rls rst) := by
  have hm : (decide (orig = .i2f) && Nat.beq nx (pc + 1)) = true := hm
  simp only [Bool.and_eq_true, decide_eq_true_eq] at hm
  obtain ⟨rfl, hnx⟩ := hm
  obtain rfl := Nat.eq_of_beq_eq_true hnx
  rw [show pc + 1 - pc = 1 by omega] at hd
  simp only [stp] at hr
  split at hr
  · obtain ⟨_, rfl, k⟩ := SKi T.2.2.2.2.1
    exact lv_i2f C.1.1 C.1.2.1 hd (G _ _ _ _ _ _ _ _ _ _ _ hr (T.stk k.f))
  · cases hr

theorem w_f2d (C : CX p l R s m args meth c x y mc ms) (G : Go p l e R s m args below meth c x ad0 n0 y mc ms n r h') (hr : stp none some (ev n y) (callp (hd y) (ev n y) (fun y2 as h => ev n y2 0 (padn (nl y2) as) [] h) pc nx) rk y .f2d nx ls st h = some (r, h')) (hd : decode (yb y) pc = .ok (orig, nx - pc)) (hm : matchop y pc nx orig .f2d = true) (T : Wt s x ad0 n0 y h' mc ms ad h H locs cells slots ls st rls rst) : W p l e R s m args below meth c H locs cells slots (QE below y x ad0 n0 r h' args s mc ms) (F0 m pc rls rst) := by
  have hm : (decide (orig = .f2d) && Nat.beq nx (pc + 1)) = true := hm
  simp only [Bool.and_eq_true, decide_eq_true_eq] at hm
  obtain ⟨rfl, hnx⟩ := hm
  obtain rfl := Nat.eq_of_beq_eq_true hnx
  rw [show pc + 1 - pc = 1 by omega] at hd
  simp only [stp] at hr
  split at hr
  · split at hr
    · rename_i hz
      obtain ⟨_, rfl, k⟩ := SKf T.2.2.2.2.1
      exact lv_f2d C.1.1 C.1.2.1 hd hz (G _ _ _ _ _ _ _ _ _ _ _ hr (T.stk k.d))
    · cases hr
  · cases hr

theorem w_ddiv (C : CX p l R s m args meth c x y mc ms) (G : Go p l e R s m args below meth c x ad0 n0 y mc ms n r h') (hr : stp none some (ev n y) (callp (hd y) (ev n y) (fun y2 as h => ev n y2 0 (padn (nl y2) as) [] h) pc nx) rk y .ddiv nx ls st h = some (r, h')) (hd : decode (yb y) pc = .ok (orig, nx - pc)) (hm : matchop y pc nx orig .ddiv = true) (T : Wt s x ad0 n0 y h' mc ms ad h H locs cells slots ls st rls rst) : W p l e R s m args below meth c H locs cells slots (QE below y x ad0 n0 r h' args s mc ms) (F0 m pc rls rst) := by
  have hm : (decide (orig = .ddiv) && Nat.beq nx (pc + 1)) = true := hm
  simp only [Bool.and_eq_true, decide_eq_true_eq] at hm
  obtain ⟨rfl, hnx⟩ := hm
  obtain rfl := Nat.eq_of_beq_eq_true hnx
  rw [show pc + 1 - pc = 1 by omega] at hd
  simp only [stp] at hr
  split at hr
  · split at hr
    · rename_i hz
      obtain ⟨_, rfl, k⟩ := SKd T.2.2.2.2.1
      obtain ⟨_, rfl, k2⟩ := SKd k
      exact lv_ddiv C.1.1 C.1.2.1 hd hz (G _ _ _ _ _ _ _ _ _ _ _ hr (T.stk k2.d))
    · cases hr
  · cases hr

theorem w_fdiv (C : CX p l R s m args meth c x y mc ms) (G : Go p l e R s m args below meth c x ad0 n0 y mc ms n r h') (hr : stp none some (ev n y) (callp (hd y) (ev n y) (fun y2 as h => ev n y2 0 (padn (nl y2) as) [] h) pc nx) rk y .fdiv nx ls st h = some (r, h')) (hd : decode (yb y) pc = .ok (orig, nx - pc)) (hm : matchop y pc nx orig .fdiv = true) (T : Wt s x ad0 n0 y h' mc ms ad h H locs cells slots ls st rls rst) : W p l e R s m args below meth c H locs cells slots (QE below y x ad0 n0 r h' args s mc ms) (F0 m pc rls rst) := by
  have hm : (decide (orig = .fdiv) && Nat.beq nx (pc + 1)) = true := hm
  simp only [Bool.and_eq_true, decide_eq_true_eq] at hm
  obtain ⟨rfl, hnx⟩ := hm
  obtain rfl := Nat.eq_of_beq_eq_true hnx
  rw [show pc + 1 - pc = 1 by omega] at hd
  simp only [stp] at hr
  split at hr
  · split at hr
    · rename_i hz
      obtain ⟨_, rfl, k⟩ := SKf T.2.2.2.2.1
      obtain ⟨_, rfl, k2⟩ := SKf k
      exact lv_fdiv C.1.1 C.1.2.1 hd hz (G _ _ _ _ _ _ _ _ _ _ _ hr (T.stk k2.f))
    · cases hr
  · cases hr

theorem w_lcmp (C : CX p l R s m args meth c x y mc ms) (G : Go p l e R s m args below meth c x ad0 n0 y mc ms n r h') (hr : stp none some (ev n y) (callp (hd y) (ev n y) (fun y2 as h => ev n y2 0 (padn (nl y2) as) [] h) pc nx) rk y .lcmp nx ls st h = some (r, h')) (hd : decode (yb y) pc = .ok (orig, nx - pc)) (hm : matchop y pc nx orig .lcmp = true) (T : Wt s x ad0 n0 y h' mc ms ad h H locs cells slots ls st rls rst) : W p l e R s m args below meth c H locs cells slots (QE below y x ad0 n0 r h' args s mc ms) (F0 m pc rls rst) := by
  have hm : (decide (orig = .lcmp) && Nat.beq nx (pc + 1)) = true := hm
  simp only [Bool.and_eq_true, decide_eq_true_eq] at hm
  obtain ⟨rfl, hnx⟩ := hm
  obtain rfl := Nat.eq_of_beq_eq_true hnx
  rw [show pc + 1 - pc = 1 by omega] at hd
  simp only [stp] at hr
  split at hr
  · obtain ⟨_, rfl, k⟩ := SKl T.2.2.2.2.1
    obtain ⟨_, rfl, k2⟩ := SKl k
    exact W.lcmp C.1.1 C.1.2.1 hd (G _ _ _ _ _ _ _ _ _ _ _ hr (T.stk k2.i))
  · cases hr

theorem w_dcmp {o : CmpOp} (C : CX p l R s m args meth c x y mc ms) (G : Go p l e R s m args below meth c x ad0 n0 y mc ms n r h') (hr : stp none some (ev n y) (callp (hd y) (ev n y) (fun y2 as h => ev n y2 0 (padn (nl y2) as) [] h) pc nx) rk y (.dcmp o) nx ls st h = some (r, h')) (hd : decode (yb y) pc = .ok (orig, nx - pc)) (hm : matchop y pc nx orig (.dcmp o) = true) (T : Wt s x ad0 n0 y h' mc ms ad h H locs cells slots ls st rls rst) : W p l e R s m args below meth c H locs cells slots (QE below y x ad0 n0 r h' args s mc ms) (F0 m pc rls rst) := by
  have hm : (decide (orig = (.dcmp o)) && Nat.beq nx (pc + 1)) = true := hm
  simp only [Bool.and_eq_true, decide_eq_true_eq] at hm
  obtain ⟨rfl, hnx⟩ := hm
  obtain rfl := Nat.eq_of_beq_eq_true hnx
  rw [show pc + 1 - pc = 1 by omega] at hd
  simp only [stp] at hr
  split at hr
  · obtain ⟨_, rfl, k⟩ := SKd T.2.2.2.2.1
    obtain ⟨_, rfl, k2⟩ := SKd k
    exact lv_dcmp C.1.1 C.1.2.1 hd (G _ _ _ _ _ _ _ _ _ _ _ hr (T.stk k2.i))
  · cases hr

theorem w_fcmp {o : CmpOp} (C : CX p l R s m args meth c x y mc ms) (G : Go p l e R s m args below meth c x ad0 n0 y mc ms n r h') (hr : stp none some (ev n y) (callp (hd y) (ev n y) (fun y2 as h => ev n y2 0 (padn (nl y2) as) [] h) pc nx) rk y (.fcmp o) nx ls st h = some (r, h')) (hd : decode (yb y) pc = .ok (orig, nx - pc)) (hm : matchop y pc nx orig (.fcmp o) = true) (T : Wt s x ad0 n0 y h' mc ms ad h H locs cells slots ls st rls rst) : W p l e R s m args below meth c H locs cells slots (QE below y x ad0 n0 r h' args s mc ms) (F0 m pc rls rst) := by
  have hm : (decide (orig = (.fcmp o)) && Nat.beq nx (pc + 1)) = true := hm
  simp only [Bool.and_eq_true, decide_eq_true_eq] at hm
  obtain ⟨rfl, hnx⟩ := hm
  obtain rfl := Nat.eq_of_beq_eq_true hnx
  rw [show pc + 1 - pc = 1 by omega] at hd
  simp only [stp] at hr
  split at hr
  · obtain ⟨_, rfl, k⟩ := SKf T.2.2.2.2.1
    obtain ⟨_, rfl, k2⟩ := SKf k
    exact lv_fcmp C.1.1 C.1.2.1 hd (G _ _ _ _ _ _ _ _ _ _ _ hr (T.stk k2.i))
  · cases hr

theorem w_lconst {v : Fin 2} (C : CX p l R s m args meth c x y mc ms) (G : Go p l e R s m args below meth c x ad0 n0 y mc ms n r h') (hr : stp none some (ev n y) (callp (hd y) (ev n y) (fun y2 as h => ev n y2 0 (padn (nl y2) as) [] h) pc nx) rk y (.lconst v) nx ls st h = some (r, h')) (hd : decode (yb y) pc = .ok (orig, nx - pc)) (hm : matchop y pc nx orig (.lconst v) = true) (T : Wt s x ad0 n0 y h' mc ms ad h H locs cells slots ls st rls rst) : W p l e R s m args below meth c H locs cells slots (QE below y x ad0 n0 r h' args s mc ms) (F0 m pc rls rst) := by
  simp only [matchop] at hm
  split at hm
  · simp only [Bool.and_eq_true, decide_eq_true_eq] at hm
    obtain ⟨rfl, hnx⟩ := hm
    obtain rfl := Nat.eq_of_beq_eq_true hnx
    rw [show pc + 1 - pc = 1 by omega] at hd
    exact lv_lconst C.1.1 C.1.2.1 hd rfl (G _ _ _ _ _ _ _ _ _ _ _ hr (T.stk T.2.2.2.2.1.l))
  · cases hm

theorem w_fconst {v : Fin 3} (C : CX p l R s m args meth c x y mc ms) (G : Go p l e R s m args below meth c x ad0 n0 y mc ms n r h') (hr : stp none some (ev n y) (callp (hd y) (ev n y) (fun y2 as h => ev n y2 0 (padn (nl y2) as) [] h) pc nx) rk y (.fconst v) nx ls st h = some (r, h')) (hd : decode (yb y) pc = .ok (orig, nx - pc)) (hm : matchop y pc nx orig (.fconst v) = true) (T : Wt s x ad0 n0 y h' mc ms ad h H locs cells slots ls st rls rst) : W p l e R s m args below meth c H locs cells slots (QE below y x ad0 n0 r h' args s mc ms) (F0 m pc rls rst) := by
  simp only [matchop, Bool.and_eq_true, decide_eq_true_eq] at hm
  obtain ⟨⟨rfl, hv⟩, hnx⟩ := hm
  obtain rfl := Nat.eq_of_beq_eq_true hnx
  rw [show pc + 1 - pc = 1 by omega] at hd
  exact lv_fconst0 C.1.1 C.1.2.1 hd (G _ _ _ _ _ _ _ _ _ _ _ hr (T.stk T.2.2.2.2.1.f))

theorem w_dconst {v : Fin 2} (C : CX p l R s m args meth c x y mc ms) (G : Go p l e R s m args below meth c x ad0 n0 y mc ms n r h') (hr : stp none some (ev n y) (callp (hd y) (ev n y) (fun y2 as h => ev n y2 0 (padn (nl y2) as) [] h) pc nx) rk y (.dconst v) nx ls st h = some (r, h')) (hd : decode (yb y) pc = .ok (orig, nx - pc)) (hm : matchop y pc nx orig (.dconst v) = true) (T : Wt s x ad0 n0 y h' mc ms ad h H locs cells slots ls st rls rst) : W p l e R s m args below meth c H locs cells slots (QE below y x ad0 n0 r h' args s mc ms) (F0 m pc rls rst) := by
  simp only [matchop, Bool.and_eq_true, decide_eq_true_eq] at hm
  obtain ⟨⟨rfl, hv⟩, hnx⟩ := hm
  obtain rfl := Nat.eq_of_beq_eq_true hnx
  rw [show pc + 1 - pc = 1 by omega] at hd
  exact lv_dconst0 C.1.1 C.1.2.1 hd (G _ _ _ _ _ _ _ _ _ _ _ hr (T.stk T.2.2.2.2.1.d))

theorem w_iload {k : Nat} (C : CX p l R s m args meth c x y mc ms) (G : Go p l e R s m args below meth c x ad0 n0 y mc ms n r h') (hr : stp none some (ev n y) (callp (hd y) (ev n y) (fun y2 as h => ev n y2 0 (padn (nl y2) as) [] h) pc nx) rk y (.iload k) nx ls st h = some (r, h')) (hd : decode (yb y) pc = .ok (orig, nx - pc)) (hm : matchop y pc nx orig (.iload k) = true) (T : Wt s x ad0 n0 y h' mc ms ad h H locs cells slots ls st rls rst) : W p l e R s m args below meth c H locs cells slots (QE below y x ad0 n0 r h' args s mc ms) (F0 m pc rls rst) := by
  simp only [stp] at hr
  split at hr
  · rename_i x0 hg
    obtain hL := T.2.2.2.1.2.2 k
    rw [hg] at hL
    obtain ⟨-, hL⟩ := hL
    rcases hL with hL | ⟨w, rfl, hL⟩
    · cases hL
    · simp only [matchop] at hm
      split at hm
      · simp only [Bool.and_eq_true] at hm
        obtain ⟨hk, hnx⟩ := hm
        obtain rfl := Nat.eq_of_beq_eq_true hnx
        rw [show pc + 1 - pc = 1 by omega] at hd
        exact lv_iload_n C.1.1 C.1.2.1 hd (Nat.eq_of_beq_eq_true hk) hL (G _ _ _ _ _ _ _ _ _ _ _ hr (T.stk T.2.2.2.2.1.i))
      · simp only [Bool.and_eq_true] at hm
        obtain ⟨hk, hnx⟩ := hm
        obtain rfl := Nat.eq_of_beq_eq_true hnx
        obtain rfl := Nat.eq_of_beq_eq_true hk
        rw [show pc + 2 - pc = 2 by omega] at hd
        exact lv_iload C.1.1 C.1.2.1 hd hL (G _ _ _ _ _ _ _ _ _ _ _ hr (T.stk T.2.2.2.2.1.i))
      · cases hm
  · cases hr

theorem w_dload {k : Nat} (C : CX p l R s m args meth c x y mc ms) (G : Go p l e R s m args below meth c x ad0 n0 y mc ms n r h') (hr : stp none some (ev n y) (callp (hd y) (ev n y) (fun y2 as h => ev n y2 0 (padn (nl y2) as) [] h) pc nx) rk y (.dload k) nx ls st h = some (r, h')) (hd : decode (yb y) pc = .ok (orig, nx - pc)) (hm : matchop y pc nx orig (.dload k) = true) (T : Wt s x ad0 n0 y h' mc ms ad h H locs cells slots ls st rls rst) : W p l e R s m args below meth c H locs cells slots (QE below y x ad0 n0 r h' args s mc ms) (F0 m pc rls rst) := by
  simp only [stp] at hr
  split at hr
  · rename_i x0 hg
    obtain hL := T.2.2.2.1.2.2 k
    rw [hg] at hL
    obtain ⟨-, hL⟩ := hL
    rcases hL with hL | ⟨w, rfl, hL⟩
    · cases hL
    · simp only [matchop] at hm
      split at hm
      · simp only [Bool.and_eq_true] at hm
        obtain ⟨hk, hnx⟩ := hm
        obtain rfl := Nat.eq_of_beq_eq_true hnx
        rw [show pc + 1 - pc = 1 by omega] at hd
        exact lv_dload_n C.1.1 C.1.2.1 hd (Nat.eq_of_beq_eq_true hk) hL (G _ _ _ _ _ _ _ _ _ _ _ hr (T.stk T.2.2.2.2.1.d))
      · simp only [Bool.and_eq_true] at hm
        obtain ⟨hk, hnx⟩ := hm
        obtain rfl := Nat.eq_of_beq_eq_true hnx
        obtain rfl := Nat.eq_of_beq_eq_true hk
        rw [show pc + 2 - pc = 2 by omega] at hd
        exact lv_dload C.1.1 C.1.2.1 hd hL (G _ _ _ _ _ _ _ _ _ _ _ hr (T.stk T.2.2.2.2.1.d))
      · cases hm
  · cases hr

theorem w_fload {k : Nat} (C : CX p l R s m args meth c x y mc ms) (G : Go p l e R s m args below meth c x ad0 n0 y mc ms n r h') (hr : stp none some (ev n y) (callp (hd y) (ev n y) (fun y2 as h => ev n y2 0 (padn (nl y2) as) [] h) pc nx) rk y (.fload k) nx ls st h = some (r, h')) (hd : decode (yb y) pc = .ok (orig, nx - pc)) (hm : matchop y pc nx orig (.fload k) = true) (T : Wt s x ad0 n0 y h' mc ms ad h H locs cells slots ls st rls rst) : W p l e R s m args below meth c H locs cells slots (QE below y x ad0 n0 r h' args s mc ms) (F0 m pc rls rst) := by
  simp only [stp] at hr
  split at hr
  · rename_i x0 hg
    obtain hL := T.2.2.2.1.2.2 k
    rw [hg] at hL
    obtain ⟨-, hL⟩ := hL
    rcases hL with hL | ⟨w, rfl, hL⟩
    · cases hL
    · simp only [matchop] at hm
      split at hm
      · simp only [Bool.and_eq_true] at hm
        obtain ⟨hk, hnx⟩ := hm
        obtain rfl := Nat.eq_of_beq_eq_true hnx
        rw [show pc + 1 - pc = 1 by omega] at hd
        exact lv_fload_n C.1.1 C.1.2.1 hd (Nat.eq_of_beq_eq_true hk) hL (G _ _ _ _ _ _ _ _ _ _ _ hr (T.stk T.2.2.2.2.1.f))
      · simp only [Bool.and_eq_true] at hm
        obtain ⟨hk, hnx⟩ := hm
        obtain rfl := Nat.eq_of_beq_eq_true hnx
        obtain rfl := Nat.eq_of_beq_eq_true hk
        rw [show pc + 2 - pc = 2 by omega] at hd
        exact lv_fload C.1.1 C.1.2.1 hd hL (G _ _ _ _ _ _ _ _ _ _ _ hr (T.stk T.2.2.2.2.1.f))
      · cases hm
  · cases hr

theorem w_aload {k : Nat} (C : CX p l R s m args meth c x y mc ms) (G : Go p l e R s m args below meth c x ad0 n0 y mc ms n r h') (hr : stp none some (ev n y) (callp (hd y) (ev n y) (fun y2 as h => ev n y2 0 (padn (nl y2) as) [] h) pc nx) rk y (.aload k) nx ls st h = some (r, h')) (hd : decode (yb y) pc = .ok (orig, nx - pc)) (hm : matchop y pc nx orig (.aload k) = true) (T : Wt s x ad0 n0 y h' mc ms ad h H locs cells slots ls st rls rst) : W p l e R s m args below meth c H locs cells slots (QE below y x ad0 n0 r h' args s mc ms) (F0 m pc rls rst) := by
  simp only [stp] at hr
  split at hr
  · rename_i x0 hg
    obtain hL := T.2.2.2.1.2.2 k
    rw [hg] at hL
    obtain ⟨-, hL⟩ := hL
    rcases hL with hL | ⟨w, ⟨hlt, rfl⟩, hL⟩
    · cases hL
    · have K := fun (q : Nat) (hq : ev n y q ls (.ref x0 :: st) h = some (r, h')) => G _ _ _ _ _ _ _ _ _ _ _ hq (T.stk (T.2.2.2.2.1.r hlt))
      simp only [matchop] at hm
      split at hm
      · simp only [Bool.and_eq_true] at hm
        obtain ⟨hk, hnx⟩ := hm
        obtain rfl := Nat.eq_of_beq_eq_true hnx
        rw [show pc + 1 - pc = 1 by omega] at hd
        have K := K _ hr
        cases hz : ad x0 with
        | none =>
          rw [hz] at hL K
          exact lv_aload_nN C.1.1 C.1.2.1 hd (Nat.eq_of_beq_eq_true hk) hL K
        | some q =>
          rw [hz] at hL K
          exact lv_aload_n C.1.1 C.1.2.1 hd (Nat.eq_of_beq_eq_true hk) hL K
      · simp only [Bool.and_eq_true] at hm
        obtain ⟨hk, hnx⟩ := hm
        obtain rfl := Nat.eq_of_beq_eq_true hnx
        obtain rfl := Nat.eq_of_beq_eq_true hk
        rw [show pc + 2 - pc = 2 by omega] at hd
        have K := K _ hr
        cases hz : ad x0 with
        | none =>
          rw [hz] at hL K
          exact lv_aloadN C.1.1 C.1.2.1 hd hL K
        | some q =>
          rw [hz] at hL K
          exact lv_aload C.1.1 C.1.2.1 hd hL K
      · cases hm
  · cases hr

end WALK2
