/-! SOUNDNESS, the frame: what grows, what stands -/
def Mo (h h' : Hp) : Prop := HN h ≤ HN h' ∧ HC h ≤ HC h' ∧ HS h ≤ HS h'
theorem Mo.rf (h : Hp) : Mo h h := ⟨Nat.le_refl _, Nat.le_refl _, Nat.le_refl _⟩
theorem Mo.tr {a b c : Hp} (h1 : Mo a b) (h2 : Mo b c) : Mo a c := ⟨Nat.le_trans h1.1 h2.1, Nat.le_trans h1.2.1 h2.2.1, Nat.le_trans h1.2.2 h2.2.2⟩
def MoT (h : Hp) : TT → Prop
  | none => True
  | some (.inl r) => Mo h r.2
  | some (.inr (.inl c)) => Mo h c.2.2.2
  | some (.inr (.inr c)) => c.2.2.2.2.2 = h
theorem MoT_cond {h : Hp} {b : Bool} {x y : TT} (h1 : MoT h x) (h2 : MoT h y) : MoT h (cond b x y) := by cases b <;> assumption
theorem MoT_ite {h : Hp} {c : Prop} [Decidable c] {x y : TT} (h1 : MoT h x) (h2 : MoT h y) : MoT h (if c then x else y) := by split <;> assumption
theorem MoT_cint {h : Hp} {c : ClassFile.Cond} {a b : Int32} {x y : TT} (h1 : MoT h x) (h2 : MoT h y) : MoT h (cint c a b x y) := by
  cases c <;> simp only [cint] <;> split <;> assumption
theorem MoT_new {h : Hp} {k n a : Nat} {ls st : List Value} : MoT h (tKs a ls st (hnew h k n)) := ⟨Nat.le_succ _, Nat.le_succ _, Nat.le_add_right _ _⟩
theorem MoT_new2 {h : Hp} {k n a : Nat} {ls st : List Value} : MoT h (tKs a ls st (hnew2 h k n)) := ⟨Nat.le_add_right _ _, Nat.le_add_right _ _, Nat.le_add_right _ _⟩
theorem MoT_new3 {h : Hp} {k n a : Nat} {ls st : List Value} : MoT h (tKs a ls st (hnew3 h k n)) := ⟨Nat.le_add_right _ _, Nat.le_add_right _ _, Nat.le_add_right _ _⟩
theorem MoT_cln {h : Hp} {b a : Nat} {ls st : List Value} : MoT h (tKs a ls st (hcln h b)) := ⟨Nat.le_succ _, Nat.le_succ _, Nat.le_add_right _ _⟩
theorem MoT_thr {h : Hp} {e : Except Nat Value} : MoT h (some (.inl (e, hthr h))) := ⟨Nat.le_refl _, Nat.le_succ _, Nat.le_add_right _ _⟩
set_option maxHeartbeats 4000000 in
theorem stp_mo (rk : Nat → Nat) (y : Nat) (op : Instr) (nx : Nat) (ls st : List Value) (h : Hp) : MoT h (stp none (fun r => some (.inl r)) tKs tCall rk y op nx ls st h) := by
  cases op <;> simp only [stp] <;> (repeat' first | apply MoT_cond | apply MoT_ite | apply MoT_cint | exact trivial | exact Mo.rf h | exact MoT_new | exact MoT_new2 | exact MoT_new3 | exact MoT_cln | exact MoT_thr | exact rfl | split)
theorem hsel_out {l : List (Nat × Nat × Nat × Nat × Nat)} {pc e : Nat} {k : Nat → Nat → Res} {o : Res} {r : Except Nat Value × Hp} (h : hsel l pc e k o = some r) : (∃ a b, k a b = some r) ∨ o = some r := by
  induction l with
  | nil => exact Or.inr h
  | cons q l ih =>
    simp only [hsel] at h
    cases hc : (Nat.ble q.1 pc && Nat.blt pc q.2.1) with
    | false => rw [hc] at h; exact ih h
    | true =>
      rw [hc] at h
      simp only [cond_true] at h
      split at h
      · exact Or.inl ⟨_, _, h⟩
      · exact ih h
/-- a call's outcome: what came back, and how it went on -/
theorem callp_out {hs : List (Nat × Nat × Nat × Nat × Nat)} {ks : Nat → List Value → List Value → Hp → Res} {cl : Nat → List Value → Hp → Res} {pc nx y2 rt : Nat} {ls as st : List Value} {h : Hp} {r : Except Nat Value × Hp} (hr : callp hs ks cl pc nx y2 rt ls as st h = some r) :
    ∃ (r1 : Except Nat Value) (h1 : Hp), cl y2 as h = some (r1, h1) ∧ ((∃ e, r1 = .error e ∧ hsel hs pc e (fun q k => ks q (sl ls k .null) [] h1) (some (.error e, h1)) = some r) ∨
      (rt = 0 ∧ r1 = .ok .null ∧ ks nx ls st h1 = some r) ∨ (rt = 1 ∧ ∃ x, r1 = .ok (.int x) ∧ ks nx ls (.int x :: st) h1 = some r) ∨ (rt = 2 ∧ ∃ x, r1 = .ok (.ref x) ∧ ks nx ls (.ref x :: st) h1 = some r) ∨ (rt = 3 ∧ ∃ x, r1 = .ok (.double x) ∧ ks nx ls (.double x :: st) h1 = some r) ∨ (4 ≤ rt ∧ ∃ x, r1 = .ok (.float x) ∧ ks nx ls (.float x :: st) h1 = some r)) := by
  cases hc : cl y2 as h with
  | none => unfold callp at hr; rw [hc] at hr; split at hr <;> cases hr
  | some q =>
    obtain ⟨r1, h1⟩ := q
    refine ⟨r1, h1, rfl, ?_⟩
    cases r1 with
    | error e =>
      refine Or.inl ⟨e, rfl, ?_⟩
      unfold callp at hr
      rw [hc] at hr
      split at hr <;> exact hr
    | ok v =>
      right
      rcases rt with _ | _ | _ | _ | rt
      · simp only [callp, hc] at hr
        cases v <;> first | (cases hr; done) | exact Or.inl ⟨rfl, rfl, hr⟩
      · simp only [callp, hc] at hr
        cases v <;> first | (cases hr; done) | exact Or.inr (Or.inl ⟨rfl, _, rfl, hr⟩)
      · simp only [callp, hc] at hr
        cases v <;> first | (cases hr; done) | exact Or.inr (Or.inr (Or.inl ⟨rfl, _, rfl, hr⟩))
      · simp only [callp, hc] at hr
        cases v <;> first | (cases hr; done) | exact Or.inr (Or.inr (Or.inr (Or.inl ⟨rfl, _, rfl, hr⟩)))
      · simp only [callp, hc] at hr
        cases v <;> first | (cases hr; done) | exact Or.inr (Or.inr (Or.inr (Or.inr ⟨by omega, _, rfl, hr⟩)))
theorem ev_mo : ∀ (n : Nat) (y pc : Nat) (ls st : List Value) (h : Hp) (r : Except Nat Value) (h' : Hp), ev n y pc ls st h = some (r, h') → Mo h h' := by
  intro n
  induction n with
  | zero => intro y pc ls st h r h' hr; cases hr
  | succ n ih =>
    intro y pc ls st h r h' hr
    rw [ev] at hr
    cases hc : cd y pc with
    | none => rw [hc] at hr; cases hr
    | some q =>
      rw [hc] at hr
      dsimp only at hr
      rw [stp_el] at hr
      have hm := stp_mo rk y q.1 q.2 ls st h
      generalize stp none (fun r => some (.inl r)) tKs tCall rk y q.1 q.2 ls st h = t at hr hm
      rcases t with _ | r2 | c | c
      · cases hr
      · cases hr
        exact hm
      · exact hm.tr (ih _ _ _ _ _ _ _ hr)
      · obtain ⟨c1, c2, c3, c4, c5, c6⟩ := c
        obtain rfl : c6 = h := hm
        have hr : callp (hd y) (ev n y) (fun y2 as h => ev n y2 0 (padn (nl y2) as) [] h) pc q.2 c1 c2 c3 c4 c5 c6 = some (r, h') := hr
        obtain ⟨r1, h1, hq, ho⟩ := callp_out hr
        have m1 : Mo c6 h1 := ih _ _ _ _ _ _ _ hq
        rcases ho with ⟨e, -, ho⟩ | ⟨-, -, ho⟩ | ⟨-, x, -, ho⟩ | ⟨-, x, -, ho⟩ | ⟨-, x, -, ho⟩ | ⟨-, x, -, ho⟩
        · rcases hsel_out ho with ⟨a, b, h2⟩ | h2
          · exact m1.tr (ih _ _ _ _ _ _ _ h2)
          · cases h2
            exact m1
        all_goals exact m1.tr (ih _ _ _ _ _ _ _ ho)
/-- the law's local behind its double is stored to by nothing else -/
def chk8 (y : Nat) (op : Instr) : Bool := match op with
  | .istore k => Nat.blt y 343 || !(Nat.beq k 8)
  | .astore k => Nat.blt y 343 || !(Nat.beq k 8)
  | .fstore k => Nat.blt y 343 || !(Nat.beq k 8)
  | .iinc k _ => Nat.blt y 343 || !(Nat.beq k 8)
  | .dstore k => Nat.beq y 343 && Nat.beq k 7
  | _ => true
def ROK : Prop := (∀ y, y < 344 → (ct y).all (fun b => b.all (chkRow y)) = true) ∧ ∀ y, y < 344 → (ct y).all (fun b => b.all (fun r => chk8 y r.2.2.2)) = true
theorem nth2_in {α : Type} {d : α} : ∀ {l : List α} {k : Nat}, nth2 d l k = d ∨ nth2 d l k ∈ l
  | [], k => Or.inl (by cases k <;> rfl)
  | a :: _, 0 => Or.inr List.mem_cons_self
  | a :: l, k + 1 => by
    rcases nth2_in (d := d) (l := l) (k := k) with h | h
    · exact Or.inl h
    · exact Or.inr (List.mem_cons_of_mem _ h)
theorem lkp_in {pc nx : Nat} {op : Instr} : ∀ {b : List (Nat × Instr × Nat × Instr)}, lkp b pc = some (op, nx) → ∃ orig, (pc, orig, nx, op) ∈ b
  | [], h => by cases h
  | r :: b, h => by
    simp only [lkp] at h
    cases hb : Nat.beq r.1 pc with
    | true =>
      rw [hb] at h
      cases h
      exact ⟨r.2.1, by rw [← Nat.eq_of_beq_eq_true hb]; exact List.mem_cons_self⟩
    | false =>
      rw [hb] at h
      obtain ⟨o, ho⟩ := lkp_in h
      exact ⟨o, List.mem_cons_of_mem _ ho⟩
theorem row_at (hR : ROK) {y pc nx : Nat} {op : Instr} (hy : y < 344) (h : cd y pc = some (op, nx)) : ∃ orig, decode (yb y) pc = .ok (orig, nx - pc) ∧ pc < nx ∧ matchop y pc nx orig op = true ∧ chk8 y op = true := by
  unfold cd at h
  obtain ⟨o, ho⟩ := lkp_in h
  rcases nth2_in (d := []) (l := ct y) (k := pc / 64) with hb | hb
  · rw [hb] at ho
    exact nomatch ho
  · have h1 := List.all_eq_true.mp (List.all_eq_true.mp (hR.1 y hy) _ hb) _ ho
    have h2 := List.all_eq_true.mp (List.all_eq_true.mp (hR.2 y hy) _ hb) _ ho
    simp only [chkRow, Bool.and_eq_true, decide_eq_true_eq] at h1
    exact ⟨o, h1.1.1, Nat.le_of_ble_eq_true h1.1.2, h1.2, h2⟩
theorem SKi {ad : Nat → Option Nat} {n : Nat} {x : Int32} {st rst : List Value} (h : SK ad n (.int x :: st) rst) : ∃ rst', rst = .int x :: rst' ∧ SK ad n st rst' := by
  obtain ⟨w, ws', rfl, h1, h2⟩ := h
  cases h1
  exact ⟨_, rfl, h2⟩
theorem SKl {ad : Nat → Option Nat} {n : Nat} {x : Int64} {st rst : List Value} (h : SK ad n (.long x :: st) rst) : ∃ rst', rst = .long x :: rst' ∧ SK ad n st rst' := by
  obtain ⟨w, ws', rfl, h1, h2⟩ := h
  cases h1
  exact ⟨_, rfl, h2⟩
theorem SKd {ad : Nat → Option Nat} {n : Nat} {x : UInt64} {st rst : List Value} (h : SK ad n (.double x :: st) rst) : ∃ rst', rst = .double x :: rst' ∧ SK ad n st rst' := by
  obtain ⟨w, ws', rfl, h1, h2⟩ := h
  cases h1
  exact ⟨_, rfl, h2⟩
theorem SKf {ad : Nat → Option Nat} {n : Nat} {x : UInt32} {st rst : List Value} (h : SK ad n (.float x :: st) rst) : ∃ rst', rst = .float x :: rst' ∧ SK ad n st rst' := by
  obtain ⟨w, ws', rfl, h1, h2⟩ := h
  cases h1
  exact ⟨_, rfl, h2⟩
theorem SKr {ad : Nat → Option Nat} {n : Nat} {a : Nat} {st rst : List Value} (h : SK ad n (.ref a :: st) rst) : ∃ rst', rst = va_rf (ad a) :: rst' ∧ a < n ∧ SK ad n st rst' := by
  obtain ⟨w, ws', rfl, ⟨h0, h1⟩, h2⟩ := h
  cases h1
  exact ⟨_, rfl, h0, h2⟩
theorem SK0 {ad : Nat → Option Nat} {n : Nat} {rst : List Value} (h : SK ad n [] rst) : rst = [] := h
theorem SK.v {ad : Nat → Option Nat} {n : Nat} {v w : Value} {st rst : List Value} (h1 : VR ad n v w) (h : SK ad n st rst) : SK ad n (v :: st) (w :: rst) := ⟨_, _, rfl, h1, h⟩
theorem SK.i {ad : Nat → Option Nat} {n : Nat} {x : Int32} {st rst : List Value} (h : SK ad n st rst) : SK ad n (.int x :: st) (.int x :: rst) := ⟨_, _, rfl, rfl, h⟩
theorem SK.l {ad : Nat → Option Nat} {n : Nat} {x : Int64} {st rst : List Value} (h : SK ad n st rst) : SK ad n (.long x :: st) (.long x :: rst) := ⟨_, _, rfl, rfl, h⟩
theorem SK.d {ad : Nat → Option Nat} {n : Nat} {x : UInt64} {st rst : List Value} (h : SK ad n st rst) : SK ad n (.double x :: st) (.double x :: rst) := ⟨_, _, rfl, rfl, h⟩
theorem SK.f {ad : Nat → Option Nat} {n : Nat} {x : UInt32} {st rst : List Value} (h : SK ad n st rst) : SK ad n (.float x :: st) (.float x :: rst) := ⟨_, _, rfl, rfl, h⟩
theorem SK.r {ad : Nat → Option Nat} {n : Nat} {a : Nat} {st rst : List Value} (h0 : a < n) (h : SK ad n st rst) : SK ad n (.ref a :: st) (va_rf (ad a) :: rst) := ⟨_, _, rfl, ⟨h0, rfl⟩, h⟩
def CX (p : Program) (l : Launch) (R : Room) (s : State) (m : MethodId) (args : Array Value) (meth : Method) (c : Code) (x : Ctx) (y mc ms : Nat) : Prop :=
  FX p m c meth s args y ∧ l.stackTraces = false ∧ va_K (xD x) clL (tysL x) s ∧ OLDs x s s.heap ∧ xB x ≤ s.heap.size ∧ xC x 0 = none ∧ 8 + y ≤ R.frames ∧ 200 + 40 * y ≤ R.locals ∧ meth.locks = false ∧ c.exceptionTable.toList = tableOf (hh y) ∧ meth.sig.returnType = yr y ∧ mc ≤ R.cells ∧ ms ≤ R.slots ∧ y < 344
def Wt (s : State) (x : Ctx) (ad0 : Nat → Option Nat) (n0 y : Nat) (h' : Hp) (mc ms : Nat) (ad : Nat → Option Nat) (h : Hp) (H : Heap) (locs : List Loc) (cells slots : Nat) (ls st : List Value) (rls : Array Slot) (rst : List Value) : Prop :=
  St x ad h H ∧ va_S (fr x) s.heap H locs ∧ (Ext ad0 ad n0 ∧ n0 ≤ HN h) ∧ LH ad (HN h) y (nl y) ls rls ∧ SK ad (HN h) st rst ∧ (cells + (HC h' - HC h) ≤ mc ∧ slots + (HS h' - HS h) ≤ ms)
section WALK
variable {p : Program} {l : Launch} {e : Env} {R : Room} {s : State} {m : MethodId} {args : Array Value} {below : List Frame} {meth : Method} {c : Code} {H H1 : Heap} {locs locs1 : List Loc} {cells slots : Nat}
variable {x : Ctx} {ad ad0 ad1 : Nat → Option Nat} {h h' h1 : Hp} {y pc nx n0 mc ms n : Nat} {rls : Array Slot} {ls st st1 rst rst1 : List Value} {r : Except Nat Value} {orig : Instr}
theorem Wt.stk (T : Wt s x ad0 n0 y h' mc ms ad h H locs cells slots ls st rls rst) (hk : SK ad (HN h) st1 rst1) : Wt s x ad0 n0 y h' mc ms ad h H locs cells slots ls st1 rls rst1 := ⟨T.1, T.2.1, T.2.2.1, T.2.2.2.1, hk, T.2.2.2.2.2⟩
theorem Wt.hp (T : Wt s x ad0 n0 y h' mc ms ad h H locs cells slots ls st rls rst) (hh : h1.1 = h.1) (S : St x ad h1 H1) (hS : va_S (fr x) s.heap H1 locs1) (hk : SK ad (HN h) st1 rst1) : Wt s x ad0 n0 y h' mc ms ad h1 H1 locs1 cells slots ls st1 rls rst1 := by
  have e1 : HN h1 = HN h := by unfold HN; rw [hh]
  have e2 : HC h1 = HC h := by unfold HC; rw [hh]
  have e3 : HS h1 = HS h := by unfold HS; rw [hh]
  refine ⟨S, hS, ?_, ?_, ?_, ?_⟩
  · rw [e1]; exact T.2.2.1
  · rw [e1]; exact T.2.2.2.1
  · rw [e1]; exact hk
  · rw [e2, e3]; exact T.2.2.2.2.2
theorem Wt.loc (T : Wt s x ad0 n0 y h' mc ms ad h H locs cells slots ls st rls rst) {ls1 : List Value} {rls1 : Array Slot} (hL : LH ad (HN h) y (nl y) ls1 rls1) (hk : SK ad (HN h) st1 rst1) : Wt s x ad0 n0 y h' mc ms ad h H locs cells slots ls1 st1 rls1 rst1 := ⟨T.1, T.2.1, T.2.2.1, hL, hk, T.2.2.2.2.2⟩
/-- new cells: the map grows, the counters too -/
theorem Wt.grow (T : Wt s x ad0 n0 y h' mc ms ad h H locs cells slots ls st rls rst) {k1 k2 : Nat} (hx : Ext ad ad1 (HN h)) (hn : HN h ≤ HN h1) (hc : HC h1 = HC h + k1) (hs : HS h1 = HS h + k2) (hm : Mo h1 h') (S : St x ad1 h1 H1) (hS : va_S (fr x) s.heap H1 locs1) (hk : SK ad1 (HN h1) st1 rst1) :
    Wt s x ad0 n0 y h' mc ms ad1 h1 H1 locs1 (cells + k1) (slots + k2) ls st1 rls rst1 := by
  obtain ⟨-, t2, t3⟩ := hm
  refine ⟨S, hS, ⟨fun a ha => ?_, Nat.le_trans T.2.2.1.2 hn⟩, T.2.2.2.1.ext hx hn, hk, ?_, ?_⟩
  · rw [hx a (Nat.lt_of_lt_of_le ha T.2.2.1.2)]
    exact T.2.2.1.1 a ha
  · have := T.2.2.2.2.2.1
    omega
  · have := T.2.2.2.2.2.2
    omega
end WALK
