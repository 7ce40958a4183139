/-! THE STATES: how a heap of the machine holds an abstract one -/
def litA : List (List Int32) := [[32, 99, 111, 110, 102, 105, 114, 109, 101, 100],
  [32, 100, 105, 115, 112, 117, 116, 101, 100, 32, 126],
  [32, 111, 112, 101, 110],
  [32, 64],
  [],
  [61],
  [32, 64],
  [58],
  [32],
  [32, 100, 105, 115, 112, 117, 116, 101, 100, 32, 126],
  [32, 99, 111, 110, 102, 105, 114, 109, 101, 100],
  [32, 111, 112, 101, 110],
  [114, 101, 112, 111, 114, 116, 32]]
/-- class numbers and slots, the array classes, the base, where the old cells lie, the script's length and ints -/
abbrev Ctx : Type := va_G × (Nat → ClassId) × Nat × (Nat → Option Nat) × Nat × (Nat → Int32)
def xD (x : Ctx) : va_G := x.1
def xA (x : Ctx) : Nat → ClassId := x.2.1
def xB (x : Ctx) : Nat := x.2.2.1
def xC (x : Ctx) : Nat → Option Nat := x.2.2.2.1
def xL (x : Ctx) : Nat := x.2.2.2.2.1
def xS (x : Ctx) : Nat → Int32 := x.2.2.2.2.2
abbrev fr (x : Ctx) : Nat → Prop := fun q => xB x ≤ q
def fv (ad : Nat → Option Nat) (h : Hp) (a kd k : Nat) : Value := if ftc (tta kd k) % 2 = 1 then va_rf (ad (HR h a k)) else .int (HI h a k)
def cE (x : Ctx) (ad : Nat → Option Nat) (h : Hp) (a : Nat) : va_E :=
  if HK h a < 50 then .inr (HK h a - 1, (List.range (NNa (HK h a))).map (fv ad h a (HK h a)))
  else if HK h a = 104 then .inl (xA x 104, HL h a, .inr (.inl (HJ h a)))
  else if HK h a = 105 then .inl (xA x 105, HL h a, .inr (.inr (.inr (.inl (HD h a)))))
  else if 106 ≤ HK h a then .inl (xA x (HK h a), HL h a, .inr (.inr (.inr (.inr (fun k => ad (HR h a k))))))
  else .inl (xA x (HK h a), HL h a, .inl (HI h a))
def wl (x : Ctx) (ad : Nat → Option Nat) (h : Hp) : va_W := (List.range (HN h - 31)).map (fun i => ((ad (31 + i)).getD 0, cE x ad h (31 + i)))
theorem wl_get {x : Ctx} {ad : Nat → Option Nat} {h : Hp} {i : Nat} : (wl x ad h)[i]? = if i < HN h - 31 then some ((ad (31 + i)).getD 0, cE x ad h (31 + i)) else none := by
  unfold wl
  rw [List.getElem?_map]
  by_cases hi : i < HN h - 31
  · rw [List.getElem?_range hi, if_pos hi]
    rfl
  · rw [if_neg hi, List.getElem?_eq_none (by simpa using hi)]
    rfl
theorem wl_at {x : Ctx} {ad : Nat → Option Nat} {h : Hp} {a q : Nat} (h1 : 31 ≤ a) (h2 : a < HN h) (hq : ad a = some q) : (wl x ad h)[a - 31]? = some (q, cE x ad h a) := by
  rw [wl_get, if_pos (by omega), show 31 + (a - 31) = a by omega, hq]
  rfl
theorem wl_set {x : Ctx} {ad : Nat → Option Nat} {h h' : Hp} {a q : Nat} {e : va_E} (h1 : 31 ≤ a) (h2 : a < HN h) (hq : ad a = some q) (hn : HN h' = HN h) (he : cE x ad h' a = e) (ho : ∀ b, b ≠ a → cE x ad h' b = cE x ad h b) : (wl x ad h).set (a - 31) (q, e) = wl x ad h' := by
  apply List.ext_getElem?
  intro i
  rw [List.getElem?_set, wl_get, wl_get, hn]
  by_cases hi : a - 31 = i
  · subst hi
    have hl : a - 31 < (wl x ad h).length := by unfold wl; simp; omega
    rw [if_pos rfl, if_pos hl, if_pos (by omega), show 31 + (a - 31) = a by omega, hq, he]
    rfl
  · rw [if_neg hi]
    by_cases h3 : i < HN h - 31
    · rw [if_pos h3, if_pos h3, ho (31 + i) (by omega)]
    · rw [if_neg h3, if_neg h3]
theorem wl_push {x : Ctx} {ad ad' : Nat → Option Nat} {h h' : Hp} {q : Nat} {e : va_E} (h31 : 31 ≤ HN h) (hn : HN h' = HN h + 1) (hq : ad' (HN h) = some q) (he : cE x ad' h' (HN h) = e) (ho : ∀ b, b < HN h → ad' b = ad b ∧ cE x ad' h' b = cE x ad h b) : wl x ad h ++ [(q, e)] = wl x ad' h' := by
  unfold wl
  rw [hn, show HN h + 1 - 31 = (HN h - 31) + 1 by omega, List.range_succ, List.map_append]
  congr 1
  · apply List.map_congr_left
    intro i hi
    have := List.mem_range.mp hi
    rw [(ho (31 + i) (by omega)).1, (ho (31 + i) (by omega)).2]
  · simp only [List.map_cons, List.map_nil]
    rw [show 31 + (HN h - 31) = HN h by omega, hq, he]
    rfl
/-- the old cells: 0 null, 1 nobody looks at, 2 and 3 the digits, literals with their bytes, the script -/
def kcT (L : Nat) (a : Nat) : Nat × Nat := if a < 2 then (0, 0) else if a < 4 then (203, 100) else if a < 30 then (if a % 2 = 0 then (11, 4) else (203, (litA.getD ((a - 5) / 2) []).length)) else (200, L)
def icT (xs : Nat → Int32) (a k : Nat) : Int32 := if a < 2 then 0 else if a = 2 then nI (48 + k % 10) else if a = 3 then nI (48 + k / 10) else if a < 30 then (if a % 2 = 0 then 0 else (litA.getD ((a - 5) / 2) []).getD k 0) else xs k
def rcT (a k : Nat) : Nat := if a < 4 then 0 else if a < 30 then (if a % 2 = 0 ∧ k = 0 then a + 1 else 0) else 0
def CN (x : Ctx) (h : Hp) : Prop := ∀ a, a < 31 → h.2.1 a = kcT (xL x) a ∧ (∀ k, HI h a k = icT (xS x) a k) ∧ ∀ k, HR h a k = rcT a k
def KOK (k : Nat) : Prop := (1 ≤ k ∧ k ≤ 10) ∨ k = 100 ∨ k = 101 ∨ k = 102 ∨ k = 103 ∨ k = 108 ∨ k = 106 ∨ k = 107
def St (x : Ctx) (ad : Nat → Option Nat) (h : Hp) (H : Heap) : Prop := va_P (xD x) clL (wl x ad h) H ∧ va_D (fr x) (wl x ad h) ∧ 31 ≤ HN h ∧ CN x h ∧ (∀ a, a < 31 → ad a = xC x a) ∧ (∀ a, HN h ≤ a → HK h a = 0) ∧ (∀ a k, HR h a k < HN h) ∧ ∀ a, 31 ≤ a → a < HN h → KOK (HK h a) ∧ ∃ q, ad a = some q
theorem kcT_no {L a : Nat} : ¬ KOK (kcT L a).1 := by
  unfold kcT KOK
  repeat' split
  all_goals (simp; try omega)
/-- a cell of a kind that can be made lies among the new ones -/
theorem St.new {x : Ctx} {ad : Nat → Option Nat} {h : Hp} {H : Heap} (S : St x ad h H) {a : Nat} (hk : KOK (HK h a)) : 31 ≤ a ∧ a < HN h ∧ ∃ q, ad a = some q ∧ (wl x ad h)[a - 31]? = some (q, cE x ad h a) := by
  obtain ⟨-, -, h31, hc, -, hz, -, hok⟩ := S
  have h1 : 31 ≤ a := by
    rcases Nat.lt_or_ge a 31 with q | q
    · exact absurd (by rw [← (hc a q).1]; exact hk) (kcT_no (L := xL x) (a := a))
    · exact q
  have h2 : a < HN h := by
    rcases Nat.lt_or_ge a (HN h) with q | q
    · exact q
    · rw [hz a q] at hk
      unfold KOK at hk
      omega
  obtain ⟨-, q, hq⟩ := hok a h1 h2
  exact ⟨h1, h2, q, hq, wl_at h1 h2 hq⟩
/-- values: a reference lies below the mark, and stands for its address -/
def VR (ad : Nat → Option Nat) (n : Nat) (v w : Value) : Prop := match v with
  | .ref a => a < n ∧ w = va_rf (ad a)
  | .null => False
  | v => w = v
/-- two maps agree on what was there -/
def Ext (ad ad' : Nat → Option Nat) (n : Nat) : Prop := ∀ a, a < n → ad' a = ad a
theorem VR.ext {ad ad' : Nat → Option Nat} {n n' : Nat} {v w : Value} (h : VR ad n v w) (hx : Ext ad ad' n) (hn : n ≤ n') : VR ad' n' v w := by
  cases v with
  | ref a => exact ⟨Nat.lt_of_lt_of_le h.1 hn, by rw [hx a h.1]; exact h.2⟩
  | _ => exact h
theorem VR.cat {ad : Nat → Option Nat} {n : Nat} {v w : Value} (h : VR ad n v w) : w.category = v.category := by
  cases v with
  | ref a =>
    obtain ⟨-, rfl⟩ := h
    cases ad a <;> rfl
  | null => exact h.elim
  | _ => cases h; rfl
def SK (ad : Nat → Option Nat) (n : Nat) : List Value → List Value → Prop
  | [], ws => ws = []
  | v :: l, ws => ∃ w ws', ws = w :: ws' ∧ VR ad n v w ∧ SK ad n l ws'
theorem SK.ext {ad ad' : Nat → Option Nat} {n n' : Nat} (hx : Ext ad ad' n) (hn : n ≤ n') : ∀ {st ws : List Value}, SK ad n st ws → SK ad' n' st ws
  | [], _, h => h
  | _ :: _, _, h => by
    obtain ⟨w, ws', e, h1, h2⟩ := h
    exact ⟨w, ws', e, h1.ext hx hn, SK.ext hx hn h2⟩
theorem SK.wgt {ad : Nat → Option Nat} {n : Nat} : ∀ {st ws : List Value}, SK ad n st ws → (ws.map fun v => v.category).sum = wgt st
  | [], _, h => by cases h; rfl
  | v :: l, _, h => by
    obtain ⟨w, ws', rfl, h1, h2⟩ := h
    simp only [List.map_cons, List.sum_cons, Jvm.Pilot.CRecordReconcilerLaw_law_r8796_3f684c.wgt, h1.cat, SK.wgt h2]
/-- the locals -/
def dsl (y : Nat) : List Nat := if y = 343 then [7] else []
def okl (y k : Nat) (v : Value) : Prop := match v with
  | .double _ => mem' (dsl y) k = true
  | .long _ => False
  | _ => True
def LH (ad : Nat → Option Nat) (n y nL : Nat) (ls : List Value) (rls : Array Slot) : Prop := rls.size = nL ∧ lv_wf rls ∧ ∀ k, okl y k (gl ls k) ∧ (gl ls k = .null ∨ ∃ w, VR ad n (gl ls k) w ∧ rls[k]? = some (.val w))
theorem LH.ext {ad ad' : Nat → Option Nat} {n n' y nL : Nat} {ls : List Value} {rls : Array Slot} (h : LH ad n y nL ls rls) (hx : Ext ad ad' n) (hn : n ≤ n') : LH ad' n' y nL ls rls := by
  refine ⟨h.1, h.2.1, fun k => ⟨(h.2.2 k).1, ?_⟩⟩
  rcases (h.2.2 k).2 with e | ⟨w, h1, h2⟩
  · exact Or.inl e
  · exact Or.inr ⟨w, h1.ext hx hn, h2⟩
theorem gl_sl : ∀ (l : List Value) (i k : Nat) (v : Value), gl (sl l i v) k = if k = i ∧ i < l.length then v else gl l k
  | [], i, k, v => by simp [sl, gl]
  | a :: l, 0, 0, v => by simp [sl, gl]
  | a :: l, 0, k + 1, v => by simp [sl, gl]
  | a :: l, i + 1, 0, v => by simp [sl, gl]
  | a :: l, i + 1, k + 1, v => by
    simp only [sl, gl, gl_sl l i k v, List.length_cons]
    by_cases h : k = i ∧ i < l.length
    · rw [if_pos h, if_pos ⟨by omega, by omega⟩]
    · rw [if_neg h, if_neg (by omega)]
def lvl (rls : Array Slot) : List (Nat × Value) := (List.range rls.size).filterMap (fun k => match (rls[k]? : Option Slot) with
  | some (Slot.val w) => some (k, w)
  | _ => none)
theorem lvl_mem {rls : Array Slot} {k : Nat} {w : Value} : (k, w) ∈ lvl rls ↔ rls[k]? = some (.val w) := by
  unfold lvl
  rw [List.mem_filterMap]
  constructor
  · rintro ⟨i, -, hi⟩
    split at hi
    · rename_i w' he
      cases hi
      exact he
    · cases hi
  · intro h
    refine ⟨k, List.mem_range.mpr (lv_lt h), ?_⟩
    rw [h]
theorem LH.has {ad : Nat → Option Nat} {n y nL : Nat} {ls : List Value} {rls : Array Slot} (h : LH ad n y nL ls rls) : lv_has rls nL (lvl rls) := ⟨h.1, h.2.1, fun q hq => lvl_mem.mp hq⟩
/-- a value of one slot is stored -/
theorem LH.put {ad : Nat → Option Nat} {n y nL i : Nat} {ls : List Value} {rls rls' : Array Slot} {v w : Value} (h : LH ad n y nL ls rls) (hv : VR ad n v w) (hc : v.category = 1) (hd : mem' ((dsl y).map (· + 1)) i = false)
    (h' : lv_has rls' nL ((i, w) :: (lvl rls).filter (fun q => !(q.1 == i) && !(q.1 + 1 == i && q.2.category == 2)))) : LH ad n y nL (sl ls i v) rls' := by
  refine ⟨h'.1, h'.2.1, fun k => ?_⟩
  rw [gl_sl]
  by_cases hk : k = i ∧ i < ls.length
  · rw [if_pos hk, hk.1]
    refine ⟨?_, Or.inr ⟨w, hv, h'.2.2 (i, w) List.mem_cons_self⟩⟩
    cases v <;> first | trivial | (simp [Value.category] at hc)
  · rw [if_neg hk]
    refine ⟨(h.2.2 k).1, ?_⟩
    rcases (h.2.2 k).2 with e | ⟨w1, h1, h2⟩
    · exact Or.inl e
    · by_cases hki : k = i
      · exact Or.inl (by
          have hl : ¬ i < ls.length := fun z => hk ⟨hki, z⟩
          have : ∀ (l : List Value) (j : Nat), ¬ j < l.length → gl l j = .null := by
            intro l
            induction l with
            | nil => intro j _; rfl
            | cons a l ih =>
              intro j hj
              cases j with
              | zero => simp at hj
              | succ j => exact ih j (by simpa using hj)
          rw [hki]
          exact this ls i hl)
      · refine Or.inr ⟨w1, h1, h'.2.2 (k, w1) (List.mem_cons_of_mem _ (List.mem_filter.mpr ⟨lvl_mem.mpr h2, ?_⟩))⟩
        have hcat := h1.cat
        have hok := (h.2.2 k).1
        have : ¬ (k + 1 = i ∧ w1.category = 2) := by
          rintro ⟨e1, e2⟩
          rw [hcat] at e2
          have hm : ∀ (l : List Nat), mem' l k = true → mem' (l.map (· + 1)) (k + 1) = true := by
            intro l
            induction l with
            | nil => intro z; cases z
            | cons a l ih =>
              intro z
              simp only [mem', List.map_cons] at z ⊢
              cases hb : Nat.beq a k with
              | true =>
                have : a = k := Nat.eq_of_beq_eq_true hb
                subst this
                simp
              | false =>
                rw [hb] at z
                have hb2 : Nat.beq (a + 1) (k + 1) = false := by
                  rw [← Bool.not_eq_true] at hb ⊢
                  intro z2
                  exact hb (by have := Nat.eq_of_beq_eq_true z2; have : a = k := by omega
                               subst this; simp)
                rw [hb2]
                exact ih z
          cases hg : gl ls k with
          | double d =>
            rw [hg] at hok
            have := hm _ hok
            rw [e1, hd] at this
            cases this
          | long d => rw [hg] at hok; exact hok
          | _ => rw [hg] at e2; simp [Value.category] at e2
        simp only [Bool.and_eq_true, Bool.not_eq_true', beq_eq_false_iff_ne, ne_eq, Bool.and_eq_false_iff]
        refine ⟨hki, ?_⟩
        by_cases e1 : k + 1 = i
        · exact Or.inr (fun z => this ⟨e1, z⟩)
        · exact Or.inl e1
