/-! REGIONS: a run of the abstract machine leaves alone what it can't reach -/
def Nz (Z : Nat → Prop) (n : Nat) : Value → Prop
  | .ref a => a < n ∧ ¬ Z a
  | _ => True
def NzL (Z : Nat → Prop) (n : Nat) : List Value → Prop
  | [] => True
  | v :: l => Nz Z n v ∧ NzL Z n l
def ZI (Z : Nat → Prop) (h : Hp) : Prop := 31 ≤ HN h ∧ (∀ a, Z a → 31 ≤ a ∧ a < HN h) ∧ (∀ a k, HR h a k < HN h) ∧ ∀ a k, ¬ Z a → ¬ Z (HR h a k)
/-- the region's cells are as they were -/
def Zs (Z : Nat → Prop) (h h' : Hp) : Prop := HN h ≤ HN h' ∧ ∀ a, Z a → h'.2.1 a = h.2.1 a ∧ (∀ k, HI h' a k = HI h a k) ∧ ∀ k, HR h' a k = HR h a k
def ZR (Z : Nat → Prop) (h h' : Hp) : Prop := ZI Z h' ∧ Zs Z h h'
def ZT (Z : Nat → Prop) (h : Hp) : TT → Prop
  | none => True
  | some (.inl r) => ZR Z h r.2 ∧ ∀ v, r.1 = .ok v → Nz Z (HN r.2) v
  | some (.inr (.inl c)) => ZR Z h c.2.2.2 ∧ NzL Z (HN c.2.2.2) c.2.1 ∧ NzL Z (HN c.2.2.2) c.2.2.1
  | some (.inr (.inr c)) => c.2.2.2.2.2 = h ∧ NzL Z (HN h) c.2.2.1 ∧ NzL Z (HN h) c.2.2.2.1 ∧ NzL Z (HN h) c.2.2.2.2.1
section ZZ
variable {Z : Nat → Prop} {h h' h1 : Hp} {n n' : Nat} {ls st : List Value} {v : Value}
theorem Zs.rf (Z : Nat → Prop) (h : Hp) : Zs Z h h := ⟨Nat.le_refl _, fun _ _ => ⟨rfl, fun _ => rfl, fun _ => rfl⟩⟩
theorem Zs.tr (a : Zs Z h h') (b : Zs Z h' h1) : Zs Z h h1 := ⟨Nat.le_trans a.1 b.1, fun x hx => ⟨(b.2 x hx).1.trans (a.2 x hx).1, fun k => ((b.2 x hx).2.1 k).trans ((a.2 x hx).2.1 k), fun k => ((b.2 x hx).2.2 k).trans ((a.2 x hx).2.2 k)⟩⟩
theorem ZR.rf (I : ZI Z h) : ZR Z h h := ⟨I, Zs.rf Z h⟩
theorem ZR.tr (a : ZR Z h h') (b : ZR Z h' h1) : ZR Z h h1 := ⟨b.1, a.2.tr b.2⟩
theorem Nz.up (hv : Nz Z n v) (hn : n ≤ n') : Nz Z n' v := by
  cases v with
  | ref a => exact ⟨Nat.lt_of_lt_of_le hv.1 hn, hv.2⟩
  | _ => trivial
theorem NzL.up (hn : n ≤ n') : ∀ {l : List Value}, NzL Z n l → NzL Z n' l
  | [], _ => trivial
  | _ :: _, h => ⟨h.1.up hn, NzL.up hn h.2⟩
theorem NzL.gl : ∀ {l : List Value}, NzL Z n l → ∀ k, Nz Z n (gl l k)
  | [], _, k => by cases k <;> trivial
  | _ :: _, h, 0 => h.1
  | _ :: _, h, k + 1 => NzL.gl h.2 k
theorem NzL.sl (hv : Nz Z n v) : ∀ {l : List Value}, NzL Z n l → ∀ k, NzL Z n (sl l k v)
  | [], _, k => by cases k <;> trivial
  | _ :: _, h, 0 => ⟨hv, h.2⟩
  | _ :: _, h, k + 1 => ⟨h.1, NzL.sl hv h.2 k⟩
theorem NzL.pad : ∀ (k : Nat) {l : List Value}, NzL Z n l → NzL Z n (padn k l)
  | 0, _, _ => trivial
  | k + 1, [], h => ⟨trivial, NzL.pad k h⟩
  | k + 1, _ :: _, h => ⟨h.1, NzL.pad k h.2⟩
theorem NzL.pop : ∀ {k : Nat} {st acc as st' : List Value}, popn k st acc = some (as, st') → NzL Z n st → NzL Z n acc → NzL Z n as ∧ NzL Z n st'
  | 0, _, _, _, _, h, h1, h2 => by
    simp only [popn] at h
    cases h
    exact ⟨h2, h1⟩
  | k + 1, [], _, _, _, h, _, _ => by simp only [popn] at h; cases h
  | k + 1, v :: st, acc, _, _, h, h1, h2 => by
    simp only [popn] at h
    exact NzL.pop (acc := v :: acc) h h1.2 ⟨h1.1, h2⟩
theorem ZT_cond {b : Bool} {x y : TT} (h1 : ZT Z h x) (h2 : ZT Z h y) : ZT Z h (cond b x y) := by cases b <;> assumption
theorem ZT_ite {c : Prop} [Decidable c] {x y : TT} (h1 : ZT Z h x) (h2 : ZT Z h y) : ZT Z h (if c then x else y) := by split <;> assumption
theorem ZT_cint {c : ClassFile.Cond} {a b : Int32} {x y : TT} (h1 : ZT Z h x) (h2 : ZT Z h y) : ZT Z h (cint c a b x y) := by
  cases c <;> simp only [cint] <;> split <;> assumption
theorem ZT_k {nx : Nat} (I : ZI Z h) (hl : NzL Z (HN h) ls) (hs : NzL Z (HN h) st) : ZT Z h (tKs nx ls st h) := ⟨ZR.rf I, hl, hs⟩
theorem ZR_I {a k : Nat} {x : Int32} (I : ZI Z h) (ha : ¬ Z a) : ZR Z h (sI h a k x) := ⟨I, Nat.le_refl _, fun b hb => ⟨rfl, fun j => if_neg (fun (z : b = a ∧ j = k) => ha (z.1 ▸ hb)), fun _ => rfl⟩⟩
theorem ZR_R {a k x : Nat} (I : ZI Z h) (ha : ¬ Z a) (hx : x < HN h ∧ ¬ Z x) : ZR Z h (sR h a k x) := by
  have e : ∀ b j, HR (sR h a k x) b j = if b = a ∧ j = k then x else HR h b j := fun _ _ => rfl
  refine ⟨⟨I.1, I.2.1, fun b j => ?_, fun b j hb => ?_⟩, Nat.le_refl _, fun b hb => ⟨rfl, fun _ => rfl, fun j => if_neg (fun (z : b = a ∧ j = k) => ha (z.1 ▸ hb))⟩⟩
  · rw [e]
    split
    · exact hx.1
    · exact I.2.2.1 b j
  · rw [e]
    split
    · exact hx.2
    · exact I.2.2.2 b j hb
theorem ZI.nn (I : ZI Z h) : ¬ Z (HN h) := fun z => Nat.lt_irrefl _ (I.2.1 _ z).2
theorem ZI.n0 (I : ZI Z h) : ¬ Z 0 := fun z => absurd (I.2.1 _ z).1 (by decide)
theorem ZR_new {k m : Nat} (I : ZI Z h) : ZR Z h (hnew h k m) := by
  have e : ∀ b j, HR (hnew h k m) b j = if b = HN h then 0 else HR h b j := fun _ _ => rfl
  have hN : HN (hnew h k m) = HN h + 1 := rfl
  refine ⟨⟨by rw [hN]; exact Nat.le_succ_of_le I.1, fun a ha => ⟨(I.2.1 a ha).1, Nat.lt_succ_of_lt (I.2.1 a ha).2⟩, fun b j => ?_, fun b j hb => ?_⟩, Nat.le_succ _, fun b hb => ?_⟩
  · rw [e, hN]
    split
    · exact Nat.succ_pos _
    · exact Nat.lt_succ_of_lt (I.2.2.1 b j)
  · rw [e]
    split
    · exact I.n0
    · exact I.2.2.2 b j hb
  · have hne : b ≠ HN h := fun z => I.nn (z ▸ hb)
    exact ⟨if_neg hne, fun j => if_neg hne, fun j => if_neg hne⟩
theorem ZR_many {m : Nat} {q : Nat → Nat × Nat} {i : Nat → Nat → Int32} {r : Nat → Nat → Nat} {j : Nat → Nat → Int64} {d : Nat → Nat → UInt64} {c s : Nat} (I : ZI Z h) (hq : ∀ b, b < HN h → q b = h.2.1 b) (hi : ∀ b, b < HN h → ∀ k, i b k = HI h b k) (hr : ∀ b, b < HN h → ∀ k, r b k = HR h b k) (hr2 : ∀ b, HN h ≤ b → ∀ k, r b k = 0 ∨ (HN h ≤ r b k ∧ r b k < HN h + m) ∨ r b k = HR h b k) (hm : 1 ≤ m) : ZR Z h ((HN h + m, c, s), q, i, r, j, d) := by
  have hN : HN ((HN h + m, c, s), q, i, r, j, d) = HN h + m := rfl
  have hR : HR ((HN h + m, c, s), q, i, r, j, d) = r := rfl
  have i1 := I.1
  refine ⟨⟨by rw [hN]; omega, fun a ha => ⟨(I.2.1 a ha).1, by rw [hN]; have := (I.2.1 a ha).2; omega⟩, fun b k => ?_, fun b k hb => ?_⟩, by rw [hN]; omega, fun b hb => ?_⟩
  · rw [hR, hN]
    have := I.2.2.1 b k
    by_cases z : b < HN h
    · rw [hr b z k]
      omega
    · rcases hr2 b (by omega) k with e | e | e
      · omega
      · omega
      · rw [e]
        omega
  · rw [hR]
    by_cases z : b < HN h
    · rw [hr b z k]
      exact I.2.2.2 b k hb
    · rcases hr2 b (by omega) k with e | e | e
      · rw [e]
        exact I.n0
      · exact fun w => absurd (I.2.1 _ w).2 (by omega)
      · rw [e]
        exact I.2.2.2 b k hb
  · have hlt := (I.2.1 b hb).2
    exact ⟨hq b hlt, hi b hlt, hr b hlt⟩
theorem ZR_new2 {k m : Nat} (I : ZI Z h) : ZR Z h (hnew2 h k m) := by
  refine ZR_many I (fun b hb => ?_) (fun b hb j => ?_) (fun b hb j => ?_) (fun b hb j => ?_) (by omega)
  · show (if b = HN h then _ else if HN h < b ∧ b ≤ HN h + k then _ else h.2.1 b) = _
    rw [if_neg (by omega), if_neg (by omega)]
  · show (if HN h ≤ b ∧ b ≤ HN h + k then 0 else HI h b j) = _
    rw [if_neg (by omega)]
  · show (if b = HN h then (if j < k then HN h + 1 + j else 0) else if HN h < b ∧ b ≤ HN h + k then 0 else HR h b j) = _
    rw [if_neg (by omega), if_neg (by omega)]
  · show (if b = HN h then (if j < k then HN h + 1 + j else 0) else if HN h < b ∧ b ≤ HN h + k then 0 else HR h b j) = 0 ∨ _ ∨ _
    split
    · split
      · right; left; omega
      · exact Or.inl rfl
    · split
      · exact Or.inl rfl
      · exact Or.inr (Or.inr rfl)
theorem ZR_new3 {k m : Nat} (I : ZI Z h) : ZR Z h (hnew3 h k m) := by
  refine ZR_many I (fun b hb => ?_) (fun b hb j => ?_) (fun b hb j => ?_) (fun b hb j => ?_) (by omega)
  · show (if b = HN h then _ else if HN h < b ∧ b ≤ HN h + k then _ else h.2.1 b) = _
    rw [if_neg (by omega), if_neg (by omega)]
  · show (if HN h ≤ b ∧ b ≤ HN h + k then 0 else HI h b j) = _
    rw [if_neg (by omega)]
  · show (if b = HN h then (if j < k then HN h + 1 + j else 0) else if HN h < b ∧ b ≤ HN h + k then 0 else HR h b j) = _
    rw [if_neg (by omega), if_neg (by omega)]
  · show (if b = HN h then (if j < k then HN h + 1 + j else 0) else if HN h < b ∧ b ≤ HN h + k then 0 else HR h b j) = 0 ∨ _ ∨ _
    split
    · split
      · right; left; omega
      · exact Or.inl rfl
    · split
      · exact Or.inl rfl
      · exact Or.inr (Or.inr rfl)
theorem ZR_cln {a : Nat} (I : ZI Z h) : ZR Z h (hcln h a) := by
  refine ZR_many I (fun b hb => ?_) (fun b hb j => ?_) (fun b hb j => ?_) (fun b hb j => ?_) (by omega)
  · show (if b = HN h then _ else h.2.1 b) = _
    rw [if_neg (by omega)]
  · show (if b = HN h then HI h a j else HI h b j) = _
    rw [if_neg (by omega)]
  · show (if b = HN h then 0 else HR h b j) = _
    rw [if_neg (by omega)]
  · by_cases z : b = HN h
    · exact Or.inl (if_pos z)
    · exact Or.inr (Or.inr (if_neg z))
theorem ZR_thr (I : ZI Z h) : ZR Z h (hthr h) := ⟨I, Nat.le_refl _, fun _ _ => ⟨rfl, fun _ => rfl, fun _ => rfl⟩⟩
theorem ZR_cpy {sa sp da dp m : Nat} (I : ZI Z h) (ha : ¬ Z da) : ZR Z h (hcpy h sa sp da dp m) := ⟨I, Nat.le_refl _, fun b hb => ⟨rfl, fun j => if_neg (fun (z : b = da ∧ dp ≤ j ∧ j < dp + m) => ha (z.1 ▸ hb)), fun _ => rfl⟩⟩
theorem ZT_z {nx : Nat} (R : ZR Z h h') (hl : NzL Z (HN h) ls) (hs : NzL Z (HN h') st) : ZT Z h (tKs nx ls st h') := ⟨R, hl.up R.2.1, hs⟩
theorem ZI.r (I : ZI Z h) {a : Nat} (ha : ¬ Z a) (k : Nat) : HR h a k < HN h ∧ ¬ Z (HR h a k) := ⟨I.2.2.1 a k, I.2.2.2 a k ha⟩
end ZZ
/-- what is asked of a row: a constant reference is an old cell's -/
def okz (op : Instr) : Bool := match op with
  | .getstatic a => Nat.blt a 31
  | _ => true
set_option maxHeartbeats 8000000 in
theorem stp_z {Z : Nat → Prop} (rk : Nat → Nat) (y : Nat) (op : Instr) (nx : Nat) (ls st : List Value) (h : Hp) (ho : okz op = true) (I : ZI Z h) (hl : NzL Z (HN h) ls) : NzL Z (HN h) st → ZT Z h (stp none (fun r => some (.inl r)) tKs tCall rk y op nx ls st h) := by
  have hg := hl.gl
  have i31 : ∀ a, a < 31 → a < HN h ∧ ¬ Z a := fun a ha => ⟨Nat.lt_of_lt_of_le ha I.1, fun z => absurd (I.2.1 a z).1 (by omega)⟩
  have hnn : HN h < HN h + 1 ∧ ¬ Z (HN h) := ⟨Nat.lt_succ_self _, I.nn⟩
  cases op <;> simp only [stp]
  case getstatic a =>
    intro hs
    exact ZT_k I hl ⟨i31 a (Nat.le_of_ble_eq_true ho), hs⟩
  case aload k =>
    intro hs
    have hk := hg k
    split
    · rename_i a e
      rw [e] at hk
      exact ZT_k I hl ⟨hk, hs⟩
    · trivial
  case iload k => intro hs; split <;> first | exact ZT_k I hl ⟨trivial, hs⟩ | trivial
  case fload k => intro hs; split <;> first | exact ZT_k I hl ⟨trivial, hs⟩ | trivial
  case dload k => intro hs; split <;> first | exact ZT_k I hl ⟨trivial, hs⟩ | trivial
  case istore k => split <;> intro hs <;> first | exact ZT_k I (hl.sl hs.1 k) hs.2 | trivial
  case fstore k => split <;> intro hs <;> first | exact ZT_k I (hl.sl hs.1 k) hs.2 | trivial
  case dstore k => split <;> intro hs <;> first | exact ZT_k I (NzL.sl (v := .null) trivial (hl.sl hs.1 k) (k + 1)) hs.2 | trivial
  case astore k => split <;> intro hs <;> first | exact ZT_k I (hl.sl hs.1 k) hs.2 | trivial
  case iinc k v =>
    intro hs
    split
    · exact ZT_k I (NzL.sl (v := .int _) trivial hl k) hs
    · trivial
  case invokeinterface y2 c =>
    intro hs
    split
    · rename_i as st' e
      obtain ⟨p1, p2⟩ := NzL.pop e hs trivial
      exact ZT_cond (ZT_cond ⟨rfl, hl, p1, p2⟩ trivial) trivial
    · trivial
  case getfield n =>
    split
    · rename_i a st0
      intro hs
      refine ZT_cond ?_ trivial
      split
      · exact ZT_k I hl ⟨trivial, hs.2⟩
      · exact ZT_k I hl ⟨I.r hs.1.2 _, hs.2⟩
    · exact fun _ => trivial
  case putfield n =>
    split
    · rename_i x a st0
      intro hs
      refine ZT_cond (ZT_cond ?_ trivial) trivial
      split
      · exact ZT_z (ZR_I I hs.2.1.2) hl hs.2.2
      · exact ZT_cond (ZT_z (ZR_I I hs.2.1.2) hl hs.2.2) trivial
    · rename_i x a st0
      intro hs
      exact ZT_cond (ZT_cond (ZT_z (ZR_R I hs.2.1.2 hs.1) hl hs.2.2) trivial) trivial
    · exact fun _ => trivial
  case new n => exact fun hs => ZT_z (ZR_new I) hl ⟨hnn, hs.up (Nat.le_succ _)⟩
  case newarray t =>
    split
    · exact fun hs => ZT_cond (ZT_z (ZR_new I) hl ⟨hnn, hs.2.up (Nat.le_succ _)⟩) trivial
    · exact fun _ => trivial
  case anewarray kd =>
    split
    · exact fun hs => ZT_cond (ZT_z (ZR_new I) hl ⟨hnn, hs.2.up (Nat.le_succ _)⟩) trivial
    · exact fun _ => trivial
  case multianewarray kd dd =>
    split
    · split
      · exact fun hs => ZT_cond (ZT_z (ZR_new3 I) hl ⟨⟨by show HN h < HN h + (1 + _); omega, I.nn⟩, hs.2.2.up (Nat.le_add_right _ _)⟩) trivial
      · exact fun hs => ZT_cond (ZT_z (ZR_new2 I) hl ⟨⟨by show HN h < HN h + (1 + _); omega, I.nn⟩, hs.2.2.up (Nat.le_add_right _ _)⟩) trivial
    · exact fun _ => trivial
  case instanceof z =>
    split
    · exact fun hs => ZT_cond (ZT_z (ZR_cln I) hl ⟨hnn, hs.2.up (Nat.le_succ _)⟩) trivial
    · exact fun _ => trivial
  case aaload =>
    split
    · exact fun hs => ZT_cond (ZT_k I hl ⟨I.r hs.2.1.2 _, hs.2.2⟩) trivial
    · exact fun _ => trivial
  case dup_x2 =>
    split
    · exact fun hs => ZT_cond (ZT_k I hl ⟨I.r hs.2.1.2 _, hs.2.2⟩) trivial
    · exact fun _ => trivial
  case aastore =>
    split
    · exact fun hs => ZT_cond (ZT_z (ZR_R I hs.2.2.1.2 hs.1) hl hs.2.2.2) trivial
    · exact fun _ => trivial
  case invokedynamic e => exact fun hs => ZT_cond ⟨ZR_thr I, fun v hv => nomatch hv⟩ trivial
  case invokestatic n =>
    split
    · split
      · exact fun hs => ZT_cond (ZT_z (ZR_cpy I hs.2.2.1.2) hl hs.2.2.2.2.2) trivial
      · exact fun _ => trivial
    · split
      · exact fun hs => ZT_cond (ZT_k I hl ⟨trivial, hs.2.2⟩) trivial
      · exact fun _ => trivial
    · split
      · exact fun hs => ZT_cond (ZT_k I hl ⟨trivial, hs.2.2⟩) trivial
      · exact fun _ => trivial
    · split
      · exact fun hs => ZT_cond (ZT_k I hl ⟨trivial, hs.2⟩) trivial
      · exact fun _ => trivial
  case areturn =>
    split
    · exact fun hs => ⟨ZR.rf I, fun v hv => by cases hv; exact hs.1⟩
    · exact fun _ => trivial
  case goto t => exact fun hs => ZT_k I hl hs
  case ifCond c t =>
    split
    · exact fun hs => ZT_cint (ZT_k I hl hs.2) (ZT_k I hl hs.2)
    · exact fun _ => trivial
  case if_icmp c t =>
    split
    · exact fun hs => ZT_cint (ZT_k I hl hs.2.2) (ZT_k I hl hs.2.2)
    · exact fun _ => trivial
  case ifnonnull t =>
    split
    · exact fun hs => ZT_cond (ZT_k I hl hs.2) trivial
    · exact fun _ => trivial
  case tableswitch d lo hi os =>
    split
    · exact fun hs => ZT_ite (ZT_k I hl hs.2) (ZT_ite (ZT_k I hl hs.2) (ZT_k I hl hs.2))
    · exact fun _ => trivial
  case invokespecial z =>
    split
    · exact fun hs => ZT_cond (ZT_k I hl hs.2) trivial
    · exact fun _ => trivial
  all_goals first
    | exact fun _ => trivial
    | exact fun hs => ZT_k I hl ⟨trivial, hs⟩
    | (repeat' split) <;> first
      | exact fun _ => trivial
      | exact fun hs => ZT_k I hl hs.2
      | exact fun hs => ZT_k I hl ⟨trivial, hs.2⟩
      | exact fun hs => ZT_k I hl ⟨trivial, hs.2.2⟩
      | exact fun hs => ZT_k I hl ⟨hs.1, hs⟩
      | exact fun hs => ZT_k I hl ⟨hs.1, hs.2.1, hs.1, hs.2.2⟩
      | exact fun hs => ZT_k I hl ⟨hs.1, hs.2.1, hs⟩
      | exact fun hs => ZT_ite trivial (ZT_k I hl ⟨trivial, hs.2.2⟩)
      | exact fun hs => ZT_ite (ZT_k I hl ⟨trivial, hs.2.2⟩) trivial
      | exact fun hs => ZT_ite (ZT_k I hl ⟨trivial, hs.2⟩) trivial
      | exact fun hs => ZT_cond (ZT_k I hl ⟨trivial, hs.2.2⟩) trivial
      | exact fun hs => ZT_cond (ZT_k I hl ⟨trivial, hs.2⟩) trivial
      | exact fun hs => ZT_cond (ZT_k I hl hs) trivial
      | exact fun hs => ZT_cond (ZT_z (ZR_I I hs.2.2.1.2) hl hs.2.2.2) trivial
      | exact fun hs => ⟨ZR.rf I, fun v hv => by cases hv; trivial⟩
      | exact fun hs => ZT_cond ⟨ZR.rf I, fun v hv => by cases hv; trivial⟩ trivial
theorem okz_all : (List.range 344).all (fun y => (ct y).all (fun b => b.all (fun r => okz r.2.2.2))) = true := by decide +kernel
theorem okz_at {y pc nx : Nat} {op : Instr} (hy : y < 344) (h : cd y pc = some (op, nx)) : okz op = true := by
  unfold cd at h
  obtain ⟨o, ho⟩ := lkp_in h
  rcases nth2_in (d := []) (l := ct y) (k := pc / 64) with hb | hb
  · rw [hb] at ho
    exact nomatch ho
  · exact List.all_eq_true.mp (List.all_eq_true.mp (List.all_eq_true.mp okz_all y (List.mem_range.mpr hy)) _ hb) _ ho
/-- a call's number is below its caller's -/
def ylt (y : Nat) : TT → Prop
  | some (.inr (.inr c)) => c.1 < y
  | _ => True
theorem ylt_cond {y : Nat} {b : Bool} {x z : TT} (h1 : b = true → ylt y x) (h2 : b = false → ylt y z) : ylt y (cond b x z) := by cases b <;> first | exact h1 rfl | exact h2 rfl
theorem ylt_cint {y : Nat} {c : ClassFile.Cond} {a b : Int32} {x z : TT} (h1 : ylt y x) (h2 : ylt y z) : ylt y (cint c a b x z) := by
  cases c <;> simp only [cint] <;> split <;> assumption
set_option maxHeartbeats 8000000 in
theorem stp_y (rk : Nat → Nat) (y : Nat) (op : Instr) (nx : Nat) (ls st : List Value) (h : Hp) : ylt y (stp none (fun r => some (.inl r)) tKs tCall rk y op nx ls st h) := by
  cases op <;> simp only [stp]
  case invokeinterface y2 c =>
    split
    · refine ylt_cond (fun hb => ylt_cond (fun _ => ?_) (fun _ => trivial)) (fun _ => trivial)
      simp only [Bool.and_eq_true] at hb
      exact Nat.le_of_ble_eq_true hb.1.1
    · trivial
  all_goals (repeat' first | exact trivial | exact ylt_cint trivial trivial | (refine ylt_cond (fun _ => ?_) (fun _ => ?_)) | split)
/-- THE REGION'S THEOREM -/
theorem ev_z {Z : Nat → Prop} : ∀ (n y pc : Nat) (ls st : List Value) (h : Hp) (r : Except Nat Value) (h' : Hp), y < 344 → ev n y pc ls st h = some (r, h') → ZI Z h → NzL Z (HN h) ls → NzL Z (HN h) st → ZR Z h h' ∧ ∀ v, r = .ok v → Nz Z (HN h') v := by
  intro n
  induction n with
  | zero => intro y pc ls st h r h' _ hr; cases hr
  | succ n ih =>
    intro y pc ls st h r h' hy hr I hl hs
    rw [ev] at hr
    cases hc : cd y pc with
    | none => rw [hc] at hr; cases hr
    | some q =>
      obtain ⟨op, nx⟩ := q
      rw [hc] at hr
      dsimp only at hr
      rw [stp_el] at hr
      have hz := stp_z (Z := Z) rk y op nx ls st h (okz_at hy hc) I hl hs
      have hlt := stp_y rk y op nx ls st h
      generalize stp none (fun r => some (.inl r)) tKs tCall rk y op nx ls st h = t at hr hz hlt
      rcases t with _ | r2 | c | c
      · cases hr
      · cases hr
        exact hz
      · obtain ⟨z1, z2, z3⟩ := hz
        obtain ⟨w1, w2⟩ := ih _ _ _ _ _ _ _ hy hr z1.1 z2 z3
        exact ⟨z1.tr w1, w2⟩
      · obtain ⟨z1, z2, z3, z4⟩ := hz
        have hr : callp (hd y) (ev n y) (fun y2 as h => ev n y2 0 (padn (nl y2) as) [] h) pc nx c.1 c.2.1 c.2.2.1 c.2.2.2.1 c.2.2.2.2.1 c.2.2.2.2.2 = some (r, h') := hr
        rw [z1] at hr
        obtain ⟨r1, h1, hq, ho⟩ := callp_out hr
        obtain ⟨w1, w2⟩ := ih _ _ _ _ _ _ _ (Nat.lt_trans hlt hy) hq I (z3.pad _) trivial
        have l1 := z2.up w1.2.1
        have l2 := z4.up w1.2.1
        rcases ho with ⟨k, -, ho⟩ | ⟨-, -, ho⟩ | ⟨-, z, -, ho⟩ | ⟨-, z, e, ho⟩ | ⟨-, z, -, ho⟩ | ⟨-, z, -, ho⟩
        · rcases hsel_out ho with ⟨a, b, h2⟩ | h2
          · obtain ⟨v1, v2⟩ := ih _ _ _ _ _ _ _ hy h2 w1.1 (NzL.sl (v := .null) trivial l1 _) trivial
            exact ⟨w1.tr v1, v2⟩
          · cases h2
            exact ⟨w1, fun v hv => nomatch hv⟩
        · obtain ⟨v1, v2⟩ := ih _ _ _ _ _ _ _ hy ho w1.1 l1 l2
          exact ⟨w1.tr v1, v2⟩
        · obtain ⟨v1, v2⟩ := ih _ _ _ _ _ _ _ hy ho w1.1 l1 ⟨trivial, l2⟩
          exact ⟨w1.tr v1, v2⟩
        · obtain ⟨v1, v2⟩ := ih _ _ _ _ _ _ _ hy ho w1.1 l1 ⟨w2 _ e, l2⟩
          exact ⟨w1.tr v1, v2⟩
        · obtain ⟨v1, v2⟩ := ih _ _ _ _ _ _ _ hy ho w1.1 l1 ⟨trivial, l2⟩
          exact ⟨w1.tr v1, v2⟩
        · obtain ⟨v1, v2⟩ := ih _ _ _ _ _ _ _ hy ho w1.1 l1 ⟨trivial, l2⟩
          exact ⟨w1.tr v1, v2⟩
/-- a call leaves a region alone -/
theorem CL_z {Z : Nat → Prop} {y : Nat} {as : List Value} {h h' : Hp} {r : Except Nat Value} (hy : y < 344) (hr : CL y as h = some (r, h')) (I : ZI Z h) (ha : NzL Z (HN h) as) : ZR Z h h' ∧ ∀ v, r = .ok v → Nz Z (HN h') v := by
  obtain ⟨n, hn⟩ := RF_iff.mp hr
  exact ev_z n y 0 _ _ h r h' hy hn I (ha.pad _) trivial
theorem RF_z {Z : Nat → Prop} {y pc : Nat} {ls st : List Value} {h h' : Hp} {r : Except Nat Value} (hy : y < 344) (hr : RF y pc ls st h = some (r, h')) (I : ZI Z h) (hl : NzL Z (HN h) ls) (hs : NzL Z (HN h) st) : ZR Z h h' ∧ ∀ v, r = .ok v → Nz Z (HN h') v := by
  obtain ⟨n, hn⟩ := RF_iff.mp hr
  exact ev_z n y pc _ _ h r h' hy hn I hl hs
