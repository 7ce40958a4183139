/-! THE HEAP'S ROWS: an instruction on cells, over the states -/
def TW : List Cond := TBL.filter goodWord
theorem tw_of {i : Nat} {w : Cond} (h : okAt i w = true) : w ∈ TW := by
  simp only [okAt, Bool.and_eq_true, decide_eq_true_eq] at h
  exact List.mem_filter.mpr ⟨List.mem_of_getElem? h.1, h.2⟩
def chkLay : Nat → List (List Nat) → Bool
  | _, [] => true
  | kd, hs :: l => (List.range (NNa kd)).all (fun k => match hs[k]? with
    | some i => okAt i (u_lay (RRa kd) (TTa kd) k)
    | none => false) && chkLay (kd + 1) l
/-- the tables' checks, done in a later part -/
def TOK : Prop := fldA.all chkFld = true ∧ newA.all chkNew = true ∧ ldiA.all chkLdi = true ∧ (∀ r ∈ lnkA, chkLnk r = true) ∧ (∀ y : Nat, y < 343 → ∃ r, chkMet y r = true) ∧ chkLay 1 layA = true
theorem chkLay_at {kd : Nat} : ∀ {l : List (List Nat)} {k0 : Nat}, chkLay k0 l = true → k0 ≤ kd → kd < k0 + l.length → ∀ w ∈ u_ws (RRa kd) (TTa kd) (NNa kd), w ∈ TW
  | [], k0, _, h1, h2 => absurd h2 (by simp; omega)
  | hs :: l, k0, h, h1, h2 => by
    simp only [chkLay, Bool.and_eq_true] at h
    rcases Nat.eq_or_lt_of_le h1 with e | e
    · subst e
      intro w hw
      obtain ⟨k, hk, rfl⟩ := List.mem_map.mp hw
      have h3 := List.all_eq_true.mp h.1 k hk
      cases hi : hs[k]? with
      | none => rw [hi] at h3; cases h3
      | some i => rw [hi] at h3; exact tw_of h3
    · exact chkLay_at h.2 e (by simp only [List.length_cons] at h2; omega)
theorem lay_in (hT : TOK) {kd : Nat} (h1 : 1 ≤ kd) (h2 : kd ≤ 10) : ∀ w ∈ u_ws (RRa kd) (TTa kd) (NNa kd), w ∈ TW := chkLay_at hT.2.2.2.2.2 h1 (by show kd < 1 + 10; omega)
theorem kd_cases {P : Nat → Prop} (h1 : P 1) (h2 : P 2) (h3 : P 3) (h4 : P 4) (h5 : P 5) (h6 : P 6) (h7 : P 7) (h8 : P 8) (h9 : P 9) (h10 : P 10) {kd : Nat} (a : 1 ≤ kd) (b : kd ≤ 10) : P kd := by
  rcases (show kd = 1 ∨ kd = 2 ∨ kd = 3 ∨ kd = 4 ∨ kd = 5 ∨ kd = 6 ∨ kd = 7 ∨ kd = 8 ∨ kd = 9 ∨ kd = 10 by omega) with rfl | rfl | rfl | rfl | rfl | rfl | rfl | rfl | rfl | rfl <;> assumption
theorem clL_at {kd : Nat} (a : 1 ≤ kd) (b : kd ≤ 10) : clL[kd - 1]? = some (RRa kd, TTa kd, NNa kd) := kd_cases (P := fun kd => clL[kd - 1]? = some (RRa kd, TTa kd, NNa kd)) rfl rfl rfl rfl rfl rfl rfl rfl rfl rfl a b
theorem nn_at {kd : Nat} (a : 1 ≤ kd) (b : kd ≤ 10) : ∀ a, a < NNa kd → ∀ b, b < NNa kd → a ≠ b → (TTa kd a).2.1 ≠ (TTa kd b).2.1 := kd_cases (P := fun kd => ∀ a, a < NNa kd → ∀ b, b < NNa kd → a ≠ b → (TTa kd a).2.1 ≠ (TTa kd b).2.1) nn1 nn2 nn3 nn4 nn5 nn6 nn7 nn8 nn9 nn10 a b
theorem tt_at {kd : Nat} (a : 1 ≤ kd) (b : kd ≤ 10) : ∀ k, k < NNa kd → parseFieldDescriptor (TTa kd k).2.2.1 = some (tta kd k) := kd_cases (P := fun kd => ∀ k, k < NNa kd → parseFieldDescriptor (TTa kd k).2.2.1 = some (tta kd k)) tt1_ok tt2_ok tt3_ok tt4_ok tt5_ok tt6_ok tt7_ok tt8_ok tt9_ok tt10_ok a b
theorem ftc_at : ∀ kd, kd ≤ 10 → ∀ k, k < 23 → (ftc (tta kd k) = 0 ∨ ftc (tta kd k) = 1 ∨ ftc (tta kd k) = 2 ∨ ftc (tta kd k) = 6) := by decide +kernel
theorem nna_at : ∀ kd, kd ≤ 10 → NNa kd ≤ 22 := by decide +kernel
theorem fndFld_in {o i kd k : Nat} : ∀ {l : List (Nat × Nat × Nat × Nat × Nat)}, fndFld l o i kd k = true → ∃ r ∈ l, r.1 = o ∧ r.2.1 = i ∧ r.2.2.1 = kd ∧ r.2.2.2.1 = k
  | [], h => by cases h
  | r :: l, h => by
    simp only [fndFld, Bool.or_eq_true, Bool.and_eq_true] at h
    rcases h with h | h
    · exact ⟨r, List.mem_cons_self, Nat.eq_of_beq_eq_true h.1.1.1, Nat.eq_of_beq_eq_true h.1.1.2, Nat.eq_of_beq_eq_true h.1.2, Nat.eq_of_beq_eq_true h.2⟩
    · obtain ⟨r', h1, h2⟩ := fndFld_in h
      exact ⟨r', List.mem_cons_of_mem _ h1, h2⟩
theorem fld_at (hT : TOK) {o i kd k : Nat} (h : fndFld fldA o i kd k = true) : 1 ≤ kd ∧ kd ≤ 10 ∧ k < NNa kd ∧ Cond.fieldLink (cn o) i (TTa kd k).1 (TTa kd k).2.1 (TTa kd k).2.2.1 ∈ TW := by
  obtain ⟨r, hr, rfl, rfl, rfl, rfl⟩ := fndFld_in h
  have h1 := List.all_eq_true.mp hT.1 r hr
  simp only [chkFld, Bool.and_eq_true] at h1
  obtain ⟨⟨⟨a, b⟩, c⟩, d⟩ := h1
  exact ⟨Nat.le_of_ble_eq_true a, Nat.le_of_ble_eq_true b, (by have := Nat.le_of_ble_eq_true c; omega), tw_of d⟩
theorem va_rf_isR (r : Option Nat) (ty : FieldType) (h : ftc ty = 1) : narrow ty (va_rf r) = va_rf r ∧ fits ty (va_rf r) = true := by
  cases ty <;> simp [ftc] at h <;> cases r <;> exact ⟨rfl, rfl⟩
theorem fit3 {x : Int32} (h : fitc 3 x = true) : x.toInt8.toInt32 = x ∧ narrow .byte (.int x) = .int x ∧ fits .byte (.int x) = true := by
  simp only [fitc, Bool.and_eq_true, decide_eq_true_eq] at h
  have e1 := Int32.le_iff_toInt_le.mp h.1
  have e2 := Int32.le_iff_toInt_le.mp h.2
  have e3 : (127 : Int32).toInt = 127 := by decide
  have e4 : (-128 : Int32).toInt = -128 := by decide
  have e : x.toInt8.toInt32 = x := fb_byte (by omega) (by omega)
  refine ⟨e, ?_, ?_⟩
  · show Value.int x.toInt8.toInt32 = _
    rw [e]
  · simp [fits, h.1, h.2]
theorem fit2 {x : Int32} (h : fitc 2 x = true) : vp_nar .char x = x ∧ narrow .char (.int x) = .int x ∧ fits .char (.int x) = true := by
  simp only [fitc, Bool.and_eq_true, decide_eq_true_eq] at h
  obtain ⟨j, hj, rfl⟩ := nI_of2 (M := 65535) (n := 65535) (by decide) (Int32.not_lt.mpr h.1) h.2
  have h9 := pk_charN (q := j) (by omega)
  refine ⟨?_, h9⟩
  unfold vp_nar
  rw [h9.1]
theorem fit_int {t : Nat} {x : Int32} {ty : FieldType} (h : ftc ty = t * 2) (hf : fitc t x = true) : narrow ty (.int x) = .int x ∧ fits ty (.int x) = true := by
  have hb : ∀ x : Int32, (decide (x = 0) || decide (x = 1)) = true → narrow .boolean (.int x) = .int x ∧ fits .boolean (.int x) = true := by
    intro x hx
    simp only [Bool.or_eq_true, decide_eq_true_eq] at hx
    rcases hx with rfl | rfl <;> decide
  cases ty with
  | int => exact ⟨rfl, rfl⟩
  | boolean =>
    obtain rfl : t = 1 := by simp only [ftc] at h; omega
    exact hb x hf
  | byte =>
    obtain rfl : t = 3 := by simp only [ftc] at h; omega
    exact (fit3 hf).2
  | char =>
    obtain rfl : t = 2 := by simp only [ftc] at h; omega
    exact (fit2 hf).2
  | _ => simp only [ftc] at h; omega
section ROWS
variable {p : Program} {l : Launch} {e : Env} {R : Room} {s : State} {m : MethodId} {args : Array Value} {below : List Frame} {meth : Method} {c : Code} {H : Heap} {locs : List Loc} {cells slots : Nat} {Q : State → Prop}
variable {x : Ctx} {ad : Nat → Option Nat} {h : Hp} {y pc : Nat} {rls : Array Slot} {rest : List Value}
def tysL (x : Ctx) : List (ClassId × FieldType) := [(xA x 100, .int), (xA x 101, .char), (xA x 102, .byte), (xA x 103, .boolean), (xA x 108, .array .boolean), (xA x 106, .array .int), (xA x 107, .object "RecordReconciler$Book")]
/-- where a method's walk stands: the machine, its code, its class, the words -/
def FX (p : Program) (m : MethodId) (c : Code) (meth : Method) (s : State) (args : Array Value) (y : Nat) : Prop := p.tables.exec = Jvm.exec ∧ c.code = yb y ∧ c.maxLocals = nl y ∧ s.vm.findClass (cn (yo y)) = some m.cls ∧ (∀ w ∈ TW, w.before args s = true) ∧ ((yn y).name = "<init>" → meth.name = "<init>")
theorem St.at (S : St x ad h H) {a : Nat} (hk : KOK (HK h a)) : ∃ q, ad a = some q ∧ 31 ≤ a ∧ a < HN h ∧ (wl x ad h)[a - 31]? = some (q, cE x ad h a) := by
  obtain ⟨h1, h2, q, h3, h4⟩ := S.new hk
  exact ⟨q, h3, h1, h2, h4⟩
theorem cE_obj {kd a : Nat} (h2 : kd ≤ 10) (hk : HK h a = kd) : cE x ad h a = .inr (kd - 1, (List.range (NNa kd)).map (fv ad h a kd)) := by
  unfold cE
  rw [hk, if_pos (by omega)]
theorem fs_at {kd a k : Nat} (hk : k < NNa kd) : ((List.range (NNa kd)).map (fv ad h a kd))[k]? = some (fv ad h a kd k) := by
  rw [List.getElem?_map, List.getElem?_range hk]
  rfl
theorem m_get (hT : TOK) (F : FX p m c meth s args y) (hK : va_K (xD x) clL (tysL x) s) (S : St x ad h H) {i kd k a : Nat} (hf : fndFld fldA (yo y) i kd k = true) (hk : HK h a = kd) (hd : decode (yb y) pc = .ok (.getfield i, 3))
    (kk : W p l e R s m args below meth c H locs cells slots Q (F0 m (pc + 3) rls (fv ad h a kd k :: rest))) : W p l e R s m args below meth c H locs cells slots Q (F0 m pc rls (va_rf (ad a) :: rest)) := by
  obtain ⟨h1, h2, h3, h4⟩ := fld_at hT hf
  obtain ⟨q, hq, g1, g2, g3⟩ := S.at (a := a) (by rw [hk]; exact Or.inl ⟨h1, h2⟩)
  rw [cE_obj h2 hk] at g3
  obtain ⟨fx, fb, -, fo, ft, -⟩ := F
  rw [hq]
  exact va_get (D := xD x) (ci := kd - 1) (C := RRa kd) (T := TTa kd) (N := NNa kd) fx fb ft (lay_in hT h1 h2) fo hK S.1 (a - 31) g3 (clL_at h1 h2) k h3 (ft _ h4) (fun _ h9 => h9) (fs_at h3) hd kk
/-- a write into a cell that leaves the world's other cells -/
theorem St.wr (S : St x ad h H) {H1 : Heap} {h' : Hp} {a q : Nat} {ee : va_E} (g1 : 31 ≤ a) (g2 : a < HN h) (hq : ad a = some q) (he : cE x ad h' a = ee) (ho : ∀ b, b ≠ a → cE x ad h' b = cE x ad h b) (hs : h'.1 = h.1) (hs2 : h'.2.1 = h.2.1)
    (hI : ∀ b, b ≠ a → ∀ k, HI h' b k = HI h b k) (hR : ∀ b k, HR h' b k = HR h b k ∨ HR h' b k < HN h) (hR2 : ∀ b, b ≠ a → ∀ k, HR h' b k = HR h b k)
    (P : va_P (xD x) clL ((wl x ad h).set (a - 31) (q, ee)) H1) (Dd : va_D (fr x) ((wl x ad h).set (a - 31) (q, ee))) : St x ad h' H1 := by
  obtain ⟨-, -, s3, s4, s5, s6, s7, s8⟩ := S
  have hn : HN h' = HN h := by unfold HN; rw [hs]
  have hk : ∀ b, HK h' b = HK h b := fun b => by unfold HK; rw [hs2]
  rw [wl_set g1 g2 hq hn he ho] at P Dd
  refine ⟨P, Dd, by omega, fun b hb => ?_, s5, fun b hb => by rw [hk]; exact s6 b (by omega), fun b k => ?_, fun b h1 h2 => ?_⟩
  · obtain ⟨c1, c2, c3⟩ := s4 b hb
    exact ⟨by rw [hs2]; exact c1, fun k => by rw [hI b (by omega) k]; exact c2 k, fun k => by rw [hR2 b (by omega) k]; exact c3 k⟩
  · rcases hR b k with z | z
    · rw [z, hn]; exact s7 b k
    · rw [hn]; exact z
  · rw [hk]
    exact s8 b h1 (by omega)
theorem HI_sI {a k : Nat} {v : Int32} {b j : Nat} : HI (sI h a k v) b j = if b = a ∧ j = k then v else HI h b j := rfl
theorem HR_sR {a k : Nat} {v : Nat} {b j : Nat} : HR (sR h a k v) b j = if b = a ∧ j = k then v else HR h b j := rfl
theorem cE_sI {a k b : Nat} {v : Int32} (hb : b ≠ a) : cE x ad (sI h a k v) b = cE x ad h b := by
  have e : ∀ j, HI (sI h a k v) b j = HI h b j := fun j => by rw [HI_sI, if_neg (fun z => hb z.1)]
  have e2 : HI (sI h a k v) b = HI h b := funext e
  have e3 : fv ad (sI h a k v) b = fv ad h b := by
    funext kd j
    unfold fv
    rw [e]
    rfl
  unfold cE
  rw [e2, e3]
  rfl
theorem cE_sR {a k b : Nat} {v : Nat} (hb : b ≠ a) : cE x ad (sR h a k v) b = cE x ad h b := by
  have e : ∀ j, HR (sR h a k v) b j = HR h b j := fun j => by rw [HR_sR, if_neg (fun z => hb z.1)]
  have e3 : fv ad (sR h a k v) b = fv ad h b := by
    funext kd j
    unfold fv
    rw [e]
    rfl
  unfold cE
  simp only [e, e3]
  rfl
theorem fs_set {h' : Hp} {a kd k : Nat} {v : Value} (hk : fv ad h' a kd k = v) (ho : ∀ j, j ≠ k → fv ad h' a kd j = fv ad h a kd j) : ((List.range (NNa kd)).map (fv ad h a kd)).set k v = (List.range (NNa kd)).map (fv ad h' a kd) := by
  apply List.ext_getElem?
  intro i
  rw [List.getElem?_set, List.getElem?_map, List.getElem?_map, List.length_map, List.length_range]
  by_cases hi : k = i
  · subst hi
    rw [if_pos rfl]
    by_cases hl : k < NNa kd
    · rw [if_pos hl, List.getElem?_range hl, Option.map_some, hk]
    · rw [if_neg hl, List.getElem?_eq_none (by simpa using hl)]
      rfl
  · rw [if_neg hi]
    cases hr : (List.range (NNa kd))[i]? with
    | none => rfl
    | some j =>
      have : j = i := by
        have := List.getElem?_eq_some_iff.mp hr
        obtain ⟨hl, e⟩ := this
        rw [List.getElem_range] at e
        omega
      subst this
      rw [Option.map_some, Option.map_some, ho j (by omega)]
/-- putfield, of an int or of a reference: v the value, h' the heap behind it -/
theorem m_put (hT : TOK) (F : FX p m c meth s args y) (hK : va_K (xD x) clL (tysL x) s) (S : St x ad h H) (hS : va_S (fr x) s.heap H locs) {i kd k a : Nat} {v : Value} {h' : Hp} (hf : fndFld fldA (yo y) i kd k = true) (hk : HK h a = kd) (hd : decode (yb y) pc = .ok (.putfield i, 3))
    (hfin : (!(TTa kd k).2.2.2 || (decide ((yn y).name = "<init>") && decide ((TTa kd k).1 = cn (yo y)))) = true) (hn : narrow (tta kd k) v = v) (hfit : fits (tta kd k) v = true) (hkv : fv ad h' a kd k = v) (ho : ∀ j, j ≠ k → fv ad h' a kd j = fv ad h a kd j)
    (hob : ∀ b, b ≠ a → cE x ad h' b = cE x ad h b) (hs : h'.1 = h.1) (hs2 : h'.2.1 = h.2.1) (hI : ∀ b, b ≠ a → ∀ k, HI h' b k = HI h b k) (hR : ∀ b k, HR h' b k = HR h b k ∨ HR h' b k < HN h) (hR2 : ∀ b, b ≠ a → ∀ k, HR h' b k = HR h b k)
    (kk : ∀ (H1 : Heap) (locs1 : List Loc), St x ad h' H1 → va_S (fr x) s.heap H1 locs1 → W p l e R s m args below meth c H1 locs1 cells slots Q (F0 m (pc + 3) rls rest)) : W p l e R s m args below meth c H locs cells slots Q (F0 m pc rls (v :: va_rf (ad a) :: rest)) := by
  obtain ⟨h1, h2, h3, h4⟩ := fld_at hT hf
  obtain ⟨q, hq, g1, g2, g3⟩ := S.at (a := a) (by rw [hk]; exact Or.inl ⟨h1, h2⟩)
  rw [cE_obj h2 hk] at g3
  obtain ⟨fx, fb, -, fo, ft, fn⟩ := F
  rw [hq]
  have hk' : HK h' a = kd := by unfold HK; rw [hs2]; exact hk
  have fin : ∀ (H1 : Heap) (locs1 : List Loc), va_P (xD x) clL ((wl x ad h).set (a - 31) (q, .inr (kd - 1, ((List.range (NNa kd)).map (fv ad h a kd)).set k v))) H1 → va_D (fr x) ((wl x ad h).set (a - 31) (q, .inr (kd - 1, ((List.range (NNa kd)).map (fv ad h a kd)).set k v))) → va_S (fr x) s.heap H1 locs1 → W p l e R s m args below meth c H1 locs1 cells slots Q (F0 m (pc + 3) rls rest) := by
    intro H1 locs1 P Dd S1
    exact kk H1 locs1 (S.wr g1 g2 hq (by rw [cE_obj h2 hk', ← fs_set hkv ho]) hob hs hs2 hI hR hR2 P Dd) S1
  have hll : k < ((List.range (NNa kd)).map (fv ad h a kd)).length := by simpa using h3
  cases hfl : (TTa kd k).2.2.2 with
  | false => exact va_put (D := xD x) (ci := kd - 1) (C := RRa kd) (T := TTa kd) (N := NNa kd) fx fb ft (lay_in hT h1 h2) (tta kd) (tt_at h1 h2) (nn_at h1 h2) fo hK S.1 S.2.1 hS (a - 31) g3 (clL_at h1 h2) k h3 (ft _ h4) (fun _ h9 => h9) hfl (tt_at h1 h2 k h3) hn hfit hll hd fin
  | true =>
    rw [hfl] at hfin
    simp only [Bool.not_true, Bool.false_or, Bool.and_eq_true, decide_eq_true_eq] at hfin
    exact va_putF (D := xD x) (ci := kd - 1) (C := RRa kd) (T := TTa kd) (N := NNa kd) fx fb ft (lay_in hT h1 h2) (tta kd) (tt_at h1 h2) (nn_at h1 h2) fo hK S.1 S.2.1 hS (a - 31) g3 (clL_at h1 h2) k h3 (ft _ h4) (fun _ h9 => h9) hfl (fn hfin.1) hfin.2 (tt_at h1 h2 k h3) hn hfit hll hd fin
end ROWS
