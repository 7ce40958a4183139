/-! ROWS of new arrays of references -/
theorem wl_push2 {x : Ctx} {ad ad' : Nat → Option Nat} {h h' : Hp} {q n : Nat} {r : Nat → Nat} {e e2 : va_E} (h31 : 31 ≤ HN h) (hn : HN h' = HN h + (1 + n)) (hq : ad' (HN h) = some q) (hr : ∀ i, i < n → ad' (HN h + 1 + i) = some (r i)) (he : cE x ad' h' (HN h) = e) (he2 : ∀ i, i < n → cE x ad' h' (HN h + 1 + i) = e2) (ho : ∀ b, b < HN h → ad' b = ad b ∧ cE x ad' h' b = cE x ad h b) :
    (wl x ad h ++ [(q, e)]) ++ (List.range n).map (fun i => (r i, e2)) = wl x ad' h' := by
  unfold wl
  rw [hn, show HN h + (1 + n) - 31 = (HN h - 31) + 1 + n by omega, List.range_add, List.map_append, List.range_succ, List.map_append, List.map_map]
  congr 1
  · congr 1
    · apply List.map_congr_left
      intro i hi
      have := List.mem_range.mp hi
      rw [(ho (31 + i) (by omega)).1, (ho (31 + i) (by omega)).2]
    · simp only [List.map_cons, List.map_nil]
      rw [show 31 + (HN h - 31) = HN h by omega, hq, he]
      rfl
  · apply List.map_congr_left
    intro i hi
    have := List.mem_range.mp hi
    show (r i, e2) = ((ad' (31 + ((HN h - 31) + 1 + i))).getD 0, cE x ad' h' (31 + ((HN h - 31) + 1 + i)))
    rw [show 31 + ((HN h - 31) + 1 + i) = HN h + 1 + i by omega, hr i this, he2 i this]
    rfl
theorem in_cell (c : ClassId) (n : Nat) : Jvm.Free.Multi.innerC c n (defaultValue .int) = vp_cell c (n, .inl (fun _ => 0)) := by
  unfold Jvm.Free.Multi.innerC vp_cell arrV
  congr 1
  exact Array.ext (by simp) (fun i h1 h2 => by simp [defaultValue])
theorem in_cellz (c : ClassId) (n : Nat) : Jvm.Free.Multi.innerC c n (defaultValue .boolean) = vp_cell c (n, .inl (fun _ => 0)) := by
  unfold Jvm.Free.Multi.innerC vp_cell arrV
  congr 1
  exact Array.ext (by simp) (fun i h1 h2 => by simp [defaultValue])
section ROWS8
variable {p : Program} {l : Launch} {e : Env} {R : Room} {s : State} {m : MethodId} {args : Array Value} {below : List Frame} {meth : Method} {c : Code} {H : Heap} {locs : List Loc} {cells slots : Nat} {Q : State → Prop}
variable {x : Ctx} {ad : Nat → Option Nat} {h : Hp} {y pc : Nat} {rls : Array Slot} {rest : List Value}
theorem m_newq (hT2 : TOK2) (F : FX p m c meth s args y) (hK : va_K (xD x) clL (tysL x) s) (hO : OLDs x s s.heap) (h0 : xC x 0 = none) (S : St x ad h H) (hS : va_S (fr x) s.heap H locs) (hB : xB x ≤ s.heap.size) {i : Nat} {n : Int32} (hf : fnd3 anwA (yo y) i 0 = true) (hd : decode (yb y) pc = .ok (.anewarray i, 3)) (hn : (decide (0 ≤ n) && decide (n ≤ 100)) = true) (hc : cells + 1 ≤ R.cells) (hs : slots + n.toNatClampNeg ≤ R.slots)
    (kk : ∀ (q : Nat) (H1 : Heap) (locs1 : List Loc), St x (adN ad (HN h) q) (hnew h 107 n.toNatClampNeg) H1 → va_S (fr x) s.heap H1 locs1 → W p l e R s m args below meth c H1 locs1 (cells + 1) (slots + n.toNatClampNeg) Q (F0 m (pc + 3) rls (va_rf (adN ad (HN h) q (HN h)) :: rest))) : W p l e R s m args below meth c H locs cells slots Q (F0 m pc rls (.int n :: rest)) := by
  simp only [Bool.and_eq_true, decide_eq_true_eq] at hn
  have hn0 : ¬ n < 0 := Int32.not_lt.mpr hn.1
  obtain ⟨j, hj, ej⟩ := nI_of2 (M := 100) (n := 100) (by decide) hn0 hn.2
  have ec : n.toNatClampNeg = j := by rw [ej]; exact nI_clamp (by omega)
  refine va_newq F.1 F.2.1 (C := "RecordReconciler$Book") F.2.2.2.1 (F.2.2.2.2.1 _ (chkZip_in hT2.2.2.2.1 _ (fnd3_in hf))) hO.2.2.2.2.2.2.2.2.1 hK S.1 S.2.1 hS (fun q hq => Nat.le_trans hB hq) hn0 rfl (by rw [ec]; omega) hc hs hd (fun q cA H1 hK1 P Dd S1 => ?_)
  have e1 := ty_uniq (k := 6) hK1 rfl
  subst e1
  have hz : adN ad (HN h) q 0 = none := by
    have h31 := S.2.2.1
    rw [adN_ext 0 (by omega), S.2.2.2.2.1 0 (by omega), h0]
  have he : cE x (adN ad (HN h) q) (hnew h 107 n.toNatClampNeg) (HN h) = .inl (xA x 107, n.toNatClampNeg, .inr (.inr (.inr (.inr (fun _ => none))))) := by
    rw [cE_ref (kd := 107) (by rw [HK_new, if_pos rfl]) (by omega), HL_new, if_pos rfl]
    have : (fun k => adN ad (HN h) q (HR (hnew h 107 n.toNatClampNeg) (HN h) k)) = fun _ => none := by
      funext k
      rw [show HR (hnew h 107 n.toNatClampNeg) (HN h) k = 0 from congrFun (u1_eq (f := HR h)) k, hz]
    rw [this]
  have h9 := kk q H1 _ (S.mk1 (by unfold KOK; omega) he P Dd) S1
  rw [show adN ad (HN h) q (HN h) = some q by unfold adN; rw [if_pos rfl]] at h9
  exact h9
/-- the map with a row of rows -/
def adM (ad : Nat → Option Nat) (n0 n q : Nat) (r : Nat → Nat) : Nat → Option Nat := fun b => if b = n0 then some q else if n0 < b ∧ b ≤ n0 + n then some (r (b - n0 - 1)) else ad b
theorem adM_ext {n0 n q : Nat} {r : Nat → Nat} : Ext ad (adM ad n0 n q r) n0 := fun a ha => by unfold adM; rw [if_neg (by omega), if_neg (by omega)]
theorem HK_new2 {n k b : Nat} : HK (hnew2 h n k) b = if b = HN h then 106 else if HN h < b ∧ b ≤ HN h + n then 100 else HK h b := by
  unfold HK hnew2
  simp only
  split
  · rfl
  · split <;> rfl
theorem HL_new2 {n k b : Nat} : HL (hnew2 h n k) b = if b = HN h then n else if HN h < b ∧ b ≤ HN h + n then k else HL h b := by
  unfold HL hnew2
  simp only
  split
  · rfl
  · split <;> rfl
theorem m_mna (hT2 : TOK2) (F : FX p m c meth s args y) (hK : va_K (xD x) clL (tysL x) s) (hO : OLDs x s s.heap) (h0 : xC x 0 = none) (S : St x ad h H) (hS : va_S (fr x) s.heap H locs) (hB : xB x ≤ s.heap.size) {i : Nat} {n k : Int32} (hf : fnd3 anwA (yo y) i 1 = true) (hd : decode (yb y) pc = .ok (.multianewarray i 2, 4)) (hn : (decide (0 ≤ n) && decide (n ≤ 100) && decide (0 ≤ k) && decide (k ≤ 100)) = true) (hc : cells + (1 + n.toNatClampNeg) ≤ R.cells) (hs : slots + (n.toNatClampNeg + n.toNatClampNeg * k.toNatClampNeg) ≤ R.slots)
    (kk : ∀ (ad' : Nat → Option Nat) (H1 : Heap) (locs1 : List Loc), Ext ad ad' (HN h) → St x ad' (hnew2 h n.toNatClampNeg k.toNatClampNeg) H1 → va_S (fr x) s.heap H1 locs1 → W p l e R s m args below meth c H1 locs1 (cells + (1 + n.toNatClampNeg)) (slots + (n.toNatClampNeg + n.toNatClampNeg * k.toNatClampNeg)) Q (F0 m (pc + 4) rls (va_rf (ad' (HN h)) :: rest))) : W p l e R s m args below meth c H locs cells slots Q (F0 m pc rls (.int k :: .int n :: rest)) := by
  simp only [Bool.and_eq_true, decide_eq_true_eq] at hn
  obtain ⟨⟨⟨hn1, hn2⟩, hn3⟩, hn4⟩ := hn
  have hn0 : ¬ n < 0 := Int32.not_lt.mpr hn1
  have hk0 : ¬ k < 0 := Int32.not_lt.mpr hn3
  obtain ⟨j, hj, ej⟩ := nI_of2 (M := 100) (n := 100) (by decide) hn0 hn2
  obtain ⟨j', hj', ej'⟩ := nI_of2 (M := 100) (n := 100) (by decide) hk0 hn4
  have ec : n.toNatClampNeg = j := by rw [ej]; exact nI_clamp (by omega)
  have ec' : k.toNatClampNeg = j' := by rw [ej']; exact nI_clamp (by omega)
  have h31 := S.2.2.1
  have hw : (Cond.arrayClass .int).before args s = true := F.2.2.2.2.1 _ (chkFix_in hT2.1 _ (by unfold fixW; simp))
  have hcy : s.vm.findClass (FieldType.array .int).toString = some (xA x 100) := (hK.2 0 _ rfl).2
  refine va_mna (X := wl x ad h) (L := []) (f := fun _ => .inl (xA x 100, 0, .inl (fun _ => 0))) F.1 F.2.1 (ty := .int) (z := (k.toNatClampNeg, .inl (fun _ => 0))) F.2.2.2.1 (F.2.2.2.2.1 _ (chkZip_in hT2.2.2.2.1 _ (fnd3_in hf))) hO.2.2.2.2.2.2.2.2.2.1.1 hw hcy hK (by rw [show va_pl [] _ = [] from rfl, List.append_nil]; exact S.1) (by rw [show va_pl [] _ = [] from rfl, List.append_nil]; exact S.2.1) hS (fun q hq => Nat.le_trans hB hq) hn0 hk0 rfl rfl (by rw [ec]; omega) (by rw [ec']; show j' * 4 ≤ _; omega) (by rw [ec']; omega) (by decide) (by decide) (by omega) (by omega) (fun c => in_cell c _) hd (fun q r cA H1 hinj _ hK1 P Dd S1 => ?_)
  have e1 := ty_uniq (k := 5) hK1 rfl
  subst e1
  rw [List.nil_append] at P Dd
  have hpl : va_pl ((List.range n.toNatClampNeg).map r) (vr_up (fun _ => .inl (xA x 100, 0, .inl (fun _ => 0))) ((List.range n.toNatClampNeg).map r) (.inl (xA x 100, k.toNatClampNeg, .inl (fun _ => 0)))) = (List.range n.toNatClampNeg).map (fun i => (r i, (.inl (xA x 100, k.toNatClampNeg, .inl (fun _ => 0)) : va_E))) := by
    unfold va_pl
    rw [List.map_map]
    apply List.map_congr_left
    intro i hi
    show (r i, vr_up _ _ _ (r i)) = _
    rw [vr_up_in (List.mem_map_of_mem hi)]
  have hne : ∀ b, b < HN h → b ≠ HN h ∧ ¬ (HN h < b ∧ b ≤ HN h + n.toNatClampNeg) := fun b hb => by omega
  have hIo : ∀ b, b < HN h → HI (hnew2 h n.toNatClampNeg k.toNatClampNeg) b = HI h b := fun b hb => by
    funext z
    show (if HN h ≤ b ∧ b ≤ HN h + n.toNatClampNeg then 0 else HI h b z) = _
    rw [if_neg (by omega)]
  have hJo : ∀ b, b < HN h → HJ (hnew2 h n.toNatClampNeg k.toNatClampNeg) b = HJ h b := fun b hb => by
    funext z
    show (if HN h ≤ b ∧ b ≤ HN h + n.toNatClampNeg then 0 else HJ h b z) = _
    rw [if_neg (by omega)]
  have hDo : ∀ b, b < HN h → HD (hnew2 h n.toNatClampNeg k.toNatClampNeg) b = HD h b := fun b hb => by
    funext z
    show (if HN h ≤ b ∧ b ≤ HN h + n.toNatClampNeg then 0 else HD h b z) = _
    rw [if_neg (by omega)]
  have hRo : ∀ b, b < HN h → HR (hnew2 h n.toNatClampNeg k.toNatClampNeg) b = HR h b := fun b hb => by
    funext z
    show (if b = HN h then _ else if HN h < b ∧ b ≤ HN h + n.toNatClampNeg then 0 else HR h b z) = _
    rw [if_neg (by omega), if_neg (by omega)]
  have hcE : ∀ b, b < HN h → cE x (adM ad (HN h) n.toNatClampNeg q r) (hnew2 h n.toNatClampNeg k.toNatClampNeg) b = cE x ad h b := fun b hb => cE_ext (by rw [HK_new2, if_neg (hne b hb).1, if_neg (hne b hb).2]) (by rw [HL_new2, if_neg (hne b hb).1, if_neg (hne b hb).2]) (hIo b hb) (hRo b hb) (hJo b hb) (hDo b hb) (fun z => adM_ext _ (S.2.2.2.2.2.2.1 b z))
  have hA0 : cE x (adM ad (HN h) n.toNatClampNeg q r) (hnew2 h n.toNatClampNeg k.toNatClampNeg) (HN h) = .inl (xA x 106, n.toNatClampNeg, .inr (.inr (.inr (.inr (fun i => if i < n.toNatClampNeg then some (r i) else none))))) := by
    rw [cE_ref (kd := 106) (by rw [HK_new2, if_pos rfl]) (by omega), HL_new2, if_pos rfl]
    have : (fun z => adM ad (HN h) n.toNatClampNeg q r (HR (hnew2 h n.toNatClampNeg k.toNatClampNeg) (HN h) z)) = fun i => if i < n.toNatClampNeg then some (r i) else none := by
      funext z
      rw [show HR (hnew2 h n.toNatClampNeg k.toNatClampNeg) (HN h) z = if z < n.toNatClampNeg then HN h + 1 + z else 0 by
        show (if HN h = HN h then _ else _) = _
        rw [if_pos rfl]]
      unfold adM
      by_cases hz : z < n.toNatClampNeg
      · rw [if_pos hz, if_pos hz, if_neg (by omega), if_pos (by omega), show HN h + 1 + z - HN h - 1 = z by omega]
      · rw [if_neg hz, if_neg hz, if_neg (by omega), if_neg (by omega), S.2.2.2.2.1 0 (by omega), h0]
    rw [this]
  have hA1 : ∀ i, i < n.toNatClampNeg → cE x (adM ad (HN h) n.toNatClampNeg q r) (hnew2 h n.toNatClampNeg k.toNatClampNeg) (HN h + 1 + i) = .inl (xA x 100, k.toNatClampNeg, .inl (fun _ => 0)) := fun i hi => by
    rw [cE_arr (kd := 100) (by rw [HK_new2, if_neg (by omega), if_pos (by omega)]) (by omega), HL_new2, if_neg (by omega), if_pos (by omega)]
    have : HI (hnew2 h n.toNatClampNeg k.toNatClampNeg) (HN h + 1 + i) = fun _ => 0 := by
      funext z
      show (if HN h ≤ HN h + 1 + i ∧ HN h + 1 + i ≤ HN h + n.toNatClampNeg then 0 else _) = _
      rw [if_pos (by omega)]
    rw [this]
  rw [hpl, wl_push2 (ad' := adM ad (HN h) n.toNatClampNeg q r) (h' := hnew2 h n.toNatClampNeg k.toNatClampNeg) h31 rfl (by unfold adM; rw [if_pos rfl]) (fun i hi => by unfold adM; rw [if_neg (by omega), if_pos (by omega), show HN h + 1 + i - HN h - 1 = i by omega]) hA0 hA1 (fun b hb => ⟨adM_ext b hb, hcE b hb⟩)] at P Dd
  obtain ⟨-, -, s3, s4, s5, s6, s7, s8⟩ := S
  have hN2 : HN (hnew2 h n.toNatClampNeg k.toNatClampNeg) = HN h + (1 + n.toNatClampNeg) := rfl
  have h9 := kk (adM ad (HN h) n.toNatClampNeg q r) H1 _ adM_ext ⟨P, Dd, by rw [hN2]; omega, fun b hb => by
      obtain ⟨c1, c2, c3⟩ := s4 b hb
      refine ⟨?_, fun z => by rw [← c2 z, hIo b (by omega)], fun z => by rw [← c3 z, hRo b (by omega)]⟩
      rw [← c1]
      show (if b = HN h then _ else if HN h < b ∧ b ≤ HN h + n.toNatClampNeg then _ else h.2.1 b) = _
      rw [if_neg (by omega), if_neg (by omega)], fun b hb => by rw [adM_ext b (by omega)]; exact s5 b hb, fun b hb => by
      rw [hN2] at hb
      rw [HK_new2, if_neg (by omega), if_neg (by omega)]
      exact s6 b (by omega), fun b z => by
      rw [hN2]
      show (if b = HN h then (if z < n.toNatClampNeg then HN h + 1 + z else 0) else if HN h < b ∧ b ≤ HN h + n.toNatClampNeg then 0 else HR h b z) < _
      split
      · split <;> omega
      · split
        · omega
        · have := s7 b z
          omega, fun b h1 h2 => by
      rw [hN2] at h2
      rw [HK_new2]
      by_cases hb : b = HN h
      · rw [if_pos hb]
        exact ⟨by unfold KOK; omega, q, by unfold adM; rw [if_pos hb]⟩
      · rw [if_neg hb]
        by_cases hb2 : HN h < b ∧ b ≤ HN h + n.toNatClampNeg
        · rw [if_pos hb2]
          exact ⟨by unfold KOK; omega, _, by unfold adM; rw [if_neg hb, if_pos hb2]⟩
        · rw [if_neg hb2]
          obtain ⟨k1, q', k2⟩ := s8 b h1 (by omega)
          exact ⟨k1, q', by rw [adM_ext b (by omega)]; exact k2⟩⟩ S1
  rw [show adM ad (HN h) n.toNatClampNeg q r (HN h) = some q by unfold adM; rw [if_pos rfl]] at h9
  rw [show cells + 1 + n.toNatClampNeg = cells + (1 + n.toNatClampNeg) by omega, show slots + n.toNatClampNeg + n.toNatClampNeg * k.toNatClampNeg = slots + (n.toNatClampNeg + n.toNatClampNeg * k.toNatClampNeg) by omega]
  exact h9
theorem HK_new3 {n k b : Nat} : HK (hnew3 h n k) b = if b = HN h then 108 else if HN h < b ∧ b ≤ HN h + n then 103 else HK h b := by
  unfold HK hnew3
  simp only
  split
  · rfl
  · split <;> rfl
theorem HL_new3 {n k b : Nat} : HL (hnew3 h n k) b = if b = HN h then n else if HN h < b ∧ b ≤ HN h + n then k else HL h b := by
  unfold HL hnew3
  simp only
  split
  · rfl
  · split <;> rfl
theorem m_mnz (hT2 : TOK2) (F : FX p m c meth s args y) (hK : va_K (xD x) clL (tysL x) s) (hO : OLDs x s s.heap) (h0 : xC x 0 = none) (S : St x ad h H) (hS : va_S (fr x) s.heap H locs) (hB : xB x ≤ s.heap.size) {i : Nat} {n k : Int32} (hf : fnd3 anwA (yo y) i 2 = true) (hd : decode (yb y) pc = .ok (.multianewarray i 2, 4)) (hn : (decide (0 ≤ n) && decide (n ≤ 100) && decide (0 ≤ k) && decide (k ≤ 100)) = true) (hc : cells + (1 + n.toNatClampNeg) ≤ R.cells) (hs : slots + (n.toNatClampNeg + n.toNatClampNeg * k.toNatClampNeg) ≤ R.slots)
    (kk : ∀ (ad' : Nat → Option Nat) (H1 : Heap) (locs1 : List Loc), Ext ad ad' (HN h) → St x ad' (hnew3 h n.toNatClampNeg k.toNatClampNeg) H1 → va_S (fr x) s.heap H1 locs1 → W p l e R s m args below meth c H1 locs1 (cells + (1 + n.toNatClampNeg)) (slots + (n.toNatClampNeg + n.toNatClampNeg * k.toNatClampNeg)) Q (F0 m (pc + 4) rls (va_rf (ad' (HN h)) :: rest))) : W p l e R s m args below meth c H locs cells slots Q (F0 m pc rls (.int k :: .int n :: rest)) := by
  simp only [Bool.and_eq_true, decide_eq_true_eq] at hn
  obtain ⟨⟨⟨hn1, hn2⟩, hn3⟩, hn4⟩ := hn
  have hn0 : ¬ n < 0 := Int32.not_lt.mpr hn1
  have hk0 : ¬ k < 0 := Int32.not_lt.mpr hn3
  obtain ⟨j, hj, ej⟩ := nI_of2 (M := 100) (n := 100) (by decide) hn0 hn2
  obtain ⟨j', hj', ej'⟩ := nI_of2 (M := 100) (n := 100) (by decide) hk0 hn4
  have ec : n.toNatClampNeg = j := by rw [ej]; exact nI_clamp (by omega)
  have ec' : k.toNatClampNeg = j' := by rw [ej']; exact nI_clamp (by omega)
  have h31 := S.2.2.1
  have hw : (Cond.arrayClass .boolean).before args s = true := F.2.2.2.2.1 _ (chkFix_in hT2.1 _ (by unfold fixW; simp))
  have hcy : s.vm.findClass (FieldType.array .boolean).toString = some (xA x 103) := (hK.2 3 _ rfl).2
  refine va_mna (X := wl x ad h) (L := []) (f := fun _ => .inl (xA x 103, 0, .inl (fun _ => 0))) F.1 F.2.1 (ty := .boolean) (z := (k.toNatClampNeg, .inl (fun _ => 0))) F.2.2.2.1 (F.2.2.2.2.1 _ (chkZip_in hT2.2.2.2.1 _ (fnd3_in hf))) hO.2.2.2.2.2.2.2.2.2.1.2.1 hw hcy hK (by rw [show va_pl [] _ = [] from rfl, List.append_nil]; exact S.1) (by rw [show va_pl [] _ = [] from rfl, List.append_nil]; exact S.2.1) hS (fun q hq => Nat.le_trans hB hq) hn0 hk0 rfl rfl (by rw [ec]; omega) (by rw [ec']; show j' * 1 ≤ _; omega) (by rw [ec']; omega) (by decide) (by decide) (by omega) (by omega) (fun c => in_cellz c _) hd (fun q r cA H1 hinj _ hK1 P Dd S1 => ?_)
  have e1 := ty_uniq (k := 4) hK1 rfl
  subst e1
  rw [List.nil_append] at P Dd
  have hpl : va_pl ((List.range n.toNatClampNeg).map r) (vr_up (fun _ => .inl (xA x 103, 0, .inl (fun _ => 0))) ((List.range n.toNatClampNeg).map r) (.inl (xA x 103, k.toNatClampNeg, .inl (fun _ => 0)))) = (List.range n.toNatClampNeg).map (fun i => (r i, (.inl (xA x 103, k.toNatClampNeg, .inl (fun _ => 0)) : va_E))) := by
    unfold va_pl
    rw [List.map_map]
    apply List.map_congr_left
    intro i hi
    show (r i, vr_up _ _ _ (r i)) = _
    rw [vr_up_in (List.mem_map_of_mem hi)]
  have hne : ∀ b, b < HN h → b ≠ HN h ∧ ¬ (HN h < b ∧ b ≤ HN h + n.toNatClampNeg) := fun b hb => by omega
  have hIo : ∀ b, b < HN h → HI (hnew3 h n.toNatClampNeg k.toNatClampNeg) b = HI h b := fun b hb => by
    funext z
    show (if HN h ≤ b ∧ b ≤ HN h + n.toNatClampNeg then 0 else HI h b z) = _
    rw [if_neg (by omega)]
  have hJo : ∀ b, b < HN h → HJ (hnew3 h n.toNatClampNeg k.toNatClampNeg) b = HJ h b := fun b hb => by
    funext z
    show (if HN h ≤ b ∧ b ≤ HN h + n.toNatClampNeg then 0 else HJ h b z) = _
    rw [if_neg (by omega)]
  have hDo : ∀ b, b < HN h → HD (hnew3 h n.toNatClampNeg k.toNatClampNeg) b = HD h b := fun b hb => by
    funext z
    show (if HN h ≤ b ∧ b ≤ HN h + n.toNatClampNeg then 0 else HD h b z) = _
    rw [if_neg (by omega)]
  have hRo : ∀ b, b < HN h → HR (hnew3 h n.toNatClampNeg k.toNatClampNeg) b = HR h b := fun b hb => by
    funext z
    show (if b = HN h then _ else if HN h < b ∧ b ≤ HN h + n.toNatClampNeg then 0 else HR h b z) = _
    rw [if_neg (by omega), if_neg (by omega)]
  have hcE : ∀ b, b < HN h → cE x (adM ad (HN h) n.toNatClampNeg q r) (hnew3 h n.toNatClampNeg k.toNatClampNeg) b = cE x ad h b := fun b hb => cE_ext (by rw [HK_new3, if_neg (hne b hb).1, if_neg (hne b hb).2]) (by rw [HL_new3, if_neg (hne b hb).1, if_neg (hne b hb).2]) (hIo b hb) (hRo b hb) (hJo b hb) (hDo b hb) (fun z => adM_ext _ (S.2.2.2.2.2.2.1 b z))
  have hA0 : cE x (adM ad (HN h) n.toNatClampNeg q r) (hnew3 h n.toNatClampNeg k.toNatClampNeg) (HN h) = .inl (xA x 108, n.toNatClampNeg, .inr (.inr (.inr (.inr (fun i => if i < n.toNatClampNeg then some (r i) else none))))) := by
    rw [cE_ref (kd := 108) (by rw [HK_new3, if_pos rfl]) (by omega), HL_new3, if_pos rfl]
    have : (fun z => adM ad (HN h) n.toNatClampNeg q r (HR (hnew3 h n.toNatClampNeg k.toNatClampNeg) (HN h) z)) = fun i => if i < n.toNatClampNeg then some (r i) else none := by
      funext z
      rw [show HR (hnew3 h n.toNatClampNeg k.toNatClampNeg) (HN h) z = if z < n.toNatClampNeg then HN h + 1 + z else 0 by
        show (if HN h = HN h then _ else _) = _
        rw [if_pos rfl]]
      unfold adM
      by_cases hz : z < n.toNatClampNeg
      · rw [if_pos hz, if_pos hz, if_neg (by omega), if_pos (by omega), show HN h + 1 + z - HN h - 1 = z by omega]
      · rw [if_neg hz, if_neg hz, if_neg (by omega), if_neg (by omega), S.2.2.2.2.1 0 (by omega), h0]
    rw [this]
  have hA1 : ∀ i, i < n.toNatClampNeg → cE x (adM ad (HN h) n.toNatClampNeg q r) (hnew3 h n.toNatClampNeg k.toNatClampNeg) (HN h + 1 + i) = .inl (xA x 103, k.toNatClampNeg, .inl (fun _ => 0)) := fun i hi => by
    rw [cE_arr (kd := 103) (by rw [HK_new3, if_neg (by omega), if_pos (by omega)]) (by omega), HL_new3, if_neg (by omega), if_pos (by omega)]
    have : HI (hnew3 h n.toNatClampNeg k.toNatClampNeg) (HN h + 1 + i) = fun _ => 0 := by
      funext z
      show (if HN h ≤ HN h + 1 + i ∧ HN h + 1 + i ≤ HN h + n.toNatClampNeg then 0 else _) = _
      rw [if_pos (by omega)]
    rw [this]
  rw [hpl, wl_push2 (ad' := adM ad (HN h) n.toNatClampNeg q r) (h' := hnew3 h n.toNatClampNeg k.toNatClampNeg) h31 rfl (by unfold adM; rw [if_pos rfl]) (fun i hi => by unfold adM; rw [if_neg (by omega), if_pos (by omega), show HN h + 1 + i - HN h - 1 = i by omega]) hA0 hA1 (fun b hb => ⟨adM_ext b hb, hcE b hb⟩)] at P Dd
  obtain ⟨-, -, s3, s4, s5, s6, s7, s8⟩ := S
  have hN2 : HN (hnew3 h n.toNatClampNeg k.toNatClampNeg) = HN h + (1 + n.toNatClampNeg) := rfl
  have h9 := kk (adM ad (HN h) n.toNatClampNeg q r) H1 _ adM_ext ⟨P, Dd, by rw [hN2]; omega, fun b hb => by
      obtain ⟨c1, c2, c3⟩ := s4 b hb
      refine ⟨?_, fun z => by rw [← c2 z, hIo b (by omega)], fun z => by rw [← c3 z, hRo b (by omega)]⟩
      rw [← c1]
      show (if b = HN h then _ else if HN h < b ∧ b ≤ HN h + n.toNatClampNeg then _ else h.2.1 b) = _
      rw [if_neg (by omega), if_neg (by omega)], fun b hb => by rw [adM_ext b (by omega)]; exact s5 b hb, fun b hb => by
      rw [hN2] at hb
      rw [HK_new3, if_neg (by omega), if_neg (by omega)]
      exact s6 b (by omega), fun b z => by
      rw [hN2]
      show (if b = HN h then (if z < n.toNatClampNeg then HN h + 1 + z else 0) else if HN h < b ∧ b ≤ HN h + n.toNatClampNeg then 0 else HR h b z) < _
      split
      · split <;> omega
      · split
        · omega
        · have := s7 b z
          omega, fun b h1 h2 => by
      rw [hN2] at h2
      rw [HK_new3]
      by_cases hb : b = HN h
      · rw [if_pos hb]
        exact ⟨by unfold KOK; omega, q, by unfold adM; rw [if_pos hb]⟩
      · rw [if_neg hb]
        by_cases hb2 : HN h < b ∧ b ≤ HN h + n.toNatClampNeg
        · rw [if_pos hb2]
          exact ⟨by unfold KOK; omega, _, by unfold adM; rw [if_neg hb, if_pos hb2]⟩
        · rw [if_neg hb2]
          obtain ⟨k1, q', k2⟩ := s8 b h1 (by omega)
          exact ⟨k1, q', by rw [adM_ext b (by omega)]; exact k2⟩⟩ S1
  rw [show adM ad (HN h) n.toNatClampNeg q r (HN h) = some q by unfold adM; rw [if_pos rfl]] at h9
  rw [show cells + 1 + n.toNatClampNeg = cells + (1 + n.toNatClampNeg) by omega, show slots + n.toNatClampNeg + n.toNatClampNeg * k.toNatClampNeg = slots + (n.toNatClampNeg + n.toNatClampNeg * k.toNatClampNeg) by omega]
  exact h9
theorem HI_cln {a b : Nat} : HI (hcln h a) b = if b = HN h then HI h a else HI h b := by
  funext k
  show (if b = HN h then HI h a k else HI h b k) = _
  split <;> rfl
theorem HK_cln {a b : Nat} : HK (hcln h a) b = if b = HN h then 102 else HK h b := by
  unfold HK hcln
  simp only
  split <;> rfl
theorem HL_cln {a b : Nat} : HL (hcln h a) b = if b = HN h then HL h a else HL h b := by
  unfold HL hcln
  simp only
  split <;> rfl
theorem St.mkc (S : St x ad h H) {H1 : Heap} {a q : Nat} {ee : va_E} (he : cE x (adN ad (HN h) q) (hcln h a) (HN h) = ee)
    (P : va_P (xD x) clL (wl x ad h ++ [(q, ee)]) H1) (Dd : va_D (fr x) (wl x ad h ++ [(q, ee)])) : St x (adN ad (HN h) q) (hcln h a) H1 := by
  obtain ⟨-, -, s3, s4, s5, s6, s7, s8⟩ := S
  have hne : ∀ b, b < HN h → b ≠ HN h := fun b hb => by omega
  have hN : HN (hcln h a) = HN h + 1 := rfl
  have hc : ∀ b, b < HN h → cE x (adN ad (HN h) q) (hcln h a) b = cE x ad h b := fun b hb => cE_ext (by rw [HK_cln, if_neg (hne b hb)]) (by rw [HL_cln, if_neg (hne b hb)]) (by rw [HI_cln, if_neg (hne b hb)]) (u1_ne (hne b hb)) (u1_ne (hne b hb)) (u1_ne (hne b hb)) (fun k => adN_ext _ (s7 b k))
  rw [wl_push (ad' := adN ad (HN h) q) (h' := hcln h a) s3 hN (by unfold adN; rw [if_pos rfl]) he (fun b hb => ⟨adN_ext b hb, hc b hb⟩)] at P Dd
  refine ⟨P, Dd, by rw [hN]; omega, fun b hb => ?_, fun b hb => ?_, fun b hb => ?_, fun b k => ?_, fun b h1 h2 => ?_⟩
  · obtain ⟨c1, c2, c3⟩ := s4 b hb
    refine ⟨?_, fun k => ?_, fun k => ?_⟩
    · rw [← c1]
      show (if b = HN h then (102, HL h a) else h.2.1 b) = _
      rw [if_neg (by omega)]
    · rw [← c2 k, HI_cln, if_neg (by omega)]
    · rw [← c3 k]
      exact congrFun (u1_ne (f := HR h) (a := HN h) (v := 0) (by omega : b ≠ HN h)) k
  · rw [adN_ext b (by omega)]
    exact s5 b hb
  · rw [hN] at hb
    rw [HK_cln, if_neg (by omega)]
    exact s6 b (by omega)
  · rw [hN]
    show u1 (HR h) (HN h) 0 b k < _
    unfold u1
    split
    · omega
    · have := s7 b k
      omega
  · rw [hN] at h2
    rw [HK_cln]
    by_cases hb : b = HN h
    · rw [if_pos hb]
      exact ⟨by unfold KOK; omega, q, by unfold adN; rw [if_pos hb]⟩
    · rw [if_neg hb]
      obtain ⟨k1, q', k2⟩ := s8 b h1 (by omega)
      exact ⟨k1, q', by rw [adN_ext b (by omega)]; exact k2⟩
theorem m_cln (hT2 : TOK2) (F : FX p m c meth s args y) (hK : va_K (xD x) clL (tysL x) s) (hO : OLDs x s s.heap) (S : St x ad h H) (hS : va_S (fr x) s.heap H locs) (hB : xB x ≤ s.heap.size) (hsz : rls.size = nl y) {i a : Nat} (hf : fnd3 anwA (yo y) i 4 = true) (hk : HK h a = 102) (hby : bfit h a 0 (HL h a) = true) (hd : decode (yb y) pc = .ok (.invokevirtual i, 3)) (hR : 1 ≤ R.frames) (hW : (rest.map fun v => v.category).sum + 14 ≤ R.locals) (hc : cells + 1 ≤ R.cells) (hs : slots + HL h a ≤ R.slots)
    (kk : ∀ (q : Nat) (H1 : Heap), St x (adN ad (HN h) q) (hcln h a) H1 → va_S (fr x) s.heap H1 locs → W p l e R s m args below meth c H1 locs (cells + 1) (slots + HL h a) Q (F0 m (pc + 3) rls (va_rf (adN ad (HN h) q (HN h)) :: rest))) : W p l e R s m args below meth c H locs cells slots Q (F0 m pc rls (va_rf (ad a) :: rest)) := by
  obtain ⟨q, hq, g1, g2, g3⟩ := S.at (a := a) (by rw [hk]; unfold KOK; omega)
  rw [cE_arr hk (by omega)] at g3
  rw [hq]
  have hw : ∀ w ∈ fixW, w.before args s = true := fun w h => F.2.2.2.2.1 _ (chkFix_in hT2.1 _ h)
  have hnm : s.vm.findClass "[B" = some (xA x 102) := va_nm_byte (hK.2 2 _ rfl).2
  refine va_clone F.1 F.2.1 (by rw [hsz, F.2.2.1]) (own := cn (yo y)) (ad := "[B") F.2.2.2.1 (F.2.2.2.2.1 _ (chkZip_in hT2.2.2.2.1 _ (fnd3_in hf))) (hw _ (by unfold fixW; simp)) (hw _ (by unfold fixW; simp)) (hw _ (by unfold fixW; simp)) (hw _ (by unfold fixW; simp)) hO.2.2.2.2.2.2.2.2.2.1.2.2 hK S.1 S.2.1 hS (fun q hq => Nat.le_trans hB hq) (a - 31) 2 g3 rfl hnm ?_ hR hW hc hs hd (fun q H1 hK1 P Dd S1 => ?_)
  · intro i v hv
    have hl : i < HL h a := by
      have := (Array.getElem?_eq_some_iff.mp hv).1
      rw [show (vp_cell (xA x 102) (HL h a, .inl (HI h a))).slots.size = HL h a from arrV_size _ _ _] at this
      exact this
    have hv2 : some v = some (Value.int (HI h a i)) := by
      rw [← hv]
      exact arrV_read _ _ hl
    cases hv2
    have h9 := List.all_eq_true.mp hby i (List.mem_range.mpr hl)
    rw [Nat.zero_add] at h9
    simp only [Bool.and_eq_true, decide_eq_true_eq] at h9
    exact (fit_int (t := 3) (ty := .byte) rfl (by simp only [fitc, Bool.and_eq_true, decide_eq_true_eq]; exact h9)).2
  · have he : cE x (adN ad (HN h) q) (hcln h a) (HN h) = .inl (xA x 102, HL h a, .inl (HI h a)) := by
      rw [cE_arr (kd := 102) (by rw [HK_cln, if_pos rfl]) (by omega), HL_cln, if_pos rfl, HI_cln, if_pos rfl]
    have h9 := kk q H1 (S.mkc he P Dd) S1
    rw [show adN ad (HN h) q (HN h) = some q by unfold adN; rw [if_pos rfl]] at h9
    exact h9
theorem m_ckb (hT2 : TOK2) (F : FX p m c meth s args y) (hK : va_K (xD x) clL (tysL x) s) (S : St x ad h H) {i a : Nat} (hf : fnd3 anwA (yo y) i 3 = true) (hk : HK h a = 102) (hd : decode (yb y) pc = .ok (.checkcast i, 3))
    (kk : W p l e R s m args below meth c H locs cells slots Q (F0 m (pc + 3) rls (va_rf (ad a) :: rest))) : W p l e R s m args below meth c H locs cells slots Q (F0 m pc rls (va_rf (ad a) :: rest)) := by
  obtain ⟨q, hq, g1, g2, g3⟩ := S.at (a := a) (by rw [hk]; unfold KOK; omega)
  rw [cE_arr hk (by omega)] at g3
  rw [hq] at kk ⊢
  exact va_castA F.1 F.2.1 (own := cn (yo y)) (nm := "[B") F.2.2.2.1 (F.2.2.2.2.1 _ (chkZip_in hT2.2.2.2.1 _ (fnd3_in hf))) S.1 (a - 31) g3 (va_nm_byte (hK.2 2 _ rfl).2) hd kk
end ROWS8
