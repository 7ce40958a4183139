/-! ROWS of new cells, copies, references into arrays, statics, literals -/
section ROWS3
variable {p : Program} {l : Launch} {e : Env} {R : Room} {s : State} {m : MethodId} {args : Array Value} {below : List Frame} {meth : Method} {c : Code} {H : Heap} {locs : List Loc} {cells slots : Nat} {Q : State → Prop}
variable {x : Ctx} {ad : Nat → Option Nat} {h : Hp} {y pc : Nat} {rls : Array Slot} {rest : List Value}
theorem cE_ext {ad' : Nat → Option Nat} {h' : Hp} {b : Nat} (hk : HK h' b = HK h b) (hl : HL h' b = HL h b) (hI : HI h' b = HI h b) (hR : HR h' b = HR h b) (hJ : HJ h' b = HJ h b) (hDd : HD h' b = HD h b) (ha : ∀ k, ad' (HR h b k) = ad (HR h b k)) : cE x ad' h' b = cE x ad h b := by
  have e3 : fv ad' h' b = fv ad h b := by
    funext kd j
    unfold fv
    rw [hI, hR, ha]
  unfold cE
  rw [hk, hl, hI, hJ, hDd, e3, hR]
  simp only [ha]
theorem St.wr2 (S : St x ad h H) {H1 : Heap} {h' : Hp} {a q : Nat} {ee : va_E} (g1 : 31 ≤ a) (g2 : a < HN h) (hq : ad a = some q) (he : cE x ad h' a = ee) (hs : h'.1 = h.1) (hs2 : h'.2.1 = h.2.1)
    (hI : ∀ b, b ≠ a → HI h' b = HI h b) (hR : ∀ b, b ≠ a → HR h' b = HR h b) (hJ : ∀ b, b ≠ a → HJ h' b = HJ h b) (hDd : ∀ b, b ≠ a → HD h' b = HD h b) (hRa : ∀ k, HR h' a k < HN h)
    (P : va_P (xD x) clL ((wl x ad h).set (a - 31) (q, ee)) H1) (Dd : va_D (fr x) ((wl x ad h).set (a - 31) (q, ee))) : St x ad h' H1 :=
  S.wr g1 g2 hq he (fun b hb => cE_ext (by unfold HK; rw [hs2]) (by unfold HL; rw [hs2]) (hI b hb) (hR b hb) (hJ b hb) (hDd b hb) (fun _ => rfl)) hs hs2 (fun b hb k => by rw [hI b hb]) (fun b k => by
    by_cases hb : b = a
    · exact Or.inr (by rw [hb]; exact hRa k)
    · exact Or.inl (by rw [hR b hb])) (fun b hb k => by rw [hR b hb]) P Dd
theorem u2_ne {α : Type} {f : Nat → Nat → α} {a k b : Nat} {v : α} (hb : b ≠ a) : u2 f a k v b = f b := by
  funext j
  unfold u2
  rw [if_neg (fun z => hb z.1)]
theorem u2_eq {α : Type} {f : Nat → Nat → α} {a k : Nat} {v : α} : u2 f a k v a = fun j => if j = k then v else f a j := by
  funext j
  unfold u2
  by_cases hj : j = k
  · rw [if_pos ⟨rfl, hj⟩, if_pos hj]
  · rw [if_neg (fun z => hj z.2), if_neg hj]
theorem m_aast (F : FX p m c meth s args y) (hK : va_K (xD x) clL (tysL x) s) (S : St x ad h H) (hS : va_S (fr x) s.heap H locs) {a v : Nat} {j : Int32} (hk : HK h a = 107) (hv : HK h v = 2) (hj : inb j (HL h a) = true) (hd : decode (yb y) pc = .ok (.aastore, 1))
    (kk : ∀ (H1 : Heap) (locs1 : List Loc), St x ad (sR h a j.toNatClampNeg v) H1 → va_S (fr x) s.heap H1 locs1 → W p l e R s m args below meth c H1 locs1 cells slots Q (F0 m (pc + 1) rls rest)) : W p l e R s m args below meth c H locs cells slots Q (F0 m pc rls (va_rf (ad v) :: .int j :: va_rf (ad a) :: rest)) := by
  obtain ⟨q, hq, g1, g2, g3⟩ := S.at (a := a) (by rw [hk]; unfold KOK; omega)
  obtain ⟨w, hw, k1, k2, k3⟩ := S.at (a := v) (by rw [hv]; unfold KOK; omega)
  rw [cE_ref hk (by omega)] at g3
  rw [cE_obj (by omega) hv] at k3
  rw [hq, hw]
  exact va_astq F.1 F.2.1 hK S.1 S.2.1 hS (a - 31) 6 (v - 31) 1 g3 (r := (RR2, TT2, 5)) rfl k3 rfl (inb_in hj) hd (fun H1 locs1 P Dd S1 => kk H1 locs1 (S.wr2 (h' := sR h a j.toNatClampNeg v) g1 g2 hq (by
    rw [cE_ref (h := sR h a j.toNatClampNeg v) (kd := 107) hk (by omega)]
    have : (fun k => ad (HR (sR h a j.toNatClampNeg v) a k)) = va_up (fun k => ad (HR h a k)) j.toNatClampNeg (some w) := by
      funext k
      rw [HR_sR]
      unfold va_up
      by_cases hz : k = j.toNatClampNeg
      · rw [if_pos ⟨rfl, hz⟩, if_pos hz, hw]
      · rw [if_neg (fun z => hz z.2), if_neg hz]
    rw [this]
    rfl) rfl rfl (fun _ _ => rfl) (fun b hb => u2_ne hb) (fun _ _ => rfl) (fun _ _ => rfl) (fun k => by
      rw [HR_sR]
      split
      · exact k2
      · exact S.2.2.2.2.2.2.1 a k) P Dd) S1)
theorem HR_sI {a k : Nat} {v : Int32} : HR (sI h a k v) = HR h := rfl
/-- the map with one cell more -/
def adN (ad : Nat → Option Nat) (n q : Nat) : Nat → Option Nat := fun b => if b = n then some q else ad b
theorem adN_ext {n q : Nat} : Ext ad (adN ad n q) n := fun a ha => by unfold adN; rw [if_neg (by omega)]
theorem HN_new {kd len : Nat} : HN (hnew h kd len) = HN h + 1 := rfl
theorem HK_new {kd len b : Nat} : HK (hnew h kd len) b = if b = HN h then kd else HK h b := by
  unfold HK hnew
  simp only
  split <;> rfl
theorem HL_new {kd len b : Nat} : HL (hnew h kd len) b = if b = HN h then len else HL h b := by
  unfold HL hnew
  simp only
  split <;> rfl
theorem u1_ne {α : Type} {f : Nat → Nat → α} {a b : Nat} {v : α} (hb : b ≠ a) : u1 f a v b = f b := by
  funext j
  unfold u1
  rw [if_neg hb]
theorem u1_eq {α : Type} {f : Nat → Nat → α} {a : Nat} {v : α} : u1 f a v a = fun _ => v := by
  funext j
  unfold u1
  rw [if_pos rfl]
theorem St.mk1 (S : St x ad h H) {H1 : Heap} {kd len q : Nat} {ee : va_E} (hkd : KOK kd) (he : cE x (adN ad (HN h) q) (hnew h kd len) (HN h) = ee)
    (P : va_P (xD x) clL (wl x ad h ++ [(q, ee)]) H1) (Dd : va_D (fr x) (wl x ad h ++ [(q, ee)])) : St x (adN ad (HN h) q) (hnew h kd len) H1 := by
  obtain ⟨-, -, s3, s4, s5, s6, s7, s8⟩ := S
  have hne : ∀ b, b < HN h → b ≠ HN h := fun b hb => by omega
  have hc : ∀ b, b < HN h → cE x (adN ad (HN h) q) (hnew h kd len) b = cE x ad h b := fun b hb => cE_ext (by rw [HK_new, if_neg (hne b hb)]) (by rw [HL_new, if_neg (hne b hb)]) (u1_ne (hne b hb)) (u1_ne (hne b hb)) (u1_ne (hne b hb)) (u1_ne (hne b hb)) (fun k => adN_ext _ (s7 b k))
  rw [wl_push (ad' := adN ad (HN h) q) (h' := hnew h kd len) s3 HN_new (by unfold adN; rw [if_pos rfl]) he (fun b hb => ⟨adN_ext b hb, hc b hb⟩)] at P Dd
  refine ⟨P, Dd, by rw [HN_new]; omega, fun b hb => ?_, fun b hb => ?_, fun b hb => ?_, fun b k => ?_, fun b h1 h2 => ?_⟩
  · obtain ⟨c1, c2, c3⟩ := s4 b hb
    refine ⟨?_, fun k => ?_, fun k => ?_⟩
    · rw [← c1]
      show (if b = HN h then (kd, len) else h.2.1 b) = _
      rw [if_neg (by omega)]
    · rw [← c2 k]
      exact congrFun (u1_ne (f := HI h) (a := HN h) (v := 0) (by omega : b ≠ HN h)) k
    · rw [← c3 k]
      exact congrFun (u1_ne (f := HR h) (a := HN h) (v := 0) (by omega : b ≠ HN h)) k
  · rw [adN_ext b (by omega)]
    exact s5 b hb
  · rw [HN_new] at hb
    rw [HK_new, if_neg (by omega)]
    exact s6 b (by omega)
  · rw [HN_new]
    show u1 (HR h) (HN h) 0 b k < _
    unfold u1
    split
    · omega
    · have := s7 b k
      omega
  · rw [HN_new] at h2
    rw [HK_new]
    by_cases hb : b = HN h
    · rw [if_pos hb]
      exact ⟨hkd, q, by unfold adN; rw [if_pos hb]⟩
    · rw [if_neg hb]
      obtain ⟨k1, q', k2⟩ := s8 b h1 (by omega)
      exact ⟨k1, q', by rw [adN_ext b (by omega)]; exact k2⟩
theorem ty_uniq {cA : ClassId} {ty : FieldType} {k : Nat} {cB : ClassId} (hK1 : va_K (xD x) clL (tysL x ++ [(cA, ty)]) s) (hk : (tysL x)[k]? = some (cB, ty)) : cA = cB := by
  have h1 := (hK1.2 (tysL x).length (cA, ty) (by simp)).2
  have h2 := (hK1.2 k (cB, ty) (by rw [List.getElem?_append_left (by exact (List.getElem?_eq_some_iff.mp hk).1)]; exact hk)).2
  unfold va_RA at h1 h2
  cases ty with
  | object C =>
    obtain ⟨_, _, _, _, _, e1⟩ := h1
    obtain ⟨_, _, _, _, _, e2⟩ := h2
    exact Option.some.inj (e1.symm.trans e2)
  | _ => exact Option.some.inj (h1.symm.trans h2)
theorem va_K_sub0 {cA : ClassId} {ty : FieldType} (hK : va_K (xD x) clL (tysL x) s) (h9 : va_K (xD x) clL (tysL x ++ [(cA, ty)]) s) : va_K (xD x) clL (tysL x) s := hK
theorem fndNew_in {o i kd : Nat} : ∀ {l : List (Nat × Nat × Nat × List Nat)}, fndNew l o i kd = true → ∃ r ∈ l, r.1 = o ∧ r.2.1 = i ∧ r.2.2.1 = kd
  | [], h => by cases h
  | r :: l, h => by
    simp only [fndNew, Bool.or_eq_true, Bool.and_eq_true] at h
    rcases h with h | h
    · exact ⟨r, List.mem_cons_self, Nat.eq_of_beq_eq_true h.1.1, Nat.eq_of_beq_eq_true h.1.2, Nat.eq_of_beq_eq_true h.2⟩
    · obtain ⟨r', h1, h2⟩ := fndNew_in h
      exact ⟨r', List.mem_cons_of_mem _ h1, h2⟩
theorem new_at (hT : TOK) {o i kd : Nat} (h : fndNew newA o i kd = true) : 1 ≤ kd ∧ kd ≤ 10 ∧ Cond.classLink (cn o) i (RRa kd) ∈ TW ∧ Cond.instantiable (RRa kd) (NNa kd) ∈ TW ∧ Cond.initialized (RRa kd) ∈ TW := by
  obtain ⟨r, hr, rfl, rfl, rfl⟩ := fndNew_in h
  have h1 := List.all_eq_true.mp hT.2.1 r hr
  unfold chkNew at h1
  split at h1
  · simp only [Bool.and_eq_true] at h1
    obtain ⟨⟨⟨⟨a, b⟩, c⟩, d⟩, e⟩ := h1
    exact ⟨Nat.le_of_ble_eq_true a, Nat.le_of_ble_eq_true b, tw_of c, tw_of d, tw_of e⟩
  · cases h1
theorem fv_new {kd q j : Nat} (h1 : 1 ≤ kd) (h2 : kd ≤ 10) (hj : j < NNa kd) (h0 : xC x 0 = none) (ha : ad 0 = xC x 0) (hpos : 0 < HN h) : fv (adN ad (HN h) q) (hnew h kd (NNa kd)) (HN h) kd j = defaultValue (tta kd j) := by
  have hn := nna_at kd h2
  have hI : HI (hnew h kd (NNa kd)) (HN h) j = 0 := congrFun (u1_eq (f := HI h)) j
  have hR : HR (hnew h kd (NNa kd)) (HN h) j = 0 := congrFun (u1_eq (f := HR h)) j
  have hz : adN ad (HN h) q 0 = none := by rw [adN_ext 0 hpos, ha, h0]
  unfold fv
  rw [hI, hR, hz]
  have h9 := ftc_at kd h2 j (by omega)
  cases ht : tta kd j <;> rw [ht] at h9 <;> simp [ftc] at h9 <;> rfl
theorem m_new (hT : TOK) (F : FX p m c meth s args y) (hK : va_K (xD x) clL (tysL x) s) (h0 : xC x 0 = none) (S : St x ad h H) (hS : va_S (fr x) s.heap H locs) (hB : xB x ≤ s.heap.size) {i kd : Nat} (hf : fndNew newA (yo y) i kd = true) (hd : decode (yb y) pc = .ok (.new i, 3)) (hc : cells + 1 ≤ R.cells) (hs : slots + NNa kd ≤ R.slots)
    (kk : ∀ (q : Nat) (H1 : Heap), St x (adN ad (HN h) q) (hnew h kd (NNa kd)) H1 → va_S (fr x) s.heap H1 locs → W p l e R s m args below meth c H1 locs (cells + 1) (slots + NNa kd) Q (F0 m (pc + 3) rls (va_rf (adN ad (HN h) q (HN h)) :: rest))) : W p l e R s m args below meth c H locs cells slots Q (F0 m pc rls rest) := by
  obtain ⟨h1, h2, w1, w2, w3⟩ := new_at hT hf
  obtain ⟨fx, fb, -, fo, ft, -⟩ := F
  refine va_new (D := xD x) (ci := kd - 1) (C := RRa kd) (T := TTa kd) (N := NNa kd) fx fb ft (lay_in hT h1 h2) (tta kd) (tt_at h1 h2) fo (ft _ w1) (ft _ w2) (ft _ w3) hK S.1 S.2.1 hS (fun q hq => Nat.le_trans hB hq) (clL_at h1 h2) (fs := (List.range (NNa kd)).map (fun j => defaultValue (tta kd j))) (fun j hj => ?_) hc hs hd (fun q H1 P Dd S1 => ?_)
  · unfold vp_V
    rw [List.getD_eq_getElem?_getD, List.getElem?_map, List.getElem?_range hj]
    rfl
  · have he : cE x (adN ad (HN h) q) (hnew h kd (NNa kd)) (HN h) = .inr (kd - 1, (List.range (NNa kd)).map (fun j => defaultValue (tta kd j))) := by
      rw [cE_obj (kd := kd) h2 (by rw [HK_new, if_pos rfl])]
      congr 2
      apply List.map_congr_left
      intro j hj
      exact fv_new h1 h2 (List.mem_range.mp hj) h0 (S.2.2.2.2.1 0 (by omega)) (by have := S.2.2.1; omega)
    have h9 := kk q H1 (S.mk1 (Or.inl ⟨h1, h2⟩) he P Dd) S1
    rw [show adN ad (HN h) q (HN h) = some q by unfold adN; rw [if_pos rfl]] at h9
    exact h9
/-- new T[n], T a type of numbers -/
theorem m_newa (hT2 : TOK2) (F : FX p m c meth s args y) (hK : va_K (xD x) clL (tysL x) s) (S : St x ad h H) (hS : va_S (fr x) s.heap H locs) (hB : xB x ≤ s.heap.size) {at_ : ArrayType} {kd k : Nat} {n : Int32} {ty : FieldType} {a0 : vp_A} (ht : newarray.typeOf at_ = ty) (hty : Cond.arrayClass ty ∈ fixW) (hk : (tysL x)[k]? = some (xA x kd, ty)) (hkd : KOK kd)
    (ha : ∀ cA : ClassId, vp_cell cA a0 = arrV cA n.toNatClampNeg (fun _ => defaultValue ty)) (he : ∀ q, cE x (adN ad (HN h) q) (hnew h kd n.toNatClampNeg) (HN h) = .inl (xA x kd, a0)) (hd : decode (yb y) pc = .ok (.newarray at_, 2)) (hn : (decide (0 ≤ n) && decide (n ≤ 100000)) = true) (hby : componentBytes ty ≤ 8) (hc : cells + 1 ≤ R.cells) (hs : slots + n.toNatClampNeg ≤ R.slots)
    (kk : ∀ (q : Nat) (H1 : Heap), St x (adN ad (HN h) q) (hnew h kd n.toNatClampNeg) H1 → va_S (fr x) s.heap H1 locs → W p l e R s m args below meth c H1 locs (cells + 1) (slots + n.toNatClampNeg) Q (F0 m (pc + 2) rls (va_rf (adN ad (HN h) q (HN h)) :: rest))) : W p l e R s m args below meth c H locs cells slots Q (F0 m pc rls (.int n :: rest)) := by
  obtain ⟨fx, fb, -, fo, ft, -⟩ := F
  simp only [Bool.and_eq_true, decide_eq_true_eq] at hn
  have hn0 : ¬ n < 0 := Int32.not_lt.mpr hn.1
  obtain ⟨j, hj, ej⟩ := nI_of2 (M := 100000) (n := 100000) (by decide) hn0 hn.2
  have ec : n.toNatClampNeg = j := by rw [ej]; exact nI_clamp (by omega)
  have hw : (Cond.arrayClass (newarray.typeOf at_)).before args s = true := by rw [ht]; exact ft _ (chkFix_in hT2.1 _ hty)
  refine va_newa fx fb hw ht hK S.1 S.2.1 hS (fun q hq => Nat.le_trans hB hq) (a0 := a0) (N' := n.toNatClampNeg) ha hn0 rfl (by rw [ec]; exact Nat.le_trans (Nat.mul_le_mul hj hby) (by decide)) hc hs hd (fun q cA H1 hK1 P Dd S1 => ?_)
  have e1 := ty_uniq hK1 hk
  subst e1
  have h9 := kk q H1 (S.mk1 hkd (he q) P Dd) S1
  rw [show adN ad (HN h) q (HN h) = some q by unfold adN; rw [if_pos rfl]] at h9
  exact h9
end ROWS3
