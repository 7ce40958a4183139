/-! THE CLASS: a mate found, or none -/
def Fq (f f' : Nat → Nat → Int32) : Prop := ∀ a x, a ≠ 229 → a ≠ 230 → a ≠ 231 → f' a x = f a x
theorem Fq.rf {f : Nat → Nat → Int32} : Fq f f := fun _ _ _ _ _ => rfl
theorem Fq.u2 {f g : Nat → Nat → Int32} (h : Fq f g) {a k : Nat} {v : Int32} (ha : a = 229 ∨ a = 230 ∨ a = 231) : Fq f (u2 g a k v) := fun b x h1 h2 h3 => (w2_ne (by omega)).trans (h b x h1 h2 h3)
/-- a row was matched -/
def won (E : EF) (m m' : MF) (st : Nat) : Prop := MT E m' ∧ (∀ i, ml E m' i = (ml E m i || decide (i = st))) ∧ (∀ i, (m i).isSome = true → (m' i).isSome = true) ∧ ∀ F G, CS E m F G → CS E m' F G
/-- none can be -/
def lost (E : EF) (m : MF) (st : Nat) : Prop := ∀ F G, CS E m F G → ∃ F' G' : Nat → Prop, CS E m F' G' ∧ (∀ i, F i → F' i) ∧ F' st ∧ ∀ i, F' i → F i ∨ i = st ∨ (m i).isSome = true
section MG
variable {h : Hp}
def Qm (h : Hp) (E : EF) (n : Nat) (m : MF) (st : Nat) (f : Nat → Nat → Int32) (res : Res) : Prop := (∃ m' f', res = some (.ok (.int (nI 1)), wI h f') ∧ Ms f' n m' ∧ won E m m' st ∧ Fq f f') ∨ ∃ f', res = some (.ok (.int (nI 0)), wI h f') ∧ Ms f' n m ∧ lost E m st ∧ Fq f f'
/-- in front of place p of the queue -/
def PO (E : EF) (n : Nat) (m : MF) (st : Nat) (f : Nat → Nat → Int32) (p : Nat) (q rb : Nat → Nat) (sn : Nat → Bool) (g : Nat → Nat → Int32) (sm : Int32) (T : Nat) : Prop := BQ E m n st q T rb sn ∧ (∀ x, x < T → g 231 x = nI (q x)) ∧ (∀ i, i < n → E (rb i) i = true → g 230 i = nI (rb i)) ∧ (∀ x, x < n → bt sm x = sn x) ∧ (∀ x, x < p → ∀ r, E (q x) r = true → sn r = true) ∧ Fq f g ∧ Ms g n m
theorem PO.le {E : EF} {n : Nat} {m : MF} {st : Nat} {f : Nat → Nat → Int32} {p : Nat} {q rb : Nat → Nat} {sn : Nat → Bool} {g : Nat → Nat → Int32} {sm : Int32} {T : Nat} (H : PO E n m st f p q rb sn g sm T) : T ≤ n := H.1.le
theorem findIn_ok (S : MgS h) {E : EF} {n st p : Nat} {m : MF} {f : Nat → Nat → Int32} (L : LR E n) (n30 : n ≤ 30) (h7 : f 227 7 = nI n) (hr : ∀ i j, i < n → j < n → bt (f 228 i) j = E i j) (hm : MT E m) (hst : ∀ j, E st j = true → m st = none) (l : Nat) (hout : ∀ q rb sn g sm T v w, PO E n m st f (p + 1) q rb sn g sm T → p < T → Qm h E n m st f (RF 114 14 [.ref 227, .int (nI st), .int sm, .int (nI T), .int (nI (p + 1)), v, w] [] (wI h g))) {q rb : Nat → Nat} {sn : Nat → Bool} {g : Nat → Nat → Int32} {sm : Int32} {T : Nat} (H : PO E n m st f p q rb sn g sm T) (hp : p < T) (hl : q p = l) : Qm h E n m st f (RF 114 39 [.ref 227, .int (nI st), .int sm, .int (nI T), .int (nI p), .int (nI l), .int (nI 0)] [] (wI h g)) := by
  refine lpRes (β := (Nat → Nat → Int32) × Int32 × Nat) (n := n) (Q := Qm h E n m st f) (F := fun i x => RF 114 39 [.ref 227, .int (nI st), .int x.2.1, .int (nI x.2.2), .int (nI p), .int (nI l), .int (nI i)] [] (wI h x.1)) (P := fun i x => ∃ q rb sn, PO E n m st f p q rb sn x.1 x.2.1 x.2.2 ∧ p < x.2.2 ∧ q p = l ∧ ∀ r, r < i → E l r = true → sn r = true) (fun i x hi hP => ?_) (fun x hP => ?_) (k := n) (i := 0) (x := (g, sm, T)) (by omega) ⟨q, rb, sn, H, hp, hl, fun r hr => by omega⟩
  · obtain ⟨g, sm, T⟩ := x
    obtain ⟨q, rb, sn, H, hp, hl, hd⟩ := hP
    dsimp only at H hp ⊢
    have hTn := H.le
    obtain ⟨B, h1, h2, h3, h4, h5, h6⟩ := H
    have hln : l < n := by
      rw [← hl]
      exact B.2.2.2.2 p hp
    have g7 : g 227 7 = nI n := (h5 227 7 (by decide) (by decide) (by decide)).trans h7
    have gr : g 228 l = f 228 l := h5 228 l (by decide) (by decide) (by decide)
    have hbit : bt (f 228 l) i = E l i := hr l i hln hi
    have hsn := h3 i hi
    by_cases qe : (E l i && !sn i) = true
    · rw [Bool.and_eq_true] at qe
      obtain ⟨q1, q2⟩ := qe
      have q2 : sn i = false := by
        cases hs : sn i with
        | false => rfl
        | true =>
          rw [hs] at q2
          cases q2
      have he' : E (q p) i = true := by rw [hl]; exact q1
      cases hmi : m i with
      | none =>
        left
        have gm : g 229 i = -nI 1 := by rw [h6 i hi, hmi]; rfl
        obtain ⟨⟨d, hC⟩, hD, hG⟩ := B.hit hm hst hp he' q2 hmi
        rw [hl] at hC
        have hlen := hC.len L
        obtain ⟨m', f', k1, k2, k3, k4⟩ := flipC_ok S L n30 i d m i 0 .null .null (u2 g 230 i (nI l)) (by rw [w2_ne (by omega)]; exact g7) (fun j hj => by rw [w2_ne (by omega)]; exact h6 j hj) (fun j hj hje => by
          by_cases qj : j = i
          · subst qj
            rw [w2_eq, ud_e]
          · rw [w2_ne (by omega), ud_n qj]
            rw [ud_n qj] at hje
            exact h2 j hj hje) hD hC (by omega)
        left
        refine ⟨m', f', ?_, k2, ⟨k3.1, k3.2.1, k3.2.2.1, fun F G hc => k3.2.2.2 F G hc (hG F G hc)⟩, fun a x q1 q2 q3 => ?_⟩
        · have hcall : CL 113 [.ref 227, .int (nI i)] (wI h (u2 g 230 i (nI l))) = some (.ok .null, wI h f') := by
            rw [e113]
            exact k1
          rw [e114_39]
          simp (disch := omega) only [S.f, S.c (show i < 30 by omega), S.c (show l < 30 by omega), g7, gr, hi, ↓bt_test, ↓bt_nt, hbit, hsn, q1, q2, Bool.not_false, Bool.and_self, Bool.true_eq_false, w2_ne, gm, m1_lt0, hcall, cond_true, cond_false, bI_ok, bI_er, bV_ok, bV_er, bR_ok, bR_er, bD_ok, bD_er, bF_ok, bF_er, thr_ap, cl_nI, lt_nI, le_nI, eq_nI, m1_lt, nI_m1, m1_nI, nI_lt_m1, add_nI, sub_nI, addm_nI, z_addm, z_subm, mul_nI, fit1_0, fit1_1, fit2_n, HI_wI, HK_wI, HL_wI, HR_wI, ckK_wI, chI_wI, sI_wI, wI_wI, lz0, lz1, lz2, lz3, lz4, lz5, lz6, lz7, lz8, lz9, lz10, lz12, lz13, lz16, lz17, lz20, lz21, lz23, lz26, lz30, lz32, lz35, lz40, lz45, lz48, lz57, lz58, lz59, lz60, lz61, lz63, lz64, lz97, lz99, lz100, lz110, lz111, lz126, lz129, lz132, lz133, lz166, lz169, lz255, lz999, lz1183, lz1800, Nat.reduceAdd, Nat.reduceLT, Nat.reduceEqDiff, Nat.not_lt_zero, Nat.lt_irrefl, ↓reduceIte, Nat.zero_add, Nat.add_zero, ne_eq, not_true_eq_false, not_false_eq_true, reduceCtorEq]
        · rw [k4 a x q1, w2_ne (by omega)]
          exact h5 a x q1 q2 q3
      | some j =>
        right
        have hj := (hm i j hmi).1
        have hjn : j < n := by
          rcases (hm i j hmi).2 with z | z
          · exact (L.1 _ _ z).2
          · exact (L.1 _ _ z).1
        have gm : g 229 i = nI j := by rw [h6 i hi, hmi]; rfl
        have B' := B.push L hm hst hp he' q2 hmi
        have hT' := B'.le
        refine ⟨(u2 (u2 g 230 i (nI l)) 231 T (nI j), sb sm i, T + 1), ?_, ud q T j, ud rb i (q p), (fun x => sn x || decide (x = i)), ⟨B', fun x hx => ?_, fun x hx hxe => ?_, fun x hx => ?_, fun x hx r hxr => ?_, (h5.u2 (.inr (.inl rfl))).u2 (.inr (.inr rfl)), fun x hx => ?_⟩, by dsimp only; omega, ?_, fun r hr' hre => ?_⟩
        all_goals try dsimp only
        · rw [e114_39]
          simp (disch := omega) only [S.f, S.c (show i < 30 by omega), S.c (show l < 30 by omega), S.c (show T < 30 by omega), g7, gr, hi, show T < 30 by omega, ↓bt_test, ↓bt_nt, ↓sb_eq, hbit, hsn, q1, q2, Bool.not_false, Bool.and_self, Bool.true_eq_false, w2_ne, gm, neg_nI, cond_true, cond_false, bI_ok, bI_er, bV_ok, bV_er, bR_ok, bR_er, bD_ok, bD_er, bF_ok, bF_er, thr_ap, cl_nI, lt_nI, le_nI, eq_nI, m1_lt, nI_m1, m1_nI, nI_lt_m1, add_nI, sub_nI, addm_nI, z_addm, z_subm, mul_nI, fit1_0, fit1_1, fit2_n, HI_wI, HK_wI, HL_wI, HR_wI, ckK_wI, chI_wI, sI_wI, wI_wI, lz0, lz1, lz2, lz3, lz4, lz5, lz6, lz7, lz8, lz9, lz10, lz12, lz13, lz16, lz17, lz20, lz21, lz23, lz26, lz30, lz32, lz35, lz40, lz45, lz48, lz57, lz58, lz59, lz60, lz61, lz63, lz64, lz97, lz99, lz100, lz110, lz111, lz126, lz129, lz132, lz133, lz166, lz169, lz255, lz999, lz1183, lz1800, Nat.reduceAdd, Nat.reduceLT, Nat.reduceEqDiff, Nat.not_lt_zero, Nat.lt_irrefl, ↓reduceIte, Nat.zero_add, Nat.add_zero, ne_eq, not_true_eq_false, not_false_eq_true, reduceCtorEq]
        · by_cases qx : x = T
          · subst qx
            rw [w2_eq, ud_e]
          · rw [w2_ne (by omega), w2_ne (by omega), ud_n qx]
            exact h1 x (by dsimp only at hx; omega)
        · by_cases qx : x = i
          · subst qx
            rw [w2_ne (by omega), w2_eq, ud_e, hl]
          · rw [w2_ne (by omega), w2_ne (by omega), ud_n qx]
            rw [ud_n qx] at hxe
            exact h2 x hx hxe
        · rw [bt_sb sm (by omega), h3 x hx]
        · rw [ud_n (by omega)] at hxr
          rw [h4 x hx r hxr, Bool.true_or]
        · rw [w2_ne (by omega), w2_ne (by omega)]
          exact h6 x hx
        · rw [ud_n (by omega)]
          exact hl
        · by_cases qr : r = i
          · rw [decide_eq_true qr, Bool.or_true]
          · rw [hd r (by omega) hre, Bool.true_or]
    · right
      rw [Bool.not_eq_true] at qe
      refine ⟨(g, sm, T), ?_, q, rb, sn, ⟨B, h1, h2, h3, h4, h5, h6⟩, hp, hl, fun r hr' hre => ?_⟩
      · rw [e114_39]
        simp (disch := omega) only [S.f, S.c (show i < 30 by omega), S.c (show l < 30 by omega), g7, gr, hi, ↓bt_test, ↓bt_nt, hbit, hsn, qe, cond_true, cond_false, bI_ok, bI_er, bV_ok, bV_er, bR_ok, bR_er, bD_ok, bD_er, bF_ok, bF_er, thr_ap, cl_nI, lt_nI, le_nI, eq_nI, m1_lt, nI_m1, m1_nI, nI_lt_m1, add_nI, sub_nI, addm_nI, z_addm, z_subm, mul_nI, fit1_0, fit1_1, fit2_n, HI_wI, HK_wI, HL_wI, HR_wI, ckK_wI, chI_wI, sI_wI, wI_wI, lz0, lz1, lz2, lz3, lz4, lz5, lz6, lz7, lz8, lz9, lz10, lz12, lz13, lz16, lz17, lz20, lz21, lz23, lz26, lz30, lz32, lz35, lz40, lz45, lz48, lz57, lz58, lz59, lz60, lz61, lz63, lz64, lz97, lz99, lz100, lz110, lz111, lz126, lz129, lz132, lz133, lz166, lz169, lz255, lz999, lz1183, lz1800, Nat.reduceAdd, Nat.reduceLT, Nat.reduceEqDiff, Nat.not_lt_zero, Nat.lt_irrefl, ↓reduceIte, Nat.zero_add, Nat.add_zero, ne_eq, not_true_eq_false, not_false_eq_true, reduceCtorEq]
      · by_cases qr : r = i
        · subst qr
          rw [hre, Bool.true_and] at qe
          cases hs : sn r with
          | true => rfl
          | false =>
            rw [hs] at qe
            cases qe
        · exact hd r (by omega) hre
  · obtain ⟨g, sm, T⟩ := x
    obtain ⟨q, rb, sn, H, hp, hl, hd⟩ := hP
    dsimp only at H hp ⊢
    have g7 : g 227 7 = nI n := (H.2.2.2.2.2.1 227 7 (by decide) (by decide) (by decide)).trans h7
    have hz := hout q rb sn g sm T (.int (nI l)) (.int (nI n)) ⟨H.1, H.2.1, H.2.2.1, H.2.2.2.1, fun x hx r hxr => by
      by_cases qx : x = p
      · subst qx
        rw [hl] at hxr
        exact hd r (L.1 _ _ hxr).2 hxr
      · exact H.2.2.2.2.1 x (by omega) r hxr, H.2.2.2.2.2.1, H.2.2.2.2.2.2⟩ hp
    have e : RF 114 39 [.ref 227, .int (nI st), .int sm, .int (nI T), .int (nI p), .int (nI l), .int (nI n)] [] (wI h g) = RF 114 14 [.ref 227, .int (nI st), .int sm, .int (nI T), .int (nI (p + 1)), .int (nI l), .int (nI n)] [] (wI h g) := by
      rw [e114_39]
      simp (disch := omega) only [S.f, g7, cond_true, cond_false, bI_ok, bI_er, bV_ok, bV_er, bR_ok, bR_er, bD_ok, bD_er, bF_ok, bF_er, thr_ap, cl_nI, lt_nI, le_nI, eq_nI, m1_lt, nI_m1, m1_nI, nI_lt_m1, add_nI, sub_nI, addm_nI, z_addm, z_subm, mul_nI, fit1_0, fit1_1, fit2_n, HI_wI, HK_wI, HL_wI, HR_wI, ckK_wI, chI_wI, sI_wI, wI_wI, lz0, lz1, lz2, lz3, lz4, lz5, lz6, lz7, lz8, lz9, lz10, lz12, lz13, lz16, lz17, lz20, lz21, lz23, lz26, lz30, lz32, lz35, lz40, lz45, lz48, lz57, lz58, lz59, lz60, lz61, lz63, lz64, lz97, lz99, lz100, lz110, lz111, lz126, lz129, lz132, lz133, lz166, lz169, lz255, lz999, lz1183, lz1800, Nat.reduceAdd, Nat.reduceLT, Nat.reduceEqDiff, Nat.not_lt_zero, Nat.lt_irrefl, ↓reduceIte, Nat.zero_add, Nat.add_zero, ne_eq, not_true_eq_false, not_false_eq_true, reduceCtorEq]
    rw [e]
    exact hz
theorem findOut_ok (S : MgS h) {E : EF} {n st : Nat} {m : MF} {f : Nat → Nat → Int32} (L : LR E n) (n30 : n ≤ 30) (h7 : f 227 7 = nI n) (hr : ∀ i j, i < n → j < n → bt (f 228 i) j = E i j) (hm : MT E m) (hst : ∀ j, E st j = true → m st = none) : ∀ (k p : Nat), p + k = n → ∀ q rb sn g sm T v w, PO E n m st f p q rb sn g sm T → p ≤ T → Qm h E n m st f (RF 114 14 [.ref 227, .int (nI st), .int sm, .int (nI T), .int (nI p), v, w] [] (wI h g)) := by
  have hend : ∀ p q rb sn g sm T v w, PO E n m st f p q rb sn g sm T → p = T → Qm h E n m st f (RF 114 14 [.ref 227, .int (nI st), .int sm, .int (nI T), .int (nI p), v, w] [] (wI h g)) := by
    intro p q rb sn g sm T v w H hp
    have hT := H.le
    subst hp
    obtain ⟨B, h1, h2, h3, h4, h5, h6⟩ := H
    right
    refine ⟨g, ?_, h6, fun F G hc => ⟨_, _, B.closed L hm h4 hc, fun i hi => .inl hi, .inr ⟨0, by have := B.1.2.1; omega, B.1.1⟩, fun i hi => ?_⟩, h5⟩
    · rw [e114_14]
      simp (disch := omega) only [cond_true, cond_false, bI_ok, bI_er, bV_ok, bV_er, bR_ok, bR_er, bD_ok, bD_er, bF_ok, bF_er, thr_ap, cl_nI, lt_nI, le_nI, eq_nI, m1_lt, nI_m1, m1_nI, nI_lt_m1, add_nI, sub_nI, addm_nI, z_addm, z_subm, mul_nI, fit1_0, fit1_1, fit2_n, HI_wI, HK_wI, HL_wI, HR_wI, ckK_wI, chI_wI, sI_wI, wI_wI, lz0, lz1, lz2, lz3, lz4, lz5, lz6, lz7, lz8, lz9, lz10, lz12, lz13, lz16, lz17, lz20, lz21, lz23, lz26, lz30, lz32, lz35, lz40, lz45, lz48, lz57, lz58, lz59, lz60, lz61, lz63, lz64, lz97, lz99, lz100, lz110, lz111, lz126, lz129, lz132, lz133, lz166, lz169, lz255, lz999, lz1183, lz1800, Nat.reduceAdd, Nat.reduceLT, Nat.reduceEqDiff, Nat.not_lt_zero, Nat.lt_irrefl, ↓reduceIte, Nat.zero_add, Nat.add_zero, ne_eq, not_true_eq_false, not_false_eq_true, reduceCtorEq]
    · rcases hi with z | ⟨x, x1, x2⟩
      · exact .inl z
      · by_cases x0 : x = 0
        · subst x0
          exact .inr (.inl (x2.symm.trans B.1.1))
        · obtain ⟨r, p', _, y2, _⟩ := B.2.1 x (by omega) x1
          rw [x2] at y2
          exact .inr (.inr (by rw [y2]; rfl))
  intro k
  induction k with
  | zero =>
    intro p hk q rb sn g sm T v w H hp
    have := H.le
    exact hend p q rb sn g sm T v w H (by omega)
  | succ k ih =>
    intro p hk q rb sn g sm T v w H hp
    by_cases hpT : p = T
    · exact hend p q rb sn g sm T v w H hpT
    · have hlt : p < T := by omega
      have hTn := H.le
      have hq : g 231 p = nI (q p) := H.2.1 p hlt
      have e : RF 114 14 [.ref 227, .int (nI st), .int sm, .int (nI T), .int (nI p), v, w] [] (wI h g) = RF 114 39 [.ref 227, .int (nI st), .int sm, .int (nI T), .int (nI p), .int (nI (q p)), .int (nI 0)] [] (wI h g) := by
        rw [e114_14]
        simp (disch := omega) only [S.f, S.c (show p < 30 by omega), hlt, show p < 30 by omega, hq, cond_true, cond_false, bI_ok, bI_er, bV_ok, bV_er, bR_ok, bR_er, bD_ok, bD_er, bF_ok, bF_er, thr_ap, cl_nI, lt_nI, le_nI, eq_nI, m1_lt, nI_m1, m1_nI, nI_lt_m1, add_nI, sub_nI, addm_nI, z_addm, z_subm, mul_nI, fit1_0, fit1_1, fit2_n, HI_wI, HK_wI, HL_wI, HR_wI, ckK_wI, chI_wI, sI_wI, wI_wI, lz0, lz1, lz2, lz3, lz4, lz5, lz6, lz7, lz8, lz9, lz10, lz12, lz13, lz16, lz17, lz20, lz21, lz23, lz26, lz30, lz32, lz35, lz40, lz45, lz48, lz57, lz58, lz59, lz60, lz61, lz63, lz64, lz97, lz99, lz100, lz110, lz111, lz126, lz129, lz132, lz133, lz166, lz169, lz255, lz999, lz1183, lz1800, Nat.reduceAdd, Nat.reduceLT, Nat.reduceEqDiff, Nat.not_lt_zero, Nat.lt_irrefl, ↓reduceIte, Nat.zero_add, Nat.add_zero, ne_eq, not_true_eq_false, not_false_eq_true, reduceCtorEq]
      rw [e]
      exact findIn_ok S L n30 h7 hr hm hst (q p) (fun q rb sn g sm T v w H' hp' => ih (p + 1) (by omega) q rb sn g sm T v w H' (by omega)) H hlt rfl
theorem findMate_ok (S : MgS h) {E : EF} {n st : Nat} {m : MF} {f : Nat → Nat → Int32} (L : LR E n) (n30 : n ≤ 30) (h7 : f 227 7 = nI n) (hr : ∀ i j, i < n → j < n → bt (f 228 i) j = E i j) (hM : Ms f n m) (hm : MT E m) (hn : st < n) (hst : ∀ j, E st j = true → m st = none) : Qm h E n m st f (CL 114 [.ref 227, .int (nI st)] (wI h f)) := by
  have e : CL 114 [.ref 227, .int (nI st)] (wI h f) = RF 114 14 [.ref 227, .int (nI st), .int (nI 0), .int (nI 1), .int (nI 0), .null, .null] [] (wI h (u2 f 231 0 (nI st))) := by
    rw [e114]
    simp (disch := omega) only [S.f, S.c (show 0 < 30 by omega), cond_true, cond_false, bI_ok, bI_er, bV_ok, bV_er, bR_ok, bR_er, bD_ok, bD_er, bF_ok, bF_er, thr_ap, cl_nI, lt_nI, le_nI, eq_nI, m1_lt, nI_m1, m1_nI, nI_lt_m1, add_nI, sub_nI, addm_nI, z_addm, z_subm, mul_nI, fit1_0, fit1_1, fit2_n, HI_wI, HK_wI, HL_wI, HR_wI, ckK_wI, chI_wI, sI_wI, wI_wI, lz0, lz1, lz2, lz3, lz4, lz5, lz6, lz7, lz8, lz9, lz10, lz12, lz13, lz16, lz17, lz20, lz21, lz23, lz26, lz30, lz32, lz35, lz40, lz45, lz48, lz57, lz58, lz59, lz60, lz61, lz63, lz64, lz97, lz99, lz100, lz110, lz111, lz126, lz129, lz132, lz133, lz166, lz169, lz255, lz999, lz1183, lz1800, Nat.reduceAdd, Nat.reduceLT, Nat.reduceEqDiff, Nat.not_lt_zero, Nat.lt_irrefl, ↓reduceIte, Nat.zero_add, Nat.add_zero, ne_eq, not_true_eq_false, not_false_eq_true, reduceCtorEq]
  rw [e]
  refine findOut_ok S L n30 h7 hr hm hst n 0 (by omega) (fun _ => st) (fun i => i) (fun _ => false) _ _ _ _ _ ⟨BQ.start rfl hn, fun x hx => ?_, fun i hi he => absurd rfl (L.ne he), fun x hx => bt_0 x, fun x hx => absurd hx (Nat.not_lt_zero x), Fq.rf.u2 (.inr (.inr rfl)), fun i hi => ?_⟩ (by omega)
  · rw [show x = 0 by omega, w2_eq]
  · rw [w2_ne (by omega)]
    exact hM i hi
end MG
