/-! THE REFERENCE: matching -/
theorem Ch.st {E : EF} {m : MF} {rb : Nat → Nat} {st : Nat} : ∀ {d r : Nat}, Ch E m rb st d r → m st = none
  | 0, _, h => h.2.2
  | _ + 1, _, h => by
    obtain ⟨_, _, _, h2⟩ := h
    exact h2.st
def Fp (f f' : Nat → Nat → Int32) : Prop := ∀ a x, a ≠ 246 → a ≠ 247 → a ≠ 248 → f' a x = f a x
theorem Fp.rf {f : Nat → Nat → Int32} : Fp f f := fun _ _ _ _ _ => rfl
theorem Fp.u2 {f g : Nat → Nat → Int32} (h : Fp f g) {a k : Nat} {v : Int32} (ha : a = 246 ∨ a = 247 ∨ a = 248) : Fp f (u2 g a k v) := fun b x h1 h2 h3 => (w2_ne (by omega)).trans (h b x h1 h2 h3)
theorem Fp.rm {f g : Nat → Nat → Int32} (H : Fp f g) {A D : AF} (R : RM (f 242) A D) : RM (g 242) A D := R.congr (fun k _ => H 242 k (by decide) (by decide) (by decide))
theorem Fp.ms {f g : Nat → Nat → Int32} (H : Fp f g) : (∀ j, ms (g 242) j = ms (f 242) j) ∧ ∀ j, mk (g 242) j = mk (f 242) j := ⟨fun j => congrArg (fun x : Int32 => x.toNatClampNeg - 97) (H 242 _ (by decide) (by decide) (by decide)), fun j => congrArg (fun x : Int32 => x.toNatClampNeg) (H 242 _ (by decide) (by decide) (by decide))⟩
theorem Fp.trans {f g k : Nat → Nat → Int32} (H : Fp f g) (K : Fp g k) : Fp f k := fun a x q1 q2 q3 => (K a x q1 q2 q3).trans (H a x q1 q2 q3)
def Mp (f : Nat → Nat → Int32) (n : Nat) (m : MF) : Prop := ∀ i, i < n → f 246 i = oI (m i)
theorem Mp.flp {f : Nat → Nat → Int32} {n l r : Nat} {m : MF} (M : Mp f n m) (hlr : l ≠ r) : Mp (u2 (u2 f 246 r (nI l)) 246 l (nI r)) n (flp m l r) := by
  intro i hi
  by_cases q1 : i = r
  · subst q1
    rw [w2_ne (by omega), w2_eq, flp_r]
    rfl
  · by_cases q2 : i = l
    · subst q2
      rw [w2_eq, flp_l hlr]
      rfl
    · rw [w2_ne (by omega), w2_ne (by omega), flp_o q1 q2]
      exact M i hi
/-- the pairs of two sources' records, those of key w aside -/
def eM (A : AF) (g : Nat → Int32) (s o w : Nat) : EF := fun i j => decide (i < tot A ∧ j < tot A ∧ ms g i = s ∧ ms g j = o ∧ mk g i ≠ w) && ppA A s (mk g i) o (mk g j)
theorem eM_t {A : AF} {g : Nat → Int32} {s o w i j : Nat} (h : eM A g s o w i j = true) : (i < tot A ∧ j < tot A ∧ ms g i = s ∧ ms g j = o ∧ mk g i ≠ w) ∧ ppA A s (mk g i) o (mk g j) = true := by
  unfold eM at h
  rw [Bool.and_eq_true] at h
  exact ⟨of_decide_eq_true h.1, h.2⟩
theorem eM_LR (A : AF) (g : Nat → Int32) {s o : Nat} (hso : s ≠ o) (w : Nat) : LR (eM A g s o w) (tot A) := by
  refine ⟨fun i j h => ⟨(eM_t h).1.1, (eM_t h).1.2.1⟩, fun i j k h => ?_⟩
  have h1 := (eM_t h).1.2.2.1
  cases hq : eM A g s o w k i with
  | false => rfl
  | true =>
    have h2 := (eM_t hq).1.2.2.2.1
    omega
section MM
variable {h : Hp} {A D : AF}
theorem MdS.pc (S : MdS h) {i : Nat} (hi : i < 30) : chI h 246 100 (nI i) = true ∧ chI h 247 100 (nI i) = true ∧ chI h 248 100 (nI i) = true := ⟨chI_nI S.2.2.2.2.2.2.1.1 S.2.2.2.2.2.2.1.2 hi (by decide), chI_nI S.2.2.2.2.2.2.2.1.1 S.2.2.2.2.2.2.2.1.2 hi (by decide), chI_nI S.2.2.2.2.2.2.2.2.1.1 S.2.2.2.2.2.2.2.2.1.2 hi (by decide)⟩
theorem flipM_ok (S : MdS h) {E : EF} {n st : Nat} {rb : Nat → Nat} (L : LR E n) (n30 : n ≤ 30) (e : Nat) : ∀ (d : Nat) (m : MF) (r : Nat) (v w : Value) (f : Nat → Nat → Int32), Mp f n m → (∀ i, i < n → E (rb i) i = true → f 247 i = nI (rb i)) → MD E m r → Ch E m rb st d r → ∃ m' f', RF 288 5 [.ref 241, .int (nI e), .int (nI st), .int (nI r), .int (nI 0), v, w] [] (wI h f) = some (.ok .null, wI h f') ∧ Mp f' n m' ∧ FR E m m' st r ∧ ∀ a x, a ≠ 246 → f' a x = f a x := by
  intro d
  induction d with
  | zero =>
    intro m r v w f M hrb D C
    have he := C.e
    obtain ⟨l1, l2⟩ := L.1 _ _ he
    have hb : f 247 r = nI (rb r) := hrb r l2 he
    have hst : rb r = st := C.2.1
    have hm : f 246 (rb r) = -nI 1 := by rw [M _ l1, hst, C.2.2]; rfl
    have nlr := L.ne he
    refine ⟨flp m st r, u2 (u2 f 246 r (nI (rb r))) 246 (rb r) (nI r), ?_, ?_, FR.last L D C, fun a x ha => by rw [w2_ne (by omega), w2_ne (by omega)]⟩
    · rw [hst] at hb hm l1 ⊢
      rw [e288_5]
      simp (disch := omega) only [S.f, S.pc (show r < 30 by omega), S.pc (show st < 30 by omega), hb, hm, cond_true, cond_false, bI_ok, bI_er, bV_ok, bV_er, bR_ok, bR_er, bD_ok, bD_er, bF_ok, bF_er, thr_ap, cl_nI, lt_nI, le_nI, eq_nI, m1_lt, nI_m1, m1_nI, nI_lt_m1, add_nI, sub_nI, addm_nI, z_addm, z_subm, mul_nI, fit1_0, fit1_1, fit2_n, HI_wI, HK_wI, HL_wI, HR_wI, ckK_wI, chI_wI, sI_wI, wI_wI, lz0, lz1, lz2, lz3, lz4, lz5, lz6, lz7, lz8, lz9, lz10, lz12, lz13, lz16, lz17, lz20, lz21, lz23, lz26, lz30, lz32, lz35, lz40, lz45, lz48, lz57, lz58, lz59, lz60, lz61, lz63, lz64, lz97, lz99, lz100, lz110, lz111, lz126, lz129, lz132, lz133, lz166, lz169, lz255, lz999, lz1183, lz1800, Nat.reduceAdd, Nat.reduceLT, Nat.reduceEqDiff, Nat.not_lt_zero, Nat.lt_irrefl, ↓reduceIte, Nat.zero_add, Nat.add_zero, ne_eq, not_true_eq_false, not_false_eq_true, reduceCtorEq]
      rw [e288_5]
      simp (disch := omega) only [Nat.succ_ne_self, cond_true, cond_false, bI_ok, bI_er, bV_ok, bV_er, bR_ok, bR_er, bD_ok, bD_er, bF_ok, bF_er, thr_ap, cl_nI, lt_nI, le_nI, eq_nI, m1_lt, nI_m1, m1_nI, nI_lt_m1, add_nI, sub_nI, addm_nI, z_addm, z_subm, mul_nI, fit1_0, fit1_1, fit2_n, HI_wI, HK_wI, HL_wI, HR_wI, ckK_wI, chI_wI, sI_wI, wI_wI, lz0, lz1, lz2, lz3, lz4, lz5, lz6, lz7, lz8, lz9, lz10, lz12, lz13, lz16, lz17, lz20, lz21, lz23, lz26, lz30, lz32, lz35, lz40, lz45, lz48, lz57, lz58, lz59, lz60, lz61, lz63, lz64, lz97, lz99, lz100, lz110, lz111, lz126, lz129, lz132, lz133, lz166, lz169, lz255, lz999, lz1183, lz1800, Nat.reduceAdd, Nat.reduceLT, Nat.reduceEqDiff, Nat.not_lt_zero, Nat.lt_irrefl, ↓reduceIte, Nat.zero_add, Nat.add_zero, ne_eq, not_true_eq_false, not_false_eq_true, reduceCtorEq]
    · have := M.flp nlr
      rw [hst] at this ⊢
      exact this
  | succ d ih =>
    intro m r v w f M hrb D C
    have he := C.e
    obtain ⟨l1, l2⟩ := L.1 _ _ he
    have hb : f 247 r = nI (rb r) := hrb r l2 he
    obtain ⟨b, hmb⟩ : ∃ b, m (rb r) = some b := by
      obtain ⟨_, b, h1, _⟩ := C
      exact ⟨b, h1⟩
    have hne : rb r ≠ st := fun q => by
      have := C.st
      rw [← q, hmb] at this
      cases this
    obtain ⟨g1, g2, g3, g4, g5, g6⟩ := flip_more L D C hmb
    have hm : f 246 (rb r) = nI b := by rw [M _ l1, hmb]; rfl
    have hbn : b < n := (L.1 _ _ g2.e).2
    have hstn : st < n := by
      obtain ⟨j, hj⟩ : ∃ j, E st j = true := by
        have := C.at (t := d + 1) (Nat.le_refl _)
        rw [Nat.sub_self] at this
        have h2 := this.e
        rw [this.2.1] at h2
        exact ⟨_, h2⟩
      exact (L.1 _ _ hj).1
    obtain ⟨m', f', k1, k2, k3, k4⟩ := ih (flp m (rb r) r) b (.int (nI (rb r))) (.int (nI b)) (u2 (u2 f 246 r (nI (rb r))) 246 (rb r) (nI r)) (M.flp g5) (fun i hi hie => by rw [w2_ne (by omega), w2_ne (by omega)]; exact hrb i hi hie) g1 g2
    refine ⟨m', f', ?_, k2, FR.more L D C hmb k3, fun a x ha => by rw [k4 a x ha, w2_ne (by omega), w2_ne (by omega)]⟩
    rw [← k1, e288_5]
    simp (disch := omega) only [S.f, S.pc (show r < 30 by omega), S.pc (show rb r < 30 by omega), hb, hm, hne, cond_true, cond_false, bI_ok, bI_er, bV_ok, bV_er, bR_ok, bR_er, bD_ok, bD_er, bF_ok, bF_er, thr_ap, cl_nI, lt_nI, le_nI, eq_nI, m1_lt, nI_m1, m1_nI, nI_lt_m1, add_nI, sub_nI, addm_nI, z_addm, z_subm, mul_nI, fit1_0, fit1_1, fit2_n, HI_wI, HK_wI, HL_wI, HR_wI, ckK_wI, chI_wI, sI_wI, wI_wI, lz0, lz1, lz2, lz3, lz4, lz5, lz6, lz7, lz8, lz9, lz10, lz12, lz13, lz16, lz17, lz20, lz21, lz23, lz26, lz30, lz32, lz35, lz40, lz45, lz48, lz57, lz58, lz59, lz60, lz61, lz63, lz64, lz97, lz99, lz100, lz110, lz111, lz126, lz129, lz132, lz133, lz166, lz169, lz255, lz999, lz1183, lz1800, Nat.reduceAdd, Nat.reduceLT, Nat.reduceEqDiff, Nat.not_lt_zero, Nat.lt_irrefl, ↓reduceIte, Nat.zero_add, Nat.add_zero, ne_eq, not_true_eq_false, not_false_eq_true, reduceCtorEq]
def Q2 (h : Hp) (E : EF) (n : Nat) (m : MF) (st : Nat) (f : Nat → Nat → Int32) (res : Res) : Prop := (∃ m' f', res = some (.ok (.int (nI 1)), wI h f') ∧ Mp f' n m' ∧ won E m m' st ∧ Fp f f') ∨ ∃ f', res = some (.ok (.int (nI 0)), wI h f') ∧ Mp f' n m ∧ lost E m st ∧ Fp f f'
def PM (E : EF) (n : Nat) (m : MF) (st : Nat) (f : Nat → Nat → Int32) (p : Nat) (q rb : Nat → Nat) (sn : Nat → Bool) (g : Nat → Nat → Int32) (T : Nat) : Prop := BQ E m n st q T rb sn ∧ (∀ x, x < T → g 248 x = nI (q x)) ∧ (∀ i, i < n → g 247 i = if sn i then nI (rb i) else -nI 1) ∧ (∀ r, E (rb r) r = sn r) ∧ (∀ x, x < p → ∀ r, E (q x) r = true → sn r = true) ∧ Fp f g ∧ Mp g n m
theorem PM.le {E : EF} {n : Nat} {m : MF} {st : Nat} {f : Nat → Nat → Int32} {p : Nat} {q rb : Nat → Nat} {sn : Nat → Bool} {g : Nat → Nat → Int32} {T : Nat} (H : PM E n m st f p q rb sn g T) : T ≤ n := H.1.le
/-- who stands in the queue may be a left record -/
theorem BQ.left {E : EF} {m : MF} {n st T : Nat} {q rb : Nat → Nat} {sn : Nat → Bool} (L : LR E n) (M : MT E m) (B : BQ E m n st q T rb sn) {p : Nat} (hp : p < T) : q p = st ∨ ∃ r, E (q p) r = true := by
  by_cases p0 : p = 0
  · subst p0
    exact .inl B.1.1
  · obtain ⟨r, p', h1, h2, h3, h4, h5⟩ := B.2.1 p (by omega) hp
    refine .inr ⟨r, ?_⟩
    rcases (M _ _ h2).2 with z | z
    · exact z
    · have := L.2 r (q p) (q p') z
      rw [h5] at this
      cases this
theorem augIn_ok (S : MdS h) {s o w st p : Nat} {m : MF} {f : Nat → Nat → Int32} (R : RM (f 242) A D) (hso : s ≠ o) (ho : o < 3) (hm : MT (eM A (f 242) s o w) m) (hs0 : ms (f 242) st = s ∧ mk (f 242) st ≠ w) (hst : ∀ j, eM A (f 242) s o w st j = true → m st = none) (l : Nat) (hout : ∀ q rb sn g T v z, PM (eM A (f 242) s o w) (tot A) m st f (p + 1) q rb sn g T → p < T → Q2 h (eM A (f 242) s o w) (tot A) m st f (RF 289 37 [.ref 241, .int (nI st), .int (nI (97 + o)), .int (nI T), .int (nI (p + 1)), v, z] [] (wI h g))) {q rb : Nat → Nat} {sn : Nat → Bool} {g : Nat → Nat → Int32} {T : Nat} (v0 : Value) (H : PM (eM A (f 242) s o w) (tot A) m st f p q rb sn g T) (hp : p < T) (hl : q p = l) : Q2 h (eM A (f 242) s o w) (tot A) m st f (RF 289 46 [.ref 241, .int (nI st), .int (nI (97 + o)), .int (nI T), .int (nI p), .int (nI 0), v0] [] (wI h g)) := by
  have L := eM_LR A (f 242) hso w
  have n30 := R.m30
  refine lpRes (β := (Nat → Nat → Int32) × Nat × Value) (n := tot A) (Q := Q2 h (eM A (f 242) s o w) (tot A) m st f) (F := fun i x => RF 289 46 [.ref 241, .int (nI st), .int (nI (97 + o)), .int (nI x.2.1), .int (nI p), .int (nI i), x.2.2] [] (wI h x.1)) (P := fun i x => ∃ q rb sn, PM (eM A (f 242) s o w) (tot A) m st f p q rb sn x.1 x.2.1 ∧ p < x.2.1 ∧ q p = l ∧ ∀ r, r < i → eM A (f 242) s o w l r = true → sn r = true) (fun i x hi hP => ?_) (fun x hP => ?_) (k := tot A) (i := 0) (x := (g, T, v0)) (by omega) ⟨q, rb, sn, H, hp, hl, fun r hr => by omega⟩
  · obtain ⟨g, T, v0⟩ := x
    obtain ⟨q, rb, sn, H, hp, hl, hd⟩ := hP
    dsimp only at H hp ⊢
    have hTn := H.le
    obtain ⟨B, h1, h2, h3, h4, h5, h6⟩ := H
    have hln : l < tot A := by
      rw [← hl]
      exact B.2.2.2.2 p hp
    have Rg := h5.rm R
    obtain ⟨em, ek'⟩ := h5.ms
    have g1 : g 242 1 = nI (tot A) := Rg.m
    have hsi := of_s (S.wI g) Rg hi
    rw [HI_wI, em] at hsi
    have hb := R.b hi
    have hgi := h2 i hi
    have hgq := h1 p hp
    rw [hl] at hgq
    have hll : ms (f 242) l = s ∧ mk (f 242) l ≠ w := by
      rcases B.left L hm hp with z | ⟨r, z⟩
      · rw [← hl, z]
        exact hs0
      · rw [hl] at z
        exact ⟨(eM_t z).1.2.2.1, (eM_t z).1.2.2.2.2⟩
    have hpair := isPair_ok (S.wI g) Rg hln hi
    rw [HI_wI, em, em, ek', ek', hll.1] at hpair
    have eo : (97 + ms (f 242) i = 97 + o) = (ms (f 242) i = o) := propext (by omega)
    by_cases qo : ms (f 242) i = o
    · have hEi : eM A (f 242) s o w l i = ppA A s (mk (f 242) l) o (mk (f 242) i) := by
        unfold eM
        rw [decide_eq_true ⟨hln, hi, hll.1, qo, hll.2⟩, Bool.true_and]
      rw [qo, ← hEi] at hpair
      cases hsn : sn i with
      | true =>
        have hrb := h3 i
        rw [hsn] at hrb hgi
        rw [if_pos rfl] at hgi
        have hrn := (L.1 _ _ hrb).1
        right
        refine ⟨(g, T, .int (nI 0)), ?_, q, rb, sn, ⟨B, h1, h2, h3, h4, h5, h6⟩, hp, hl, fun r hr' hre => ?_⟩
        · rw [e289_46]
          simp (disch := omega) only [S.f, S.cw (show 1 < 169 by decide), S.pc (show i < 30 by omega), g1, hi, hsi, qo, hgi, cond_true, cond_false, bI_ok, bI_er, bV_ok, bV_er, bR_ok, bR_er, bD_ok, bD_er, bF_ok, bF_er, thr_ap, cl_nI, lt_nI, le_nI, eq_nI, m1_lt, nI_m1, m1_nI, nI_lt_m1, add_nI, sub_nI, addm_nI, z_addm, z_subm, mul_nI, fit1_0, fit1_1, fit2_n, HI_wI, HK_wI, HL_wI, HR_wI, ckK_wI, chI_wI, sI_wI, wI_wI, lz0, lz1, lz2, lz3, lz4, lz5, lz6, lz7, lz8, lz9, lz10, lz12, lz13, lz16, lz17, lz20, lz21, lz23, lz26, lz30, lz32, lz35, lz40, lz45, lz48, lz57, lz58, lz59, lz60, lz61, lz63, lz64, lz97, lz99, lz100, lz110, lz111, lz126, lz129, lz132, lz133, lz166, lz169, lz255, lz999, lz1183, lz1800, Nat.reduceAdd, Nat.reduceLT, Nat.reduceEqDiff, Nat.not_lt_zero, Nat.lt_irrefl, ↓reduceIte, Nat.zero_add, Nat.add_zero, ne_eq, not_true_eq_false, not_false_eq_true, reduceCtorEq]
        · by_cases qr : r = i
          · rw [qr, hsn]
          · exact hd r (by omega) hre
      | false =>
        rw [hsn, if_neg (by decide)] at hgi
        cases hE : eM A (f 242) s o w l i with
        | false =>
          rw [hE, b2f] at hpair
          right
          refine ⟨(g, T, .int (nI 0)), ?_, q, rb, sn, ⟨B, h1, h2, h3, h4, h5, h6⟩, hp, hl, fun r hr' hre => ?_⟩
          · rw [e289_46]
            simp (disch := omega) only [S.f, S.cw (show 1 < 169 by decide), S.pc (show i < 30 by omega), S.pc (show p < 30 by omega), g1, hi, hsi, qo, hgi, hgq, hpair, cond_true, cond_false, bI_ok, bI_er, bV_ok, bV_er, bR_ok, bR_er, bD_ok, bD_er, bF_ok, bF_er, thr_ap, cl_nI, lt_nI, le_nI, eq_nI, m1_lt, nI_m1, m1_nI, nI_lt_m1, add_nI, sub_nI, addm_nI, z_addm, z_subm, mul_nI, fit1_0, fit1_1, fit2_n, HI_wI, HK_wI, HL_wI, HR_wI, ckK_wI, chI_wI, sI_wI, wI_wI, lz0, lz1, lz2, lz3, lz4, lz5, lz6, lz7, lz8, lz9, lz10, lz12, lz13, lz16, lz17, lz20, lz21, lz23, lz26, lz30, lz32, lz35, lz40, lz45, lz48, lz57, lz58, lz59, lz60, lz61, lz63, lz64, lz97, lz99, lz100, lz110, lz111, lz126, lz129, lz132, lz133, lz166, lz169, lz255, lz999, lz1183, lz1800, Nat.reduceAdd, Nat.reduceLT, Nat.reduceEqDiff, Nat.not_lt_zero, Nat.lt_irrefl, ↓reduceIte, Nat.zero_add, Nat.add_zero, ne_eq, not_true_eq_false, not_false_eq_true, reduceCtorEq]
          · by_cases qr : r = i
            · rw [qr, hE] at hre
              cases hre
            · exact hd r (by omega) hre
        | true =>
          rw [hE, b2t] at hpair
          have he' : eM A (f 242) s o w (q p) i = true := by rw [hl]; exact hE
          cases hmi : m i with
          | none =>
            left
            have gm : g 246 i = -nI 1 := by rw [h6 i hi, hmi]; rfl
            obtain ⟨⟨d, hC⟩, hD, hG⟩ := B.hit hm hst hp he' hsn hmi
            rw [hl] at hC
            obtain ⟨m', f', k1, k2, k3, k4⟩ := flipM_ok S L n30 i d m i .null .null (u2 g 247 i (nI l)) (fun j hj => by rw [w2_ne (by omega)]; exact h6 j hj) (fun j hj hje => by
              by_cases qj : j = i
              · subst qj
                rw [w2_eq, ud_e]
              · rw [w2_ne (by omega), ud_n qj]
                rw [ud_n qj, h3 j] at hje
                rw [h2 j hj, hje, if_pos rfl]) hD hC
            left
            refine ⟨m', f', ?_, k2, ⟨k3.1, k3.2.1, k3.2.2.1, fun F G hc => k3.2.2.2 F G hc (hG F G hc)⟩, fun a x q1 q2 q3 => ?_⟩
            · have hcall : CL 288 [.ref 241, .int (nI i), .int (nI st)] (wI h (u2 g 247 i (nI l))) = some (.ok .null, wI h f') := by
                rw [e288]
                exact k1
              rw [e289_46]
              simp (disch := omega) only [S.f, S.cw (show 1 < 169 by decide), S.pc (show i < 30 by omega), S.pc (show p < 30 by omega), g1, hi, hsi, qo, hgi, hgq, hpair, w2_ne, gm, hcall, Nat.succ_ne_self, cond_true, cond_false, bI_ok, bI_er, bV_ok, bV_er, bR_ok, bR_er, bD_ok, bD_er, bF_ok, bF_er, thr_ap, cl_nI, lt_nI, le_nI, eq_nI, m1_lt, nI_m1, m1_nI, nI_lt_m1, add_nI, sub_nI, addm_nI, z_addm, z_subm, mul_nI, fit1_0, fit1_1, fit2_n, HI_wI, HK_wI, HL_wI, HR_wI, ckK_wI, chI_wI, sI_wI, wI_wI, lz0, lz1, lz2, lz3, lz4, lz5, lz6, lz7, lz8, lz9, lz10, lz12, lz13, lz16, lz17, lz20, lz21, lz23, lz26, lz30, lz32, lz35, lz40, lz45, lz48, lz57, lz58, lz59, lz60, lz61, lz63, lz64, lz97, lz99, lz100, lz110, lz111, lz126, lz129, lz132, lz133, lz166, lz169, lz255, lz999, lz1183, lz1800, Nat.reduceAdd, Nat.reduceLT, Nat.reduceEqDiff, Nat.not_lt_zero, Nat.lt_irrefl, ↓reduceIte, Nat.zero_add, Nat.add_zero, ne_eq, not_true_eq_false, not_false_eq_true, reduceCtorEq]
            · rw [k4 a x q1, w2_ne (by omega)]
              exact h5 a x q1 q2 q3
          | some j =>
            right
            have hj := (hm i j hmi).1
            have hjn : j < tot A := by
              rcases (hm i j hmi).2 with z | z
              · exact (L.1 _ _ z).2
              · exact (L.1 _ _ z).1
            have gm : g 246 i = nI j := by rw [h6 i hi, hmi]; rfl
            have B' := B.push L hm hst hp he' hsn hmi
            have hT' := B'.le
            refine ⟨(u2 (u2 g 247 i (nI l)) 248 T (nI j), T + 1, .int (nI 1)), ?_, ud q T j, ud rb i (q p), (fun x => sn x || decide (x = i)), ⟨B', fun x hx => ?_, fun x hx => ?_, fun x => ?_, fun x hx r hxr => ?_, (h5.u2 (.inr (.inl rfl))).u2 (.inr (.inr rfl)), fun x hx => ?_⟩, by dsimp only; omega, ?_, fun r hr' hre => ?_⟩
            all_goals try dsimp only
            · rw [e289_46]
              simp (disch := omega) only [S.f, S.cw (show 1 < 169 by decide), S.pc (show i < 30 by omega), S.pc (show p < 30 by omega), S.pc (show T < 30 by omega), g1, hi, hsi, qo, hgi, hgq, hpair, w2_ne, gm, Nat.succ_ne_self, cond_true, cond_false, bI_ok, bI_er, bV_ok, bV_er, bR_ok, bR_er, bD_ok, bD_er, bF_ok, bF_er, thr_ap, cl_nI, lt_nI, le_nI, eq_nI, m1_lt, nI_m1, m1_nI, nI_lt_m1, add_nI, sub_nI, addm_nI, z_addm, z_subm, mul_nI, fit1_0, fit1_1, fit2_n, HI_wI, HK_wI, HL_wI, HR_wI, ckK_wI, chI_wI, sI_wI, wI_wI, lz0, lz1, lz2, lz3, lz4, lz5, lz6, lz7, lz8, lz9, lz10, lz12, lz13, lz16, lz17, lz20, lz21, lz23, lz26, lz30, lz32, lz35, lz40, lz45, lz48, lz57, lz58, lz59, lz60, lz61, lz63, lz64, lz97, lz99, lz100, lz110, lz111, lz126, lz129, lz132, lz133, lz166, lz169, lz255, lz999, lz1183, lz1800, Nat.reduceAdd, Nat.reduceLT, Nat.reduceEqDiff, Nat.not_lt_zero, Nat.lt_irrefl, ↓reduceIte, Nat.zero_add, Nat.add_zero, ne_eq, not_true_eq_false, not_false_eq_true, reduceCtorEq]
            · by_cases qx : x = T
              · subst qx
                rw [w2_eq, ud_e]
              · rw [w2_ne (by omega), w2_ne (by omega), ud_n qx]
                exact h1 x (by dsimp only at hx; omega)
            · by_cases qx : x = i
              · subst qx
                rw [w2_ne (by omega), w2_eq, ud_e, hl]
                exact (if_pos (by rw [decide_eq_true rfl, Bool.or_true])).symm
              · rw [w2_ne (by omega), w2_ne (by omega), ud_n qx, h2 x hx]
                by_cases hs : sn x = true
                · rw [if_pos hs]
                  exact (if_pos (by rw [hs, Bool.true_or])).symm
                · rw [if_neg hs]
                  exact (if_neg (by rw [decide_eq_false qx, Bool.or_false]; exact hs)).symm
            · by_cases qx : x = i
              · subst qx
                rw [ud_e, he', decide_eq_true rfl, Bool.or_true]
              · rw [ud_n qx, decide_eq_false qx, Bool.or_false]
                exact h3 x
            · rw [ud_n (by omega)] at hxr
              rw [h4 x hx r hxr, Bool.true_or]
            · rw [w2_ne (by omega), w2_ne (by omega)]
              exact h6 x hx
            · rw [ud_n (by omega)]
              exact hl
            · by_cases qr : r = i
              · rw [decide_eq_true qr, Bool.or_true]
              · rw [hd r (by omega) hre, Bool.true_or]
    · right
      refine ⟨(g, T, .int (nI 0)), ?_, q, rb, sn, ⟨B, h1, h2, h3, h4, h5, h6⟩, hp, hl, fun r hr' hre => ?_⟩
      · rw [e289_46]
        simp (disch := omega) only [S.f, S.cw (show 1 < 169 by decide), g1, hi, hsi, eo, qo, cond_true, cond_false, bI_ok, bI_er, bV_ok, bV_er, bR_ok, bR_er, bD_ok, bD_er, bF_ok, bF_er, thr_ap, cl_nI, lt_nI, le_nI, eq_nI, m1_lt, nI_m1, m1_nI, nI_lt_m1, add_nI, sub_nI, addm_nI, z_addm, z_subm, mul_nI, fit1_0, fit1_1, fit2_n, HI_wI, HK_wI, HL_wI, HR_wI, ckK_wI, chI_wI, sI_wI, wI_wI, lz0, lz1, lz2, lz3, lz4, lz5, lz6, lz7, lz8, lz9, lz10, lz12, lz13, lz16, lz17, lz20, lz21, lz23, lz26, lz30, lz32, lz35, lz40, lz45, lz48, lz57, lz58, lz59, lz60, lz61, lz63, lz64, lz97, lz99, lz100, lz110, lz111, lz126, lz129, lz132, lz133, lz166, lz169, lz255, lz999, lz1183, lz1800, Nat.reduceAdd, Nat.reduceLT, Nat.reduceEqDiff, Nat.not_lt_zero, Nat.lt_irrefl, ↓reduceIte, Nat.zero_add, Nat.add_zero, ne_eq, not_true_eq_false, not_false_eq_true, reduceCtorEq]
      · by_cases qr : r = i
        · rw [qr] at hre
          exact absurd (eM_t hre).1.2.2.2.1 qo
        · exact hd r (by omega) hre
  · obtain ⟨g, T, v0⟩ := x
    obtain ⟨q, rb, sn, H, hp, hl, hd⟩ := hP
    dsimp only at H hp ⊢
    have Rg := H.2.2.2.2.2.1.rm R
    have g1 : g 242 1 = nI (tot A) := Rg.m
    have hz := hout q rb sn g T (.int (nI (tot A))) v0 ⟨H.1, H.2.1, H.2.2.1, H.2.2.2.1, fun x hx r hxr => by
      by_cases qx : x = p
      · subst qx
        rw [hl] at hxr
        exact hd r (L.1 _ _ hxr).2 hxr
      · exact H.2.2.2.2.1 x (by omega) r hxr, H.2.2.2.2.2.1, H.2.2.2.2.2.2⟩ hp
    have e : RF 289 46 [.ref 241, .int (nI st), .int (nI (97 + o)), .int (nI T), .int (nI p), .int (nI (tot A)), v0] [] (wI h g) = RF 289 37 [.ref 241, .int (nI st), .int (nI (97 + o)), .int (nI T), .int (nI (p + 1)), .int (nI (tot A)), v0] [] (wI h g) := by
      rw [e289_46]
      simp (disch := omega) only [S.f, S.cw (show 1 < 169 by decide), g1, cond_true, cond_false, bI_ok, bI_er, bV_ok, bV_er, bR_ok, bR_er, bD_ok, bD_er, bF_ok, bF_er, thr_ap, cl_nI, lt_nI, le_nI, eq_nI, m1_lt, nI_m1, m1_nI, nI_lt_m1, add_nI, sub_nI, addm_nI, z_addm, z_subm, mul_nI, fit1_0, fit1_1, fit2_n, HI_wI, HK_wI, HL_wI, HR_wI, ckK_wI, chI_wI, sI_wI, wI_wI, lz0, lz1, lz2, lz3, lz4, lz5, lz6, lz7, lz8, lz9, lz10, lz12, lz13, lz16, lz17, lz20, lz21, lz23, lz26, lz30, lz32, lz35, lz40, lz45, lz48, lz57, lz58, lz59, lz60, lz61, lz63, lz64, lz97, lz99, lz100, lz110, lz111, lz126, lz129, lz132, lz133, lz166, lz169, lz255, lz999, lz1183, lz1800, Nat.reduceAdd, Nat.reduceLT, Nat.reduceEqDiff, Nat.not_lt_zero, Nat.lt_irrefl, ↓reduceIte, Nat.zero_add, Nat.add_zero, ne_eq, not_true_eq_false, not_false_eq_true, reduceCtorEq]
    rw [e]
    exact hz
end MM
