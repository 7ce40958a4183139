/-! THE LAW: its matchings against the class's -/
section LAW23
variable {N : Nat} {xs : Nat → Int32} {h g : Hp} {b : Bk} {y : Nat} {Z : Nat → Prop} {s o : Nat}
theorem nq_new3 (I : ZI Z h) {n m : Nat} (hn : n ≤ 30) (hm : m ≤ 30) : Nq Z h (hnew3 h n m) 31 := by
  have hmul : n * m ≤ 30 * 30 := Nat.mul_le_mul hn hm
  refine ⟨⟨Nat.le_add_right _ _, fun a ha => ?_, fun a ha i => ?_, fun a ha i => ?_, ?_, ?_⟩, (ZR_new3 I).1⟩
  · show (if a = HN h then (108, n) else if HN h < a ∧ a ≤ HN h + n then (103, m) else h.2.1 a) = h.2.1 a
    rw [if_neg (by omega), if_neg (by omega)]
  · show (if a = HN h then (if i < n then HN h + 1 + i else 0) else if HN h < a ∧ a ≤ HN h + n then 0 else HR h a i) = HR h a i
    rw [if_neg (by omega), if_neg (by omega)]
  · show (if HN h ≤ a ∧ a ≤ HN h + n then 0 else HI h a i) = HI h a i
    rw [if_neg (by omega)]
  · show HC h + (1 + n) ≤ HC h + 31
    omega
  · show HS h + (n + n * m) ≤ HS h + 100 * 31
    omega
theorem h3_k (h : Hp) {n m : Nat} : (HK (hnew3 h n m) (HN h) = 108 ∧ HL (hnew3 h n m) (HN h) = n) ∧ ∀ i, i < n → HR (hnew3 h n m) (HN h) i = HN h + 1 + i ∧ HK (hnew3 h n m) (HN h + 1 + i) = 103 ∧ HL (hnew3 h n m) (HN h + 1 + i) = m := by
  have e0 : (hnew3 h n m).2.1 (HN h) = (108, n) := if_pos rfl
  refine ⟨⟨congrArg Prod.fst e0, congrArg Prod.snd e0⟩, fun i hi => ?_⟩
  have e1 : (hnew3 h n m).2.1 (HN h + 1 + i) = (103, m) := by
    show (if HN h + 1 + i = HN h then (108, n) else if HN h < HN h + 1 + i ∧ HN h + 1 + i ≤ HN h + n then (103, m) else h.2.1 (HN h + 1 + i)) = _
    rw [if_neg (by omega), if_pos (by omega)]
  refine ⟨?_, congrArg Prod.fst e1, congrArg Prod.snd e1⟩
  show (if HN h = HN h then (if i < n then HN h + 1 + i else 0) else if HN h < HN h ∧ HN h ≤ HN h + n then 0 else HR h (HN h) i) = _
  rw [if_pos rfl, if_pos hi]
theorem mt_lk (K : LK N xs h b y) {n m : Nat} (hn : n ≤ 30) (hm : m ≤ 30) {f : Nat → Nat → Int32} (F : ∀ a z, a < HN h → f a z = HI h a z) : LK N xs (wI (hnew3 h n m) f) b y := by
  obtain ⟨⟨q1, q2, q3, -, -, -⟩, I⟩ := nq_new3 K.wf hn hm
  exact K.eqv (g := wI (hnew3 h n m) f) I q1 q2 q3 (fun a ha z => F a z ha)
def cT (T : TF) (nR i j : Nat) : Nat := sumN (fun i' => sumN (fun j' => b2n (T i' j')) nR) i + sumN (fun j' => b2n (T i j')) j
def FT (h : Hp) (T : TF) (nL nR i j : Nat) (f : Nat → Nat → Int32) : Prop := (∀ a z, a < HN h → f a z = HI h a z) ∧ ∀ i' j', i' < nL → j' < nR → (i' < i ∨ (i' = i ∧ j' < j)) → f (HN h + 1 + i') j' = nI (b2n (T i' j'))
theorem fit1_b (p : Bool) : fitc 1 (nI (b2n p)) = true := by cases p <;> rfl
theorem LK.n30 (K : LK N xs h b y) {s : Nat} (hs : s < 3) : numA (kA b) s ≤ 30 := by
  have t30 := K.t30
  rw [tot_num] at t30
  rcases (show s = 0 ∨ s = 1 ∨ s = 2 by omega) with rfl | rfl | rfl <;> omega
theorem mt_in (K : LK N xs h b y) (hs : s < 3) (ho : o < 3) (hso : s ≠ o) {i : Nat} (hi : i < numA (kA b) s) : ∀ (d j : Nat) (f : Nat → Nat → Int32), j + d = numA (kA b) o → FT h (pT (kA b) s o) (numA (kA b) s) (numA (kA b) o) i j f → ∃ f', RF 239 40 [.ref 31, .int (nI (97 + s)), .int (nI (97 + o)), .int (nI (numA (kA b) s)), .int (nI (numA (kA b) o)), .ref (HN h), .int (nI (cT (pT (kA b) s o) (numA (kA b) o) i j)), .int (1 : Int32), .int (nI i), .int (nI j)] [] (wI (hnew3 h (numA (kA b) s) (numA (kA b) o)) f) = RF 239 31 [.ref 31, .int (nI (97 + s)), .int (nI (97 + o)), .int (nI (numA (kA b) s)), .int (nI (numA (kA b) o)), .ref (HN h), .int (nI (cT (pT (kA b) s o) (numA (kA b) o) (i + 1) 0)), .int (1 : Int32), .int (nI (i + 1)), .int (nI (numA (kA b) o))] [] (wI (hnew3 h (numA (kA b) s) (numA (kA b) o)) f') ∧ FT h (pT (kA b) s o) (numA (kA b) s) (numA (kA b) o) (i + 1) 0 f' := by
  have ns := K.n30 hs
  have no := K.n30 ho
  obtain ⟨⟨t1, t2⟩, t3⟩ := h3_k h (n := numA (kA b) s) (m := numA (kA b) o)
  obtain ⟨u1', u2', -, u4⟩ := kyA_ok hi
  obtain ⟨r1, r2, r3⟩ := t3 i hi
  have ci : (nI i).toNatClampNeg = i := cl_nI (by omega)
  intro d
  induction d with
  | zero =>
    intro j f hj G
    have e : j = numA (kA b) o := by omega
    subst e
    refine ⟨f, ?_, G.1, fun i' j' h1 h2 h3 => G.2 i' j' h1 h2 (by omega)⟩
    rw [e239_40, if_neg (show ¬(nI (numA (kA b) o) < nI (numA (kA b) o)) by rw [lt_nI (by omega) (by omega)]; omega), show (nI i + (1 : Int32)) = nI (i + 1) from add_nI i 1]
    rfl
  | succ d ih =>
    intro j f hj G
    have hj' : j < numA (kA b) o := by omega
    obtain ⟨w1, w2, -, w4⟩ := kyA_ok hj'
    have cj : (nI j).toNatClampNeg = j := cl_nI (by omega)
    have F1 : ∀ x a z, a < HN h → u2 f (HN h + 1 + i) j x a z = HI h a z := fun x a z ha => by
      rw [w2_ne (by omega)]
      exact G.1 a z ha
    have Kf := mt_lk K ns no G.1
    have K1 := mt_lk K ns no (F1 (nI (b2n (ppA (kA b) s (kyA (kA b) s i) o (kyA (kA b) o j)))))
    have c1 := keyAt_ok Kf.q Kf.rk hs (nI i)
    rw [u4] at c1
    have c2 := keyAt_ok Kf.q Kf.rk ho (nI j)
    rw [w4] at c2
    have c3 := pair_ok Kf hs ho u1' w1 u2' w2
    have d1 := keyAt_ok K1.q K1.rk hs (nI i)
    rw [u4] at d1
    have d2 := keyAt_ok K1.q K1.rk ho (nI j)
    rw [w4] at d2
    have d3 := ppC_t K1.q K1.rk hs ho hso u1' w1 u2' w2
    have ch : ∀ f', chI (wI (hnew3 h (numA (kA b) s) (numA (kA b) o)) f') (HN h) 108 (nI i) = true := fun f' => chI_nI (h := wI (hnew3 h (numA (kA b) s) (numA (kA b) o)) f') t1 t2 hi (by omega)
    have chr : ∀ f', chI (wI (hnew3 h (numA (kA b) s) (numA (kA b) o)) f') (HN h + 1 + i) 103 (nI j) = true := fun f' => chI_nI (h := wI (hnew3 h (numA (kA b) s) (numA (kA b) o)) f') r2 r3 hj' (by omega)
    have hr : ∀ f', HR (wI (hnew3 h (numA (kA b) s) (numA (kA b) o)) f') (HN h) i = HN h + 1 + i := fun f' => r1
    have G1 : FT h (pT (kA b) s o) (numA (kA b) s) (numA (kA b) o) i (j + 1) (u2 f (HN h + 1 + i) j (nI (b2n (ppA (kA b) s (kyA (kA b) s i) o (kyA (kA b) o j))))) := by
      refine ⟨F1 _, fun i' j' h1 h2 h3 => ?_⟩
      by_cases e : i' = i ∧ j' = j
      · obtain ⟨rfl, rfl⟩ := e
        exact w2_eq _ _ _ _
      · rw [w2_ne (by omega)]
        exact G.2 i' j' h1 h2 (by omega)
    obtain ⟨f', i1, i2⟩ := ih (j + 1) _ (by omega) G1
    refine ⟨f', Eq.trans ?_ i1, i2⟩
    have st : ∀ x, sI (wI (hnew3 h (numA (kA b) s) (numA (kA b) o)) f) (HN h + 1 + i) j x = wI (hnew3 h (numA (kA b) s) (numA (kA b) o)) (u2 f (HN h + 1 + i) j x) := fun x => rfl
    have val : ∀ x, HI (wI (hnew3 h (numA (kA b) s) (numA (kA b) o)) (u2 f (HN h + 1 + i) j x)) (HN h + 1 + i) j = x := fun x => w2_eq _ _ _ _
    rw [e239_40, if_pos (show nI j < nI (numA (kA b) o) by rw [lt_nI (by omega) (by omega)]; exact hj'), ch f, Kf.k8, c1]
    simp only [cond_true, bI_ok, Kf.k8, c2, c3, ci, cj, hr, chr, fit1_b, Bool.and_self, st, ch, val, told_ok, K1.k8, d1, d2, d3]
    rw [if_neg (show ¬((1 : Int32) = 0) by decide)]
    simp only [↓reduceIte]
    rw [show (nI j + (1 : Int32)) = nI (j + 1) from add_nI j 1, add_nI, show cT (pT (kA b) s o) (numA (kA b) o) i (j + 1) = cT (pT (kA b) s o) (numA (kA b) o) i j + b2n (ppA (kA b) s (kyA (kA b) s i) o (kyA (kA b) o j)) from (Nat.add_assoc _ _ _).symm]
theorem mt_fill (K : LK N xs h b y) (hs : s < 3) (ho : o < 3) (hso : s ≠ o) : ∀ (d i : Nat) (f : Nat → Nat → Int32) (v9 : Value), i + d = numA (kA b) s → FT h (pT (kA b) s o) (numA (kA b) s) (numA (kA b) o) i 0 f → ∃ f' v9', RF 239 31 [.ref 31, .int (nI (97 + s)), .int (nI (97 + o)), .int (nI (numA (kA b) s)), .int (nI (numA (kA b) o)), .ref (HN h), .int (nI (cT (pT (kA b) s o) (numA (kA b) o) i 0)), .int (1 : Int32), .int (nI i), v9] [] (wI (hnew3 h (numA (kA b) s) (numA (kA b) o)) f) = RF 239 31 [.ref 31, .int (nI (97 + s)), .int (nI (97 + o)), .int (nI (numA (kA b) s)), .int (nI (numA (kA b) o)), .ref (HN h), .int (nI (cT (pT (kA b) s o) (numA (kA b) o) (numA (kA b) s) 0)), .int (1 : Int32), .int (nI (numA (kA b) s)), v9'] [] (wI (hnew3 h (numA (kA b) s) (numA (kA b) o)) f') ∧ FT h (pT (kA b) s o) (numA (kA b) s) (numA (kA b) o) (numA (kA b) s) 0 f' := by
  have ns := K.n30 hs
  intro d
  induction d with
  | zero =>
    intro i f v9 hi G
    have e : i = numA (kA b) s := by omega
    subst e
    exact ⟨f, v9, rfl, G⟩
  | succ d ih =>
    intro i f v9 hi G
    obtain ⟨f1, r1, G1⟩ := mt_in K hs ho hso (show i < numA (kA b) s by omega) (numA (kA b) o) 0 f (Nat.zero_add _) G
    obtain ⟨f2, u9, s1, s2⟩ := ih (i + 1) f1 (.int (nI (numA (kA b) o))) (by omega) G1
    refine ⟨f2, u9, Eq.trans ?_ (r1.trans s1), s2⟩
    rw [e239_31, if_pos (show nI i < nI (numA (kA b) s) by rw [lt_nI (by omega) (by omega)]; omega)]
    rfl
theorem pc_rows (A : AF) (s o : Nat) : cT (pT A s o) (numA A o) (numA A s) 0 = pcA A s o := by
  have row : ∀ i, sumN (fun j => b2n (pT A s o i j)) (numA A o) = sumN (fun k' => b2n (ppA A s (kyA A s i) o k')) 1000 := fun i => sum_rows (key := kyA A o) (n := numA A o) (N := 1000) (fun r r' h1 h2 => kyA_mono h1 h2) (fun r hr => (kyA_ok hr).1) (F := fun k' => b2n (ppA A s (kyA A s i) o k')) (fun k hk h0 => by
    by_cases q : 0 < A o k
    · obtain ⟨r1, r2⟩ := kyA_on hk q
      exact absurd r2 (h0 _ r1)
    · rw [pp_z2 (show A o k = 0 by omega)]
      rfl)
  show sumN (fun i => sumN (fun j => b2n (pT A s o i j)) (numA A o)) (numA A s) + 0 = pcA A s o
  rw [Nat.add_zero, sumN_eq (fun i _ => row i)]
  exact sum_rows (key := kyA A s) (n := numA A s) (N := 1000) (fun r r' h1 h2 => kyA_mono h1 h2) (fun r hr => (kyA_ok hr).1) (F := fun k => sumN (fun k' => b2n (ppA A s k o k')) 1000) (fun k hk h0 => by
    by_cases q : 0 < A s k
    · obtain ⟨r1, r2⟩ := kyA_on hk q
      exact absurd r2 (h0 _ r1)
    · exact sumN_0 (fun k' _ => by rw [pp_z1 (show A s k = 0 by omega)]; rfl))
theorem TbZ.at {a0 nL nR : Nat} {T : TF} (B : TbZ h a0 nL nR T) {n : Nat} (A : Nq Z h g n) : TbZ g a0 nL nR T := by
  obtain ⟨b1, b2⟩ := B.nq A
  have := A.hn
  exact ⟨b1, by have := B.2.1; omega, fun i hi => by rw [b2 i hi]; have := B.2.2 i hi; omega⟩
/-- scratch of the class's was written: the table is above it -/
theorem TbZ.wr {a0 nL nR : Nat} {T : TF} (B : TbZ h a0 nL nR T) (hb : ∀ i, i < nL → 241 ≤ HR h a0 i) {f : Nat → Nat → Int32} (F : ∀ a z, ¬(227 ≤ a ∧ a < 239) → f a z = HI h a z) : TbZ (wI h f) a0 nL nR T := ⟨⟨B.1.1, fun i hi => ⟨(B.1.2 i hi).1, fun j hj => (F (HR h a0 i) j (by have := hb i hi; omega)).trans ((B.1.2 i hi).2 j hj)⟩⟩, B.2.1, B.2.2⟩
/-- one size, the law's own -/
theorem size_is (K : LK N xs h b y) (hs : s < 3) (ho : o < 3) {a0 : Nat} (B : TbZ h a0 (numA (kA b) s) (numA (kA b) o) (pT (kA b) s o)) {skI : Int32} {sk w : Nat} (h1 : ∀ i, i < numA (kA b) s → ((nI i = skI) ↔ i = sk)) (h2 : ∀ l, l < numA (kA b) s → (kyA (kA b) s l = w ↔ l = sk)) : ∃ g z, CL 238 [.ref a0, .int (nI (numA (kA b) o)), .int skI] h = some (.ok (.int (nI z)), g) ∧ z ≤ 30 ∧ MCk (ek (kA b) s o w) 1000 z ∧ Nq (fun _ => False) h g 31 := by
  have ns := K.n30 hs
  have no := K.n30 ho
  obtain ⟨g, u, c, A, -, -, hE, hj, hm, F, G, hK, hF⟩ := size_ok K.wf B ns no h1
  have := mN_le u (numA (kA b) s)
  exact ⟨g, _, c, by omega, kuhn_max hE hj hK (fun l h3 h4 => hF l h3 h4) (fun j l h3 => (hm j l h3).2) h2, A.up (by omega)⟩
theorem mt_need {a0 z : Nat} (hs : s < 3) (ho : o < 3) (hso : s ≠ o) (hz : MCk (ek (kA b) s o 1000) 1000 z) (z30 : z ≤ 30) (a6 : Int32) : ∀ (d i : Nat) (g : Hp), i + d = numA (kA b) s → LK N xs g b y → TbZ g a0 (numA (kA b) s) (numA (kA b) o) (pT (kA b) s o) → (∀ i, i < numA (kA b) s → 241 ≤ HR g a0 i) → ∃ g', RF 239 204 [.ref 31, .int (nI (97 + s)), .int (nI (97 + o)), .int (nI (numA (kA b) s)), .int (nI (numA (kA b) o)), .ref a0, .int a6, .int (1 : Int32), .int (nI z), .int (nI i)] [] g = some (.ok (.int (1 : Int32)), g') ∧ Ls N xs b y g g' (31 * d) := by
  intro d
  induction d with
  | zero =>
    intro i g hi K B hb
    have ns := K.n30 hs
    have e : i = numA (kA b) s := by omega
    subst e
    refine ⟨g, ?_, Ls.rf K⟩
    rw [e239_204, if_neg (show ¬(nI (numA (kA b) s) < nI (numA (kA b) s)) by rw [lt_nI (by omega) (by omega)]; omega)]
    rfl
  | succ d ih =>
    intro i g hi K B hb
    have ns := K.n30 hs
    have hi' : i < numA (kA b) s := by omega
    obtain ⟨k1, k2, -, k4⟩ := kyA_ok hi'
    have c1 := keyAt_ok K.q K.rk hs (nI i)
    rw [k4] at c1
    obtain ⟨z0, z', f', c2, m0, m1, F⟩ := needC_t K.rr K.mg K.rk hs ho hso k1 k2
    have e0 := MC_eq m0 hz
    subst e0
    have F' : ∀ a z, ¬(227 ≤ a ∧ a < 239) → f' a z = HI g a z := fun a z q => F a z (by omega)
    have K1 : LK N xs (wI g f') b y := K.wr F'
    have B1 := B.wr hb F'
    obtain ⟨g2, z2, c3, z230, m2, A2⟩ := size_is K1 hs ho B1 (skI := nI i) (sk := i) (w := kyA (kA b) s i) (fun j hj => by rw [eq_nI (by omega) (by omega)]) (fun l hl => ⟨fun e => kyA_inj hl hi' e, fun e => by rw [e]⟩)
    have e2 := MC_eq m2 m1
    subst e2
    have hb2 : ∀ i, i < numA (kA b) s → 241 ≤ HR g2 a0 i := fun i hi => by
      rw [(B1.nq A2).2 i hi]
      exact hb i hi
    obtain ⟨g', r1, r2⟩ := ih (i + 1) g2 (by omega) (K1.nh A2) (B1.at A2) hb2
    have L1 : Ls N xs b y g (wI g f') 0 := ⟨K1, Rm.rf g⟩
    refine ⟨g', Eq.trans ?_ r1, ((L1.tr (Ls.nq K1 A2)).tr r2).up (by omega)⟩
    have ii : (nI i + (1 : Int32)) = nI (i + 1) := add_nI i 1
    rw [e239_204, if_pos (show nI i < nI (numA (kA b) s) by rw [lt_nI (by omega) (by omega)]; exact hi'), if_neg (show ¬((1 : Int32) = 0) by decide), K.k8, c1]
    simp only [cond_true, bI_ok, K.k8, c2, c3]
    by_cases q : z2 < z0
    · rw [if_pos (show nI z2 < nI z0 by rw [lt_nI (by omega) (by omega)]; exact q), e239_247, decide_eq_true q, if_pos (show nI (b2n true) = (1 : Int32) from rfl), ii]
    · rw [if_neg (show ¬(nI z2 < nI z0) by rw [lt_nI (by omega) (by omega)]; exact q), e239_247, decide_eq_false q, if_pos (show nI (b2n false) = (0 : Int32) from rfl), ii]
theorem p100 {n : Nat} (hn : n ≤ 30) : decide (0 ≤ nI n) = true ∧ decide (nI n ≤ (100 : Int32)) = true := by
  refine ⟨decide_eq_true (nI_pos' (by omega)), decide_eq_true ?_⟩
  rw [show (nI n ≤ (100 : Int32)) = (n ≤ 100) from le_nI (by omega) (by decide)]
  omega
theorem cT_0 (T : TF) (n : Nat) : cT T n 0 0 = 0 := rfl
theorem size_all {a0 : Nat} (K1 : LK N xs h b y) (hs : s < 3) (ho : o < 3) (B1 : TbZ h a0 (numA (kA b) s) (numA (kA b) o) (pT (kA b) s o)) : ∃ g z, CL 238 [.ref a0, .int (nI (numA (kA b) o)), .int (-nI 1)] h = some (.ok (.int (nI z)), g) ∧ z ≤ 30 ∧ MCk (ek (kA b) s o 1000) 1000 z ∧ Nq (fun _ => False) h g 31 := by
  have ns := K1.n30 hs
  refine size_is K1 hs ho B1 (sk := numA (kA b) s) (w := 1000) (fun i hi => ⟨fun e => ?_, fun e => ?_⟩) (fun l hl => ⟨fun e => ?_, fun e => ?_⟩)
  · rw [nI_m1 (by omega)] at e
    exact e.elim
  · omega
  · have := (kyA_ok hl).1
    omega
  · omega
theorem mt_tail {a0 : Nat} (K1 : LK N xs h b y) (hs : s < 3) (ho : o < 3) (hso : s ≠ o) (B1 : TbZ h a0 (numA (kA b) s) (numA (kA b) o) (pT (kA b) s o)) (hb1 : ∀ i, i < numA (kA b) s → 241 ≤ HR h a0 i) (v9 : Value) {p : Nat} (hp : pcA (kA b) s o = p) : ∃ g, RF 239 31 [.ref 31, .int (nI (97 + s)), .int (nI (97 + o)), .int (nI (numA (kA b) s)), .int (nI (numA (kA b) o)), .ref a0, .int (nI p), .int (1 : Int32), .int (nI (numA (kA b) s)), v9] [] h = some (.ok (.int (1 : Int32)), g) ∧ Ls N xs b y h g 962 := by
  have ns := K1.n30 hs
  have no := K1.n30 ho
  obtain ⟨g2, z, c2, z30, mz, A2⟩ := size_all K1 hs ho B1
  have K2 := K1.nh A2
  have B2 := B1.at A2
  have hb2 : ∀ i, i < numA (kA b) s → 241 ≤ HR g2 a0 i := fun i hi => by
    rw [(B1.nq A2).2 i hi]
    exact hb1 i hi
  obtain ⟨f3, c3, F3⟩ := pairsC_t K2.rr K2.mg K2.rk hs ho hso
  rw [hp] at c3
  have F3' : ∀ a z, ¬(227 ≤ a ∧ a < 239) → f3 a z = HI g2 a z := fun a z q => F3 a z (by omega)
  have K3 : LK N xs (wI g2 f3) b y := K2.wr F3'
  have B3 := B2.wr hb2 F3'
  obtain ⟨z4, f4, c4, m4, -, F4⟩ := matchingC_t K3.rr K3.mg K3.rk hs ho hso
  have F4' : ∀ a z, ¬(227 ≤ a ∧ a < 239) → f4 a z = HI (wI g2 f3) a z := fun a z q => F4 a z (by omega)
  have K4 : LK N xs (wI (wI g2 f3) f4) b y := K3.wr F4'
  have B4 := B3.wr hb2 F4'
  obtain ⟨z5, f5, c5, m5, -, F5⟩ := layersC_t K4.rr K4.mg K4.rk hs ho hso
  have F5' : ∀ a z, ¬(227 ≤ a ∧ a < 239) → f5 a z = HI (wI (wI g2 f3) f4) a z := fun a z q => F5 a z (by omega)
  have K5 : LK N xs (wI (wI (wI g2 f3) f4) f5) b y := K4.wr F5'
  have B5 := B4.wr hb2 F5'
  have e4 : z4 = z := MC_eq m4 mz
  have e5 : z5 = z := MC_eq m5 mz
  obtain ⟨g6, d1, d2⟩ := mt_need (N := N) (xs := xs) (b := b) (y := y) (a0 := a0) hs ho hso mz z30 (nI p) (numA (kA b) s) 0 _ (Nat.zero_add _) K5 B5 hb2
  have L5 : Ls N xs b y g2 (wI (wI (wI g2 f3) f4) f5) 0 := ⟨K5, Rm.rf g2⟩
  refine ⟨g6, ?_, (((Ls.nq K1 A2).tr L5).tr d2).up (by omega)⟩
  have c2 : CL 238 [.ref a0, .int (nI (numA (kA b) o)), .int ((-1) : Int32)] h = some (.ok (.int (nI z)), g2) := c2
  rw [e4] at c4
  rw [e5] at c5
  rw [e239_31, if_neg (show ¬(nI (numA (kA b) s) < nI (numA (kA b) s)) by rw [lt_nI (by omega) (by omega)]; omega), c2]
  simp only [bI_ok]
  rw [if_neg (show ¬((1 : Int32) = 0) by decide), K2.k8, c3]
  simp only [cond_true, bI_ok, ↓reduceIte, K3.k8, c4, K4.k8, c5]
  rw [e239_199]
  exact d1
/-- areMatchingsRight -/
theorem matchings_ok (K : LK N xs h b y) (hs : s < 3) (ho : o < 3) (hso : s ≠ o) : ∃ g, CL 239 [.ref 31, .int (nI (97 + s)), .int (nI (97 + o))] h = some (.ok (.int (1 : Int32)), g) ∧ Ls N xs b y h g 1000 := by
  have ns := K.n30 hs
  have no := K.n30 ho
  have n241 := K.hn
  have A0 := nq_new3 K.wf ns no
  have G0 : FT h (pT (kA b) s o) (numA (kA b) s) (numA (kA b) o) 0 0 (HI (hnew3 h (numA (kA b) s) (numA (kA b) o))) := ⟨fun a z ha => A0.1.2.2.2.1 a ha z, fun i' j' _ _ h3 => by omega⟩
  obtain ⟨f, v9, r1, G⟩ := mt_fill K hs ho hso (numA (kA b) s) 0 (HI (hnew3 h (numA (kA b) s) (numA (kA b) o))) .null (Nat.zero_add _) G0
  obtain ⟨⟨t1, t2⟩, t3⟩ := h3_k h (n := numA (kA b) s) (m := numA (kA b) o)
  have K1 : LK N xs (wI (hnew3 h (numA (kA b) s) (numA (kA b) o)) f) b y := mt_lk K ns no G.1
  have L1 : Ls N xs b y h (wI (hnew3 h (numA (kA b) s) (numA (kA b) o)) f) 31 := ⟨K1, A0.1.rm⟩
  have B1 : TbZ (wI (hnew3 h (numA (kA b) s) (numA (kA b) o)) f) (HN h) (numA (kA b) s) (numA (kA b) o) (pT (kA b) s o) := by
    refine ⟨⟨⟨t1, t2⟩, fun i hi => ?_⟩, ?_, fun i hi => ?_⟩
    · obtain ⟨x1, x2, x3⟩ := t3 i hi
      rw [show HR (wI (hnew3 h (numA (kA b) s) (numA (kA b) o)) f) (HN h) i = HN h + 1 + i from x1]
      exact ⟨⟨x2, x3⟩, fun j hj => G.2 i j hi hj (Or.inl hi)⟩
    · show HN h < HN h + (1 + numA (kA b) s)
      omega
    · rw [show HR (wI (hnew3 h (numA (kA b) s) (numA (kA b) o)) f) (HN h) i = HN h + 1 + i from (t3 i hi).1]
      show HN h + 1 + i < HN h + (1 + numA (kA b) s)
      omega
  have hb1 : ∀ i, i < numA (kA b) s → 241 ≤ HR (wI (hnew3 h (numA (kA b) s) (numA (kA b) o)) f) (HN h) i := fun i hi => by
    rw [show HR (wI (hnew3 h (numA (kA b) s) (numA (kA b) o)) f) (HN h) i = HN h + 1 + i from (t3 i hi).1]
    omega
  obtain ⟨p, hp⟩ : ∃ p, pcA (kA b) s o = p := ⟨_, rfl⟩
  obtain ⟨g6, d1, d2⟩ := mt_tail K1 hs ho hso B1 hb1 v9 hp
  refine ⟨g6, ?_, (L1.tr d2).up (by decide)⟩
  have dec : (decide (0 ≤ nI (numA (kA b) s)) && decide (nI (numA (kA b) s) ≤ 100) && decide (0 ≤ nI (numA (kA b) o)) && decide (nI (numA (kA b) o) ≤ 100)) = true := by
    rw [(p100 ns).1, (p100 ns).2, (p100 no).1, (p100 no).2]
    rfl
  rw [cT_0, pc_rows, hp, wI_HI] at r1
  rw [e239, K.k8, recordsOf_ok K.q K.rk hs]
  simp only [cond_true, bI_ok, K.k8, recordsOf_ok K.q K.rk ho, dec]
  rw [cl_nI (by omega), cl_nI (by omega)]
  exact r1.trans d1
end LAW23
