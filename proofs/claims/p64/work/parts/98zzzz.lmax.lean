/-! THE LAW: its search finds the most; the size of a matching -/
theorem kyA_inj {A : AF} {s p q : Nat} (hp : p < numA A s) (hq : q < numA A s) (h : kyA A s p = kyA A s q) : p = q := by
  rcases Nat.lt_trichotomy p q with w | w | w
  · have := kyA_mono w hq
    omega
  · exact w
  · have := kyA_mono w hp
    omega
def pT (A : AF) (s o : Nat) : TF := fun i j => ppA A s (kyA A s i) o (kyA A o j)
noncomputable def mN (u : MF) (n : Nat) : Nat := sumN (fun l => b2n (cdec (∃ j, u j = some l))) n
theorem mN_le (u : MF) (n : Nat) : mN u n ≤ n := by
  have := sumN_bd (f := fun l => b2n (cdec (∃ j, u j = some l))) (n := n) (b := 1) (fun i _ => b2n_le _)
  unfold mN
  omega
theorem mN_add {u v : MF} {n i : Nat} (hi : i < n) (h0 : ¬∃ j, u j = some i) (h : ∀ l, (∃ j, v j = some l) ↔ (l = i ∨ ∃ j, u j = some l)) : mN v n = mN u n + 1 := by
  have e := sumN_bump (f := fun l => b2n (cdec (∃ j, v j = some l))) (g := fun l => b2n (cdec (∃ j, u j = some l))) hi (fun l _ q => by
    have : cdec (∃ j, v j = some l) = cdec (∃ j, u j = some l) := by
      cases z : cdec (∃ j, u j = some l) with
      | true => exact cdec_t.mpr ((h l).mpr (Or.inr (cdec_t.mp z)))
      | false => exact cdec_f.mpr (fun w => by
          rcases (h l).mp w with w | w
          · exact q w
          · exact cdec_f.mp z w)
    show b2n (cdec (∃ j, v j = some l)) = b2n (cdec (∃ j, u j = some l))
    rw [this])
  have e1 : b2n (cdec (∃ j, u j = some i)) = 0 := by rw [cdec_f.mpr h0]; rfl
  have e2 : b2n (cdec (∃ j, v j = some i)) = 1 := by rw [cdec_t.mpr ((h i).mpr (Or.inl rfl))]; rfl
  rw [e1, e2] at e
  exact e
theorem kuhn_max {A : AF} {s o w sk : Nat} {u : MF} {F G : Nat → Prop} (hE : KE (pT A s o) (numA A s) (numA A o) u) (hj : ∀ j j' l, u j = some l → u j' = some l → j = j') (hK : KC (pT A s o) (numA A o) u F G) (hF : ∀ l, l < numA A s → l ≠ sk → (∃ j, u j = some l) ∨ F l) (hsk : ∀ j l, u j = some l → l ≠ sk) (hw : ∀ l, l < numA A s → (kyA A s l = w ↔ l = sk)) : MCk (ek A s o w) 1000 (mN u (numA A s)) := by
  have hx : ∃ (E : EF) (m : MF), (∀ a c, E a c = true ↔ (a < numA A s ∧ numA A s ≤ c ∧ c < numA A s + numA A o ∧ a ≠ sk) ∧ ppA A s (kyA A s a) o (kyA A o (c - numA A s)) = true) ∧ (∀ a, a < numA A s → ∀ c, m a = some c ↔ ∃ j, u j = some a ∧ c = numA A s + j) ∧ ∀ a, numA A s ≤ a → m a = u (a - numA A s) := by
    refine ⟨fun a c => decide (a < numA A s ∧ numA A s ≤ c ∧ c < numA A s + numA A o ∧ a ≠ sk) && ppA A s (kyA A s a) o (kyA A o (c - numA A s)), fun a => if a < numA A s then @dite _ (∃ j, u j = some a) (Classical.propDecidable _) (fun h => some (numA A s + Classical.choose h)) (fun _ => none) else u (a - numA A s), fun a c => ?_, fun a ha c => ?_, fun a ha => if_neg (by omega)⟩
    · rw [Bool.and_eq_true, decide_eq_true_eq]
    · try dsimp only
      rw [if_pos ha]
      by_cases q : ∃ j, u j = some a
      · rw [dif_pos q]
        have cs := Classical.choose_spec q
        constructor
        · intro h
          exact ⟨_, cs, (Option.some.inj h).symm⟩
        · rintro ⟨j, j1, rfl⟩
          rw [hj _ _ _ cs j1]
      · rw [dif_neg q]
        constructor
        · intro h
          cases h
        · rintro ⟨j, j1, -⟩
          exact absurd ⟨j, j1⟩ q
  obtain ⟨E, m, e1, e2, e3⟩ := hx
  have L : LR E (numA A s + numA A o) := by
    refine ⟨fun i j h => ?_, fun i j k h => ?_⟩
    · obtain ⟨⟨h1, h2, h3, h4⟩, -⟩ := (e1 i j).mp h
      exact ⟨by omega, h3⟩
    · obtain ⟨⟨h1, h2, h3, h4⟩, -⟩ := (e1 i j).mp h
      cases q : E k i with
      | false => rfl
      | true =>
        obtain ⟨⟨g1, g2, -⟩, -⟩ := (e1 k i).mp q
        omega
  have ed : ∀ j l, u j = some l → E l (numA A s + j) = true := fun j l h => by
    obtain ⟨h1, h2, h3⟩ := hE j l h
    refine (e1 _ _).mpr ⟨⟨h2, by omega, by omega, hsk j l h⟩, ?_⟩
    rw [Nat.add_sub_cancel_left]
    exact h3
  have M : MT E m := by
    intro i j h
    by_cases q : i < numA A s
    · obtain ⟨c, c1, rfl⟩ := (e2 i q j).mp h
      refine ⟨?_, Or.inl (ed c i c1)⟩
      rw [e3 _ (by omega), Nat.add_sub_cancel_left]
      exact c1
    · rw [e3 i (by omega)] at h
      obtain ⟨h1, h2, h3⟩ := hE _ _ h
      refine ⟨(e2 j h2 i).mpr ⟨i - numA A s, h, by omega⟩, Or.inr ?_⟩
      have := ed _ _ h
      rwa [show numA A s + (i - numA A s) = i by omega] at this
  have mlm : ∀ i, i < numA A s → ml E m i = cdec (∃ j, u j = some i) := fun i hi => by
    cases q : cdec (∃ j, u j = some i) with
    | true =>
      obtain ⟨j, j1⟩ := cdec_t.mp q
      exact ml_of ((e2 i hi _).mpr ⟨j, j1, rfl⟩) (ed j i j1)
    | false =>
      cases z : ml E m i with
      | false => rfl
      | true =>
        obtain ⟨c, c1, -⟩ := ml_some z
        obtain ⟨j, j1, -⟩ := (e2 i hi c).mp c1
        exact absurd ⟨j, j1⟩ (cdec_f.mp q)
  have R := MC_rows (E := E) (EK := ek A s o w) (n := numA A s + numA A o) (N := 1000) (m := m) (F := fun a => numA A s ≤ a ∨ a = sk ∨ F a) (G := fun c => numA A s ≤ c ∧ G (c - numA A s)) L M ⟨fun i j h1 h2 => ?_, fun j h => ?_⟩ (fun i hi => ?_) (fun a => if a < numA A s then kyA A s a else kyA A o (a - numA A s)) (fun i hi => ?_) (fun i i' j j' h1 h2 h3 => ?_) (fun i i' j j' h1 h2 h3 => ?_) (fun i j h => ?_) (fun k k' h => ?_)
  · have e : sumN (fun i => b2n (ml E m i)) (numA A s + numA A o) = mN u (numA A s) := by
      rw [sumN_cat, sumN_0 (f := fun i => b2n (ml E m (numA A s + i))) (fun i hi => by
        cases z : ml E m (numA A s + i) with
        | false => rfl
        | true =>
          obtain ⟨c, -, c2⟩ := ml_some z
          have := ((e1 _ _).mp c2).1.1
          omega), Nat.add_zero]
      exact sumN_eq (fun i hi => by rw [mlm i hi])
    rw [e] at R
    exact R
  · obtain ⟨⟨g1, g2, g3, g4⟩, g5⟩ := (e1 i j).mp h2
    rcases h1 with z | z | z
    · omega
    · exact absurd z g4
    · exact ⟨g2, hK.1 i (j - numA A s) z (by omega) g5⟩
  · obtain ⟨h1, h2⟩ := h
    obtain ⟨l, l1, l2⟩ := hK.2 _ h2
    have := ed _ _ l1
    rw [show numA A s + (j - numA A s) = j by omega] at this
    exact ⟨l, (e3 j h1).trans l1, Or.inr (Or.inr l2), this⟩
  · by_cases q : i < numA A s
    · by_cases q2 : i = sk
      · exact Or.inr (Or.inr (Or.inl q2))
      · rcases hF i q q2 with z | z
        · left
          rw [mlm i q]
          exact cdec_t.mpr z
        · exact Or.inr (Or.inr (Or.inr z))
    · exact Or.inr (Or.inl (by omega))
  · try dsimp only
    split
    · rename_i q
      exact (kyA_ok q).1
    · exact (kyA_ok (by omega)).1
  · have a1 := ((e1 _ _).mp h1).1.1
    have a2 := ((e1 _ _).mp h2).1.1
    try dsimp only at h3
    rw [if_pos a1, if_pos a2] at h3
    exact kyA_inj a1 a2 h3
  · obtain ⟨-, a1, a2, -⟩ := ((e1 _ _).mp h1).1
    obtain ⟨-, b1, b2, -⟩ := ((e1 _ _).mp h2).1
    try dsimp only at h3
    rw [if_neg (by omega), if_neg (by omega)] at h3
    have := kyA_inj (show j - numA A s < numA A o by omega) (show j' - numA A s < numA A o by omega) h3
    omega
  · obtain ⟨⟨g1, g2, g3, g4⟩, g5⟩ := (e1 i j).mp h
    try dsimp only
    rw [if_pos g1, if_neg (by omega)]
    unfold ek
    rw [Bool.and_eq_true, Bool.and_eq_true, decide_eq_true_eq, decide_eq_true_eq]
    exact ⟨⟨⟨(kyA_ok g1).1, (kyA_ok (by omega)).1⟩, g5⟩, fun z => g4 ((hw i g1).mp z)⟩
  · unfold ek at h
    rw [Bool.and_eq_true, Bool.and_eq_true, decide_eq_true_eq, decide_eq_true_eq] at h
    obtain ⟨⟨⟨h1, h2⟩, h3⟩, h4⟩ := h
    have hp := of_decide_eq_true h3
    obtain ⟨a1, a2⟩ := kyA_on h1 hp.2.1
    obtain ⟨b1, b2⟩ := kyA_on h2 hp.2.2.1
    refine ⟨rkn A s k, numA A s + rkn A o k', (e1 _ _).mpr ⟨⟨a1, by omega, by omega, fun z => ?_⟩, ?_⟩, ?_, ?_⟩
    · exact h4 (by rw [← a2]; exact (hw _ a1).mpr z)
    · rw [Nat.add_sub_cancel_left, a2, b2]
      exact h3
    · try dsimp only
      rw [if_pos a1, a2]
    · try dsimp only
      rw [if_neg (by omega), Nat.add_sub_cancel_left, b2]
section SZ
variable {h0 : Hp} {a0 nL nR sk : Nat} {T : TF} {skI : Int32}
def SzI (h0 : Hp) (nL nR sk : Nat) (T : TF) (i : Nat) (g : Hp) (u : MF) : Prop := Nq (fun _ => False) h0 g (1 + i) ∧ (HK g (HN h0) = 100 ∧ HL g (HN h0) = nR ∧ HN h0 < HN g) ∧ (∀ j, j < nR → HI g (HN h0) j = oI (u j)) ∧ KE T nL nR u ∧ (∀ j j' l, u j = some l → u j' = some l → j = j') ∧ (∀ j l, u j = some l → l < i ∧ l ≠ sk) ∧ ∃ F G, KC T nR u F G ∧ ∀ l, l < i → l ≠ sk → (∃ j, u j = some l) ∨ F l
/-- the table lies below -/
def TbZ (h0 : Hp) (a0 nL nR : Nat) (T : TF) : Prop := TbQ h0 (HI h0) a0 nL nR T ∧ a0 < HN h0 ∧ ∀ i, i < nL → HR h0 a0 i < HN h0
theorem TbZ.nq {Z : Nat → Prop} {g : Hp} {n : Nat} (B : TbZ h0 a0 nL nR T) (A : Nq Z h0 g n) : TbQ g (HI g) a0 nL nR T ∧ ∀ i, i < nL → HR g a0 i = HR h0 a0 i := by
  obtain ⟨⟨⟨b1, b2⟩, b3⟩, b4, b5⟩ := B
  have r : ∀ i, HR g a0 i = HR h0 a0 i := fun i => A.1.2.2.1 a0 b4 i
  refine ⟨⟨⟨(congrArg Prod.fst (A.1.2.1 a0 b4)).trans b1, (congrArg Prod.snd (A.1.2.1 a0 b4)).trans b2⟩, fun i hi => ?_⟩, fun i _ => r i⟩
  obtain ⟨⟨c1, c2⟩, c3⟩ := b3 i hi
  rw [r]
  exact ⟨⟨(congrArg Prod.fst (A.1.2.1 _ (b5 i hi))).trans c1, (congrArg Prod.snd (A.1.2.1 _ (b5 i hi))).trans c2⟩, fun j hj => (A.1.2.2.2.1 _ (b5 i hi) j).trans (c3 j hj)⟩
theorem size_loop (B : TbZ h0 a0 nL nR T) (nl : nL ≤ 30) (nr : nR ≤ 30) (hsk : ∀ i, i < nL → ((nI i = skI) ↔ i = sk)) : ∀ (d i : Nat) (g : Hp) (u : MF), i + d = nL → SzI h0 nL nR sk T i g u → ∃ g' u', RF 238 30 [.ref a0, .int (nI nR), .int skI, .ref (HN h0), .int (nI (mN u nL)), .int (nI i)] [] g = some (.ok (.int (nI (mN u' nL))), g') ∧ SzI h0 nL nR sk T nL g' u' := by
  intro d
  induction d with
  | zero =>
    intro i g u hi S
    have e : i = nL := by omega
    subst e
    obtain ⟨⟨⟨b1, b2⟩, -⟩, -⟩ := B.nq S.1
    refine ⟨g, u, ?_, S⟩
    rw [e238_30, b1, b2]
    simp only [show Nat.ble 100 108 = true from rfl, cond_true]
    rw [if_neg (show ¬(nI i < Int32.ofNat i) by show ¬(nI i < nI i); rw [lt_nI (by omega) (by omega)]; omega)]
  | succ d ih =>
    intro i g u hi S
    have hi' : i < nL := by omega
    have S0 := S
    obtain ⟨A, ⟨k1, k2, k3⟩, v, hE, hj, hm, F, G, hK, hF⟩ := S0
    obtain ⟨⟨⟨b1, b2⟩, b3⟩, br⟩ := B.nq A
    have ii : (nI i + (1 : Int32)) = nI (i + 1) := add_nI i 1
    have lt : nI i < Int32.ofNat nL := by
      show nI i < nI nL
      rw [lt_nI (by omega) (by omega)]
      exact hi'
    by_cases q : i = sk
    · have S1 : SzI h0 nL nR sk T (i + 1) g u := ⟨A.up (by omega), ⟨k1, k2, k3⟩, v, hE, hj, fun j l h => ⟨by have := (hm j l h).1; omega, (hm j l h).2⟩, F, G, hK, fun l h1 h2 => hF l (by omega) h2⟩
      obtain ⟨g', u', r1, r2⟩ := ih (i + 1) g u (by omega) S1
      refine ⟨g', u', Eq.trans ?_ r1, r2⟩
      rw [e238_30, b1, b2]
      simp only [show Nat.ble 100 108 = true from rfl, cond_true]
      rw [if_pos lt, if_pos ((hsk i hi').mpr q), e238_63, tl0]
      simp only [bI_ok]
      rw [ii, show ∀ z : Nat, (nI z + (0 : Int32)) = nI (z + 0) from fun z => add_nI z 0]
      rfl
    · have A2 : Nq (fun _ => False) h0 (hnew g 103 nR) (1 + (i + 1)) := (A.tr (nq_new A.2 103 nR (u := 1) (by omega) (by decide))).up (by omega)
      obtain ⟨B2, br2⟩ := B.nq A2
      have en : (hnew g 103 nR).2.1 (HN g) = (103, nR) := hnew_e g 103 nR
      have eo : (hnew g 103 nR).2.1 (HN h0) = g.2.1 (HN h0) := hnew_k g 103 nR (HN h0) (by omega)
      have M2 : MsQ (hnew g 103 nR) (HI (hnew g 103 nR)) (HN h0) (HN g) nR u (fun _ => false) := by
        refine ⟨⟨(congrArg Prod.fst eo).trans k1, (congrArg Prod.snd eo).trans k2⟩, ⟨congrArg Prod.fst en, congrArg Prod.snd en⟩, fun j hj' => ⟨?_, ?_⟩⟩
        · show u1 (HI g) (HN g) 0 (HN h0) j = _
          unfold u1
          rw [if_neg (by omega)]
          exact v j hj'
        · show u1 (HI g) (HN g) 0 (HN g) j = _
          exact if_pos rfl
      have D2 : HN h0 ≠ HN g ∧ ∀ i, i < nL → HR (hnew g 103 nR) a0 i ≠ HN h0 ∧ HR (hnew g 103 nR) a0 i ≠ HN g := by
        refine ⟨by omega, fun i hi => ?_⟩
        have := B.2.2 i hi
        rw [br2 i hi]
        exact ⟨by omega, by omega⟩
      have hU : Uns (fun _ => false) nR ≤ 32 := by
        have := sumN_bd (f := fun j => b2n (!(fun _ => false) j)) (n := nR) (b := 1) (fun i _ => b2n_le _)
        unfold Uns
        omega
      have nkl : ¬KL u (fun _ => false) i := fun z => by
        obtain ⟨j, -, z⟩ := z
        have := (hm j i z).1
        omega
      have R := gsq_237 (hnew g 103 nR) (HI (hnew g 103 nR)) a0 (HN h0) (HN g) nL nR T u (fun _ => false) i (by omega) (by omega) B2 M2 D2 hE hj nkl hi' hU
      have A3 : ∀ f', Fw (HN h0) (HN g) (HI (hnew g 103 nR)) f' → Nq (fun _ => False) h0 (wI (hnew g 103 nR) f') (1 + (i + 1)) := fun f' F' => by
        obtain ⟨⟨x1, x2, x3, x4, x5, x6⟩, I⟩ := A2
        exact ⟨⟨x1, x2, x3, fun a ha z => (F' a z (by omega) (by have := A.hn; omega)).trans (x4 a ha z), x5, x6⟩, I⟩
      have start : ∀ (x : Int32) (f' : Nat → Nat → Int32) (w : Res), CL 237 [.ref a0, .int (nI i), .ref (HN h0), .ref (HN g)] (wI (hnew g 103 nR) (HI (hnew g 103 nR))) = some (.ok (.int x), wI (hnew g 103 nR) f') → (if x = 0 then RF 238 63 [.ref a0, .int (nI nR), .int skI, .ref (HN h0), .int (nI (mN u nL)), .int (nI i)] [.int (0 : Int32), .int (nI (mN u nL))] (wI (hnew g 103 nR) f') else RF 238 63 [.ref a0, .int (nI nR), .int skI, .ref (HN h0), .int (nI (mN u nL)), .int (nI i)] [.int (1 : Int32), .int (nI (mN u nL))] (wI (hnew g 103 nR) f')) = w → RF 238 30 [.ref a0, .int (nI nR), .int skI, .ref (HN h0), .int (nI (mN u nL)), .int (nI i)] [] g = w := fun x f' w e1 e2 => by
        have e1 : CL 237 [.ref a0, .int (nI i), .ref (HN h0), .ref (HN g)] (hnew g 103 nR) = some (.ok (.int x), wI (hnew g 103 nR) f') := e1
        rw [e238_30, b1, b2]
        simp only [show Nat.ble 100 108 = true from rfl, cond_true]
        rw [if_pos lt, if_neg (fun z => q ((hsk i hi').mp z)), big3 (n := nR) (by omega), cl_nI (by omega)]
        simp only [cond_true, e1, bI_ok]
        exact e2
      rcases R with ⟨f', u', S', e, F', ⟨m1, m2, m3⟩, V1, V2, V3, V4, V5⟩ | ⟨f', S', e, F', ⟨m1, m2, m3⟩, V1, V2, V3⟩
      · have lf : ∀ l, (∃ j, u' j = some l) ↔ (l = i ∨ ∃ j, u j = some l) := fun l => by
          have := V4 l
          constructor
          · rintro ⟨j, z⟩
            rcases this.mp ⟨j, rfl, z⟩ with w | ⟨j0, -, w⟩
            · exact Or.inl w
            · exact Or.inr ⟨j0, w⟩
          · intro z
            have z : l = i ∨ KL u (fun _ => false) l := by
              rcases z with z | ⟨j0, w⟩
              · exact Or.inl z
              · exact Or.inr ⟨j0, rfl, w⟩
            obtain ⟨j, -, w⟩ := this.mpr z
            exact ⟨j, w⟩
        have S1 : SzI h0 nL nR sk T (i + 1) (wI (hnew g 103 nR) f') u' := by
          refine ⟨A3 f' F', ⟨m1.1, m1.2, by show HN h0 < HN g + 1; omega⟩, fun j hj' => (m3 j hj').1, V1, fun j j' l a c => V3 j j' l rfl rfl a c, fun j l z => ?_, F, G, ⟨hK.1, fun j z => ?_⟩, fun l h1 h2 => ?_⟩
          · rcases (lf l).mp ⟨j, z⟩ with w | ⟨j0, w⟩
            · exact ⟨by omega, by omega⟩
            · exact ⟨by have := (hm j0 l w).1; omega, (hm j0 l w).2⟩
          · obtain ⟨l, l1, l2⟩ := hK.2 j z
            exact ⟨l, ((V5 F G hK).2 j z).trans l1, l2⟩
          · by_cases w : l = i
            · exact Or.inl ((lf l).mpr (Or.inl w))
            · rcases hF l (by omega) h2 with z | z
              · exact Or.inl ((lf l).mpr (Or.inr z))
              · exact Or.inr z
        have cnt := mN_add hi' (fun z => by
          obtain ⟨j, z⟩ := z
          have := (hm j i z).1
          omega) lf
        obtain ⟨g', u2, r1, r2⟩ := ih (i + 1) _ u' (by omega) S1
        refine ⟨g', u2, Eq.trans (start _ f' _ e rfl) ?_, r2⟩
        rw [if_neg (show ¬((1 : Int32) = 0) by decide), e238_63, tl1]
        simp only [bI_ok]
        rw [ii, show ∀ z : Nat, (nI z + (1 : Int32)) = nI (z + 1) from fun z => add_nI z 1, ← cnt]
        exact r1
      · have S1 : SzI h0 nL nR sk T (i + 1) (wI (hnew g 103 nR) f') u := by
          refine ⟨A3 f' F', ⟨m1.1, m1.2, by show HN h0 < HN g + 1; omega⟩, fun j hj' => (m3 j hj').1, hE, hj, fun j l z => ⟨by have := (hm j l z).1; omega, (hm j l z).2⟩, fun l => F l ∨ l = i ∨ ∃ j, S' j = true ∧ u j = some l, fun j => G j ∨ S' j = true, ⟨fun l j h1 h2 h3 => ?_, fun j z => ?_⟩, fun l h1 h2 => ?_⟩
          · rcases h1 with z | z | ⟨j0, z1, z2⟩
            · exact Or.inl (hK.1 l j z h2 h3)
            · subst z
              exact Or.inr (V2 j h2 h3)
            · obtain ⟨-, l', y2, y3⟩ := V3 j0 z1 rfl
              rw [z2] at y2
              cases y2
              exact Or.inr (y3 j h2 h3)
          · rcases z with z | z
            · obtain ⟨l, l1, l2⟩ := hK.2 j z
              exact ⟨l, l1, Or.inl l2⟩
            · obtain ⟨-, l, y2, -⟩ := V3 j z rfl
              exact ⟨l, y2, Or.inr (Or.inr ⟨j, z, y2⟩)⟩
          · by_cases w : l = i
            · exact Or.inr (Or.inr (Or.inl w))
            · rcases hF l (by omega) h2 with z | z
              · exact Or.inl z
              · exact Or.inr (Or.inl z)
        obtain ⟨g', u2, r1, r2⟩ := ih (i + 1) _ u (by omega) S1
        refine ⟨g', u2, Eq.trans (start _ f' _ e rfl) ?_, r2⟩
        rw [if_pos rfl, e238_63, tl0]
        simp only [bI_ok]
        rw [ii, show ∀ z : Nat, (nI z + (0 : Int32)) = nI (z + 0) from fun z => add_nI z 0]
        exact r1
/-- size -/
theorem size_ok (I : WF h0) (B : TbZ h0 a0 nL nR T) (nl : nL ≤ 30) (nr : nR ≤ 30) (hsk : ∀ i, i < nL → ((nI i = skI) ↔ i = sk)) : ∃ g u, CL 238 [.ref a0, .int (nI nR), .int skI] h0 = some (.ok (.int (nI (mN u nL))), g) ∧ SzI h0 nL nR sk T nL g u := by
  have A1 : Nq (fun _ => False) h0 (hnew h0 100 nR) 1 := nq_new I 100 nR (u := 1) (by omega) (by decide)
  have e8 : (hnew h0 100 nR).2.1 (HN h0) = (100, nR) := hnew_e h0 100 nR
  have fill : ∀ (d j : Nat) (f : Nat → Nat → Int32), j + d = nR → (∀ a z, a ≠ HN h0 → f a z = HI (hnew h0 100 nR) a z) → (∀ k, k < j → f (HN h0) k = ((-1) : Int32)) → ∃ f', RF 238 10 [.ref a0, .int (nI nR), .int skI, .ref (HN h0), .int (0 : Int32), .int (nI j)] [] (wI (hnew h0 100 nR) f) = RF 238 30 [.ref a0, .int (nI nR), .int skI, .ref (HN h0), .int (0 : Int32), .int (0 : Int32)] [] (wI (hnew h0 100 nR) f') ∧ (∀ a z, a ≠ HN h0 → f' a z = HI (hnew h0 100 nR) a z) ∧ ∀ k, k < nR → f' (HN h0) k = ((-1) : Int32) := by
    intro d
    induction d with
    | zero =>
      intro j f hj h1 h2
      have e : j = nR := by omega
      subst e
      refine ⟨f, ?_, h1, h2⟩
      rw [e238_10, if_neg (show ¬(nI j < nI j) by rw [lt_nI (by omega) (by omega)]; omega)]
    | succ d ih =>
      intro j f hj h1 h2
      have ch : chI (wI (hnew h0 100 nR) f) (HN h0) 100 (nI j) = true := chI_nI (h := wI (hnew h0 100 nR) f) (congrArg Prod.fst e8) (congrArg Prod.snd e8) (show j < nR by omega) (by omega)
      obtain ⟨f', r1, r2, r3⟩ := ih (j + 1) (u2 f (HN h0) j ((-1) : Int32)) (by omega) (fun a z q => (w2_ne (fun w => q w.1)).trans (h1 a z q)) (fun k hk => by
        by_cases e : k = j
        · subst e
          exact w2_eq _ _ _ _
        · rw [w2_ne (fun w => e w.2)]
          exact h2 k (by omega))
      refine ⟨f', Eq.trans ?_ r1, r2, r3⟩
      rw [e238_10, if_pos (show nI j < nI nR by rw [lt_nI (by omega) (by omega)]; omega), ch, cl_nI (by omega), show (nI j + (1 : Int32)) = nI (j + 1) from add_nI j 1]
      rfl
  obtain ⟨f, r1, r2, r3⟩ := fill nR 0 (HI (hnew h0 100 nR)) (Nat.zero_add _) (fun _ _ _ => rfl) (fun k hk => absurd hk (Nat.not_lt_zero k))
  have A2 : Nq (fun _ => False) h0 (wI (hnew h0 100 nR) f) 1 := by
    obtain ⟨⟨x1, x2, x3, x4, x5, x6⟩, I⟩ := A1
    exact ⟨⟨x1, x2, x3, fun a ha z => (r2 a z (by omega)).trans (x4 a ha z), x5, x6⟩, I⟩
  have S0 : SzI h0 nL nR sk T 0 (wI (hnew h0 100 nR) f) (fun _ => none) := ⟨A2.up (by omega), ⟨congrArg Prod.fst e8, congrArg Prod.snd e8, Nat.lt_succ_self _⟩, fun j hj => r3 j hj, (fun j l h => by cases h), (fun j j' l h => by cases h), (fun j l h => by cases h), fun _ => False, fun _ => False, ⟨fun _ _ z => z.elim, fun _ z => z.elim⟩, fun l h => absurd h (Nat.not_lt_zero l)⟩
  obtain ⟨g, u, s1, s2⟩ := size_loop B nl nr hsk nL 0 _ _ (Nat.zero_add _) S0
  have m0 : mN (fun _ => none) nL = 0 := sumN_0 (fun l _ => by rw [cdec_f.mpr (fun z => by obtain ⟨j, z⟩ := z; cases z)]; rfl)
  rw [m0] at s1
  refine ⟨g, u, ?_, s2⟩
  have r1 : RF 238 10 [.ref a0, .int (nI nR), .int skI, .ref (HN h0), .int (0 : Int32), .int (0 : Int32)] [] (hnew h0 100 nR) = _ := r1
  rw [e238, big3 (n := nR) (by omega), cl_nI (by omega)]
  simp only [cond_true]
  exact r1.trans s1
end SZ
