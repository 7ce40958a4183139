/-! THE LAW: its groups against the class's -/
section LAW22
variable {N : Nat} {xs : Nat → Int32} {h g : Hp} {b : Bk} {y : Nat} {l : Nat → Nat}
def HG (A : AF) (h : Hp) (l : Nat → Nat) (g : Hp) : Prop := (HK g (HN h) = 101 ∧ HL g (HN h) = tot A) ∧ (HK g (HN h + 1) = 100 ∧ HL g (HN h + 1) = tot A) ∧ (HK g (HN h + 2) = 100 ∧ HL g (HN h + 2) = tot A) ∧ ∀ j, j < tot A → HI g (HN h) j = nI (97 + srI A j) ∧ HI g (HN h + 1) j = nI (kyI A j) ∧ HI g (HN h + 2) j = nI (l j)
theorem gr_cnt {A : AF} (G : HG A h l g) (t30 : tot A ≤ 30) (hl : ∀ i, i < tot A → l i < tot A) {i : Nat} (hi : i < tot A) (a5 a6 a7 : Int32) : ∀ (d k : Nat), k + d = tot A → RF 195 233 [.ref 31, .int (nI (tot A)), .ref (HN h), .ref (HN h + 1), .ref (HN h + 2), .int a5, .int a6, .int a7, .int (nI i), .int (nI (sumN (fun j => b2n (decide (l j = l i))) k)), .int (nI k)] [] g = RF 195 288 [.ref 31, .int (nI (tot A)), .ref (HN h), .ref (HN h + 1), .ref (HN h + 2), .int a5, .int a6, .int a7, .int (nI i), .int (nI (sumN (fun j => b2n (decide (l j = l i))) (tot A))), .int (nI (tot A))] [.int (nI (b2n (decide (l i = i)))), .int a6] g := by
  obtain ⟨-, -, ⟨k4, l4⟩, G2⟩ := G
  have li := hl i hi
  have ci : chI g (HN h + 2) 100 (nI i) = true := chI_nI k4 l4 hi (by omega)
  have vi := (G2 i hi).2.2
  have cli : (nI i).toNatClampNeg = i := cl_nI (by omega)
  intro d
  induction d with
  | zero =>
    intro k hk
    have e : k = tot A := by omega
    subst e
    rw [e195_233, if_neg (show ¬(nI (tot A) < nI (tot A)) by rw [lt_nI (by omega) (by omega)]; omega), ci, cli, vi]
    simp only [cond_true]
    by_cases q : l i = i
    · rw [if_pos (by rw [q]), decide_eq_true q]
      rfl
    · rw [if_neg (by rw [eq_nI (by omega) (by omega)]; exact q), decide_eq_false q]
      rfl
  | succ d ih =>
    intro k hk
    have hk' : k < tot A := by omega
    have lk := hl k hk'
    have ck : chI g (HN h + 2) 100 (nI k) = true := chI_nI k4 l4 hk' (by omega)
    have vk := (G2 k hk').2.2
    have clk : (nI k).toNatClampNeg = k := cl_nI (by omega)
    refine Eq.trans ?_ (ih (k + 1) (by omega))
    rw [e195_233, if_pos (show nI k < nI (tot A) by rw [lt_nI (by omega) (by omega)]; exact hk'), ck, ci, cli, clk, vi, vk]
    simp only [cond_true]
    have es : sumN (fun j => b2n (decide (l j = l i))) (k + 1) = sumN (fun j => b2n (decide (l j = l i))) k + b2n (decide (l k = l i)) := rfl
    by_cases q : l k = l i
    · rw [if_pos (by rw [q]), e195_259, tl1]
      simp only [bI_ok]
      rw [es, decide_eq_true q, show (nI k + (1 : Int32)) = nI (k + 1) from add_nI k 1, show ∀ z : Nat, (nI z + (1 : Int32)) = nI (z + 1) from fun z => add_nI z 1]
      rfl
    · rw [if_neg (by rw [eq_nI (by omega) (by omega)]; exact q), e195_259, tl0]
      simp only [bI_ok]
      rw [es, decide_eq_false q, show (nI k + (1 : Int32)) = nI (k + 1) from add_nI k 1, show ∀ z : Nat, (nI z + (0 : Int32)) = nI (z + 0) from fun z => add_nI z 0]
      rfl
theorem HG.fg {A : AF} (G : HG A h l g) {f : Nat → Nat → Int32} (F : Fg (HI g) f) (hn : 241 ≤ HN h) : HG A h l (wI g f) := by
  obtain ⟨a, c, d, e⟩ := G
  exact ⟨a, c, d, fun j hj => ⟨(F (HN h) j (by omega)).trans (e j hj).1, (F (HN h + 1) j (by omega)).trans (e j hj).2.1, (F (HN h + 2) j (by omega)).trans (e j hj).2.2⟩⟩
theorem gr_cls (h241 : 241 ≤ HN h) (Q : LbQ (gE (kA b)) (tot (kA b)) (tot (kA b)) l) (hy : y < 1000000000) : ∀ (d i : Nat) (g : Hp) (v9 v10 : Value), i + d = tot (kA b) → LK N xs g b y → HG (kA b) h l g → ∃ g', RF 195 221 [.ref 31, .int (nI (tot (kA b))), .ref (HN h), .ref (HN h + 1), .ref (HN h + 2), .int (nI (tot (kA b))), .int (nI (sumN (fun j => b2n (decide (l j = j))) i)), .int (1 : Int32), .int (nI i), v9, v10] [] g = some (.ok (.int (1 : Int32)), g') ∧ LK N xs g' b y ∧ Rm g g' 0 0 := by
  intro d
  induction d with
  | zero =>
    intro i g v9 v10 hi K G
    have e : i = tot (kA b) := by omega
    subst e
    have t30 := K.t30
    obtain ⟨⟨z1, f1, c1, n1, -, F1⟩, -⟩ := groupsC_ok K.rr K.gr K.rk
    have e1 := NK_eq n1 (gE_num Q)
    subst e1
    have K1 : LK N xs (wI g f1) b y := K.wr (fun a z q => F1 a z (by omega))
    obtain ⟨-, z2, f2, c2, n2, -, F2⟩ := groupsC_ok K1.rr K1.gr K1.rk
    have e2 := NK_eq n2 (gE_num Q)
    subst e2
    have K2 : LK N xs (wI (wI g f1) f2) b y := K1.wr (fun a z q => F2 a z (by omega))
    obtain ⟨f3, c3, F3⟩ := consistent_ok K2.rr K2.mg K2.gr K2.rk K2.bd hy K2.cn
    have K3 : LK N xs (wI (wI (wI g f1) f2) f3) b y := K2.wr (fun a z q => F3 a z q)
    refine ⟨_, ?_, K3, Rm.rf g⟩
    rw [e195_221, if_neg (show ¬(nI (tot (kA b)) < nI (tot (kA b))) by rw [lt_nI (by omega) (by omega)]; omega), if_neg (show ¬((1 : Int32) = 0) by decide), K.k8, c1]
    simp only [cond_true, bI_ok, ↓reduceIte, K1.k8, c2, K2.k8, c3]
    rw [if_neg (show ¬(nI 1 = 0) by decide)]
    rfl
  | succ d ih =>
    intro i g v9 v10 hi K G
    have t30 := K.t30
    have hi' : i < tot (kA b) := by omega
    have G' := G
    obtain ⟨⟨k2, l2⟩, ⟨k3, l3⟩, -, G2⟩ := G'
    obtain ⟨s1, s2, s3⟩ := ix_ok hi'
    obtain ⟨f1, c1, F1⟩ := groupSizeC_t K.rr K.gr K.rk s1 s2 s3
    have K1 : LK N xs (wI g f1) b y := K.wr (fun a z q => F1 a z (by omega))
    have G1 : HG (kA b) h l (wI g f1) := HG.fg G F1 h241
    obtain ⟨g', i1, i2, i3⟩ := ih (i + 1) (wI g f1) (.int (nI (sumN (fun j => b2n (decide (l j = l i))) (tot (kA b))))) (.int (nI (tot (kA b)))) (by omega) K1 G1
    refine ⟨g', Eq.trans ?_ i1, i2, i3⟩
    have cnt := gr_cnt G t30 (fun j hj => (Q.1 j hj).1) hi' (nI (tot (kA b))) (nI (sumN (fun j => b2n (decide (l j = j))) i)) (1 : Int32) (tot (kA b)) 0 (Nat.zero_add _)
    have ch2 : chI g (HN h) 101 (nI i) = true := chI_nI k2 l2 hi' (by omega)
    have ch3 : chI g (HN h + 1) 100 (nI i) = true := chI_nI k3 l3 hi' (by omega)
    have cli : (nI i).toNatClampNeg = i := cl_nI (by omega)
    have sz := gE_size Q hi'
    rw [e195_221, if_pos (show nI i < nI (tot (kA b)) by rw [lt_nI (by omega) (by omega)]; exact hi')]
    refine Eq.trans cnt ?_
    rw [e195_288, told_ok]
    simp only [bI_ok]
    rw [if_neg (show ¬((1 : Int32) = 0) by decide), ch2, ch3, K.k8, cli, (G2 i hi').1, (G2 i hi').2.1, c1]
    simp only [cond_true, bI_ok]
    rw [if_pos (by rw [sz]), show (nI i + (1 : Int32)) = nI (i + 1) from add_nI i 1, add_nI]
    rfl
/-- areGroupsRight -/
theorem groups_ok (K : LK N xs h b y) (hy : y < 1000000000) : ∃ g, CL 195 [.ref 31] h = some (.ok (.int (1 : Int32)), g) ∧ Ls N xs b y h g 3 := by
  have t30 := K.t30
  have n241 := K.hn
  have A5 := g5_q K.wf (n := tot (kA b)) (by omega)
  have G0 : GF (kA b) h (cnN (kA b) 0) (HI (g5 h (tot (kA b)))) := ⟨fun a z ha => A5.1.2.2.2.1 a ha z, fun j hj => absurd hj (Nat.not_lt_zero j)⟩
  obtain ⟨f1, v7, r1, G1⟩ := gr_fill K 3 0 .null (HI (g5 h (tot (kA b)))) rfl G0
  obtain ⟨f2, l, v9, r2, G2, Q⟩ := gr_rounds K (tot (kA b)) 0 f1 (fun i => i) v7 .null .null (Nat.zero_add _) G1 (LbQ_0 _ _)
  have K2 := gr_lk K (n := tot (kA b)) (by omega) G2.1
  obtain ⟨q1, q2, q3⟩ := g5_k h (tot (kA b))
  have HG2 : HG (kA b) h l (wI (g5 h (tot (kA b))) f2) := ⟨q1, q2, q3, G2.2⟩
  obtain ⟨g, e1, e2, e3⟩ := gr_cls n241 Q hy (tot (kA b)) 0 _ v9 .null (Nat.zero_add _) K2 HG2
  have R2 : Rm h (wI (g5 h (tot (kA b))) f2) 3 (100 * 3) := A5.1.rm
  refine ⟨g, ?_, e2, (R2.tr e3).up (by decide) (by decide)⟩
  have b3 := big3 (n := tot (kA b)) (by omega)
  have cl : (nI (tot (kA b))).toNatClampNeg = tot (kA b) := cl_nI (by omega)
  have r1 : RF 195 25 [.ref 31, .int (nI (tot (kA b))), .ref (HN h), .ref (HN h + 1), .ref (HN h + 2), .int (0 : Int32), .int (97 : Int32), .null, .null, .null, .null] [] (g5 h (tot (kA b))) = _ := r1
  rw [e195, K.k8, recordCount_ok K.q K.rk]
  simp only [cond_true, bI_ok, b3, cl]
  exact r1.trans (r2.trans e1)
end LAW22
