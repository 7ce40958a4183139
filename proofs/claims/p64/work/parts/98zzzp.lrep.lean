/-! THE LAW: the reports, one by one -/
def ocN (b : Bk) (c i : Nat) : Nat := sumN (fun j => b2n (decide (oc (kA b) (kQ b) j = c))) i
theorem oc_in (A : AF) (Q : QF) (i : Nat) : oc A Q i = 99 ∨ oc A Q i = 100 ∨ oc A Q i = 110 := by
  unfold oc oc3
  split
  · exact Or.inr (Or.inr rfl)
  · split
    · exact Or.inr (Or.inl rfl)
    · exact Or.inl rfl
section LAW18
variable {N : Nat} {xs : Nat → Int32} {h g : Hp} {b b' : Bk} {y y' : Nat} {a3 : Nat}
/-- the reports below i are told: the law's numbers, its text -/
def Wq (b : Bk) (a3 i : Nat) (g : Hp) (s : Nat) : Prop := ZI (fun a => a = a3) g ∧ (HK g a3 = 100 ∧ HL g a3 = 128) ∧ (HI g a3 99 = nI (ocN b 99 i) ∧ HI g a3 100 = nI (ocN b 100 i) ∧ HI g a3 110 = nI (ocN b 110 i)) ∧ ∃ V, StS g (HI g) s V (batL (kA b) (kQ b) i) ∧ ((i = 0 ∧ s = 12 ∧ V = 13) ∨ (HK g V = 102 ∧ (241 ≤ s ∧ 241 ≤ V) ∧ ZI (fun a => a = a3 ∨ a = s ∨ a = V) g)) ∧ a3 ≠ s ∧ a3 ≠ V
theorem rep_one (K : LK N xs g b y) {i s : Nat} (hi : i < kN b) (h241 : 241 ≤ a3) (W : Wq b a3 i g s) (v : Int32) : ∃ g' s', RF 242 23 [.ref 31, .int v, .int (nI (kN b)), .ref a3, .ref s, .int (nI i), .null, .null, .null, .null, .null, .null] [] g = RF 242 23 [.ref 31, .int v, .int (nI (kN b)), .ref a3, .ref s', .int (nI (i + 1)), .null, .null, .null, .null, .null, .null] [] g' ∧ Ls N xs b y g g' 25 ∧ Wq b a3 (i + 1) g' s' := by
  obtain ⟨I, ⟨ka, la⟩, ⟨o1, o2, o3⟩, V, T, sv, ns, nV⟩ := W
  obtain ⟨⟨w12, w14, -, -, w20⟩, -, wl⟩ := lwL
  have n12 := K.qv.1
  have hQ : ∀ i, i < kN b → (kQ b i).2.1 < 1000 ∧ (kQ b i).2.2 < 100 := fun i hi => ⟨(K.rk.q.b hi).2.1, (K.rk.q.b hi).2.2.2⟩
  have hs3 := (K.qv.2 i hi).1
  have d1 := dig_len3 (hQ i hi).1
  have d2 := dig_len2 (hQ i hi).2
  have bl := batL_len (A := kA b) hQ i (by omega)
  have bl' := batL_len (A := kA b) hQ (i + 1) (by omega)
  have lo' := batL_lo (A := kA b) (Q := kQ b) (n := kN b) (fun i hi => (K.qv.2 i hi).1) (i + 1) (by omega)
  have hoc := oc_in (kA b) (kQ b) i
  have ha3 : a3 < HN g := (I.2.1 a3 rfl).2
  obtain ⟨-, -, -, c145⟩ := repC_t K.q K.rk hi
  have ch : chI g a3 100 (nI (oc (kA b) (kQ b) i)) = true := chI_nI ka la (by omega) (by decide)
  have hco : (nI (oc (kA b) (kQ b) i)).toNatClampNeg = oc (kA b) (kQ b) i := cl_nI (by omega)
  have K7 : LK N xs (sI g a3 (oc (kA b) (kQ b) i) (HI g a3 (oc (kA b) (kQ b) i) + (1 : Int32))) b y := K.si _ h241 (by rw [ka]; decide)
  have I7 : ZI (fun a => a = a3) (sI g a3 (oc (kA b) (kQ b) i) (HI g a3 (oc (kA b) (kQ b) i) + (1 : Int32))) := I
  have T7 := T.si (a := a3) (i := oc (kA b) (kQ b) i) (HI g a3 (oc (kA b) (kQ b) i) + (1 : Int32)) ns nV
  have ka7 : HK (sI g a3 (oc (kA b) (kQ b) i) (HI g a3 (oc (kA b) (kQ b) i) + (1 : Int32))) a3 = 100 := ka
  have la7 : HL (sI g a3 (oc (kA b) (kQ b) i) (HI g a3 (oc (kA b) (kQ b) i) + (1 : Int32))) a3 = 128 := la
  have hn7 : HN (sI g a3 (oc (kA b) (kQ b) i) (HI g a3 (oc (kA b) (kQ b) i) + (1 : Int32))) = HN g := rfl
  have R7 : Rm g (sI g a3 (oc (kA b) (kQ b) i) (HI g a3 (oc (kA b) (kQ b) i) + (1 : Int32))) 0 0 := Rm.rf g
  have val : ∀ c, HI g a3 c = nI (ocN b c i) → HI (sI g a3 (oc (kA b) (kQ b) i) (HI g a3 (oc (kA b) (kQ b) i) + (1 : Int32))) a3 c = nI (ocN b c (i + 1)) := fun c hc => by
    show u2 (HI g) a3 (oc (kA b) (kQ b) i) (HI g a3 (oc (kA b) (kQ b) i) + (1 : Int32)) a3 c = nI (ocN b c i + b2n (decide (oc (kA b) (kQ b) i = c)))
    by_cases e : oc (kA b) (kQ b) i = c
    · rw [e, w2_eq, decide_eq_true rfl, hc]
      exact add_nI _ 1
    · rw [w2_ne (fun w => e w.2.symm), decide_eq_false e, hc]
      rfl
  have e23 : ∀ w, (let h7 := sI g a3 (oc (kA b) (kQ b) i) (HI g a3 (oc (kA b) (kQ b) i) + (1 : Int32)); let h8 : Hp := hnew h7 10 4; cond (ckK h8 (HN h7) 10) (bV (CL 8 [.ref (HN h7)] h8) (fun h9 => cond (ckK h9 (HN h7) 10) (bR (CL 96 [.ref (HN h7), .ref s] h9) (fun x11 h10 => if nI i = 0 then RF 242 65 [.ref 31, .int v, .int (nI (kN b)), .ref a3, .ref s, .int (nI i), .null, .null, .null, .null, .null, .null] [.ref 12, .ref x11] h10 else RF 242 65 [.ref 31, .int v, .int (nI (kN b)), .ref a3, .ref s, .int (nI i), .null, .null, .null, .null, .null, .null] [.ref 20, .ref x11] h10) thr) none) thr) none) = w → RF 242 23 [.ref 31, .int v, .int (nI (kN b)), .ref a3, .ref s, .int (nI i), .null, .null, .null, .null, .null, .null] [] g = w := fun w hw => by
    rw [e242_23, if_pos (show nI i < nI (kN b) by rw [lt_nI (by omega) (by omega)]; exact hi), K.k8, c145]
    simp only [bI_ok, cond_true, ch, hco]
    exact hw
  generalize sI g a3 (oc (kA b) (kQ b) i) (HI g a3 (oc (kA b) (kQ b) i) + (1 : Int32)) = h7 at *
  dsimp only at e23
  have T12 := lit_st K7 (a := 12) (by decide) (by decide) (by decide) (wl 4 (by decide))
  have T14 := lit_st K7 (a := 14) (by decide) (by decide) (by decide) (wl 5 (by decide))
  have T20 := lit_st K7 (a := 20) (by decide) (by decide) (by decide) (wl 8 (by decide))
  rw [w12] at T12
  rw [w14] at T14
  rw [w20] at T20
  obtain ⟨g2, k2, c2, Q2⟩ := bq_new I7
  obtain ⟨g3, c3, Q3⟩ := Q2.st T7 (fun z => ns (by have z : s = a3 := z; exact z.symm)) (by simp only [List.length_nil]; omega)
  rw [List.nil_append] at Q3
  have join : ∃ s0 g4, CL 96 [.ref (HN h7), .ref s0] g3 = some (.ok (.ref (HN h7)), g4) ∧ Bq (fun a => a = a3) h7 g4 (HN h7) (batL (kA b) (kQ b) i ++ (if i = 0 then [] else [32])) 8 ∧ (if nI i = 0 then RF 242 65 [.ref 31, .int v, .int (nI (kN b)), .ref a3, .ref s, .int (nI i), .null, .null, .null, .null, .null, .null] [.ref 12, .ref (HN h7)] g3 else RF 242 65 [.ref 31, .int v, .int (nI (kN b)), .ref a3, .ref s, .int (nI i), .null, .null, .null, .null, .null, .null] [.ref 20, .ref (HN h7)] g3) = RF 242 65 [.ref 31, .int v, .int (nI (kN b)), .ref a3, .ref s, .int (nI i), .null, .null, .null, .null, .null, .null] [.ref s0, .ref (HN h7)] g3 := by
    by_cases e : i = 0
    · obtain ⟨g4, c4, Q4⟩ := Q3.st T12 (I7.zl (by decide)) (by simp only [List.length_nil]; omega)
      exact ⟨12, g4, c4, by rw [if_pos e]; exact Q4, if_pos (by rw [e]; rfl)⟩
    · obtain ⟨g4, c4, Q4⟩ := Q3.st T20 (I7.zl (by decide)) (by simp only [List.length_cons, List.length_nil]; omega)
      exact ⟨20, g4, c4, by rw [if_neg e]; exact Q4, if_neg (by rw [eqz_nI (by omega)]; exact e)⟩
  obtain ⟨s0, g4, c4, Q4, ej⟩ := join
  have jl : (batL (kA b) (kQ b) i ++ (if i = 0 then [] else [32])).length ≤ 9 * i + 1 := by
    rw [la2]
    have : (if i = 0 then ([] : List Nat) else [32]).length ≤ 1 := by
      split
      · exact Nat.zero_le 1
      · exact Nat.le_refl 1
    omega
  have eb : batL (kA b) (kQ b) (i + 1) = ((((batL (kA b) (kQ b) i ++ (if i = 0 then [] else [32])) ++ [97 + (kQ b i).1]) ++ dig (kQ b i).2.1) ++ [61] ++ dig (kQ b i).2.2) ++ [oc (kA b) (kQ b) i] := batL_y _ _ _ _
  generalize batL (kA b) (kQ b) i ++ (if i = 0 then [] else [32]) = J at *
  obtain ⟨g5, c5, Q5⟩ := Q4.c (ch := 97 + (kQ b i).1) (by omega) (by omega)
  obtain ⟨g6, c6, Q6⟩ := Q5.i K7 (v := (kQ b i).2.1) (by have := (hQ i hi).1; omega) (by rw [la1]; omega)
  obtain ⟨g7, c7, Q7⟩ := Q6.st T14 (I7.zl (by decide)) (by rw [la2, la1]; simp only [List.length_cons, List.length_nil]; omega)
  obtain ⟨g8, c8, Q8⟩ := Q7.i K7 (v := (kQ b i).2.2) (by have := (hQ i hi).2; omega) (by rw [la1, la2, la1]; omega)
  obtain ⟨g9, c9, Q9⟩ := Q8.c (ch := oc (kA b) (kQ b) i) (by omega) (by rw [la2, la1, la2, la1]; omega)
  rw [← eb] at Q9
  obtain ⟨g10, c10, T10, v10, n10, -, I10⟩ := Q9.str lo' (by omega)
  have K4 := K7.nh Q4.2.1
  have K5 := K7.nh Q5.2.1
  have K7' := K7.nh Q7.2.1
  have K8 := K7.nh Q8.2.1
  obtain ⟨s1, -, -, -⟩ := repC_t K4.q K4.rk hi
  obtain ⟨-, s2, -, -⟩ := repC_t K5.q K5.rk hi
  obtain ⟨-, -, s3, -⟩ := repC_t K7'.q K7'.rk hi
  obtain ⟨-, -, -, s4⟩ := repC_t K8.q K8.rk hi
  have hn9 := Q9.2.1.hn
  have i10 : ∀ c, HI g10 a3 c = HI h7 a3 c := fun c => n10.1.2.2.2.1 a3 (by omega) c
  refine ⟨g10, HN g9, e23 _ ?_, ⟨K7.nh n10, (R7.tr n10.1.rm).up (by decide) (by decide)⟩, n10.2, ⟨(congrArg Prod.fst (n10.1.2.1 a3 (by omega))).trans ka7, (congrArg Prod.snd (n10.1.2.1 a3 (by omega))).trans la7⟩, ⟨(i10 99).trans (val 99 o1), (i10 100).trans (val 100 o2), (i10 110).trans (val 110 o3)⟩, HN g9 + 1, T10, Or.inr ⟨v10, ⟨by have := K7.hn; omega, by have := K7.hn; omega⟩, I10⟩, by omega, by omega⟩
  simp only [k2, cond_true, c2, bV_ok, Q2.ck, c3, bR_ok]
  rw [ej, e242_65, Q3.ck, c4]
  simp only [cond_true, bR_ok, K4.k8, s1, bI_ok, Q4.ck, c5, K5.k8, s2, Q5.ck, c6, Q6.ck, c7, K7'.k8, s3, Q7.ck, c8, K8.k8, s4, Q8.ck, c9, Q9.ck, c10]
  rw [show (nI i + (1 : Int32)) = nI (i + 1) from add_nI i 1]
theorem rep_all (h241 : 241 ≤ a3) (v : Int32) : ∀ (d i : Nat) (g : Hp) (s : Nat), i + d = kN b → LK N xs g b y → Wq b a3 i g s → ∃ g' s', RF 242 23 [.ref 31, .int v, .int (nI (kN b)), .ref a3, .ref s, .int (nI i), .null, .null, .null, .null, .null, .null] [] g = RF 242 23 [.ref 31, .int v, .int (nI (kN b)), .ref a3, .ref s', .int (nI (kN b)), .null, .null, .null, .null, .null, .null] [] g' ∧ Ls N xs b y g g' (25 * d) ∧ Wq b a3 (kN b) g' s' := by
  intro d
  induction d with
  | zero =>
    intro i g s hi K W
    have e : i = kN b := by omega
    subst e
    exact ⟨g, s, rfl, Ls.rf K, W⟩
  | succ d ih =>
    intro i g s hi K W
    obtain ⟨g1, s1, r1, r2, r3⟩ := rep_one K (show i < kN b by omega) h241 W v
    obtain ⟨g2, s2, i1, i2, i3⟩ := ih (i + 1) g1 s1 (by omega) r2.1 r3
    exact ⟨g2, s2, r1.trans i1, (r2.tr i2).up (by omega), i3⟩
end LAW18
