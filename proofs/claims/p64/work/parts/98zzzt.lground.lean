/-! THE LAW: its groups, the rounds and the counts -/
section LAW21
variable {N : Nat} {xs : Nat → Int32} {h g : Hp} {b : Bk} {y : Nat}
def GL3 (A : AF) (h : Hp) (l : Nat → Nat) (f : Nat → Nat → Int32) : Prop := (∀ a z, a < HN h → f a z = HI h a z) ∧ ∀ j, j < tot A → f (HN h) j = nI (97 + srI A j) ∧ f (HN h + 1) j = nI (kyI A j) ∧ f (HN h + 2) j = nI (l j)
def GP (A : AF) (l0 l : Nat → Nat) (i j : Nat) : Prop := LbI (gE A) (tot A) l ∧ (∀ k, k < tot A → l k ≤ l0 k) ∧ ∀ i' j', i' < tot A → j' < tot A → (i' < i ∨ (i' = i ∧ j' < j)) → gE A i' j' = true → l i' ≤ l0 j'
def udl (l : Nat → Nat) (i v : Nat) : Nat → Nat := fun x => if x = i then v else l x
theorem gr_169 (K : LK N xs h b y) {l : Nat → Nat} {f : Nat → Nat → Int32} (G : GL3 (kA b) h l f) {r i j : Nat} (hi : i < tot (kA b)) (hj : j < tot (kA b)) (v9 : Value) (u : Bool) : ∃ f', RF 195 169 [.ref 31, .int (nI (tot (kA b))), .ref (HN h), .ref (HN h + 1), .ref (HN h + 2), .int (nI (tot (kA b))), .int (nI r), .int (nI i), .int (nI j), v9, .null] [.int (nI (b2n u))] (wI (g5 h (tot (kA b))) f) = RF 195 111 [.ref 31, .int (nI (tot (kA b))), .ref (HN h), .ref (HN h + 1), .ref (HN h + 2), .int (nI (tot (kA b))), .int (nI r), .int (nI i), .int (nI (j + 1)), .int (nI (b2n u)), .null] [] (wI (g5 h (tot (kA b))) f') ∧ GL3 (kA b) h (if u = true then udl l i (l j) else l) f' := by
  have t30 := K.t30
  obtain ⟨F, G2⟩ := G
  have ci := (g5_c h hi (by omega) f).2.2
  have cj := (g5_c h hj (by omega) f).2.2
  have up : ∀ (v : Nat) (l' : Nat → Nat), (∀ k, l' k = if k = i then v else l k) → GL3 (kA b) h l' (u2 f (HN h + 2) i (nI v)) := fun v l' hl => by
    refine ⟨fun a z ha => ?_, fun k hk => ⟨?_, ?_, ?_⟩⟩
    · rw [w2_ne (by omega)]
      exact F a z ha
    · rw [w2_ne (by omega)]
      exact (G2 k hk).1
    · rw [w2_ne (by omega)]
      exact (G2 k hk).2.1
    · rw [hl]
      by_cases e : k = i
      · subst e
        rw [w2_eq, if_pos rfl]
      · rw [w2_ne (by omega), if_neg e]
        exact (G2 k hk).2.2
  have jj : (nI j + (1 : Int32)) = nI (j + 1) := add_nI j 1
  rw [e195_169]
  cases u with
  | false =>
    refine ⟨u2 f (HN h + 2) i (nI (l i)), ?_, ?_⟩
    · rw [if_pos (show nI (b2n false) = 0 from rfl), ci]
      simp only [cond_true]
      rw [cl_nI (by omega), show HI (wI (g5 h (tot (kA b))) f) (HN h + 2) i = nI (l i) from (G2 i hi).2.2, jj]
      rfl
    · rw [if_neg (by decide)]
      exact up (l i) l (fun k => by
        by_cases e : k = i
        · rw [if_pos e, e]
        · rw [if_neg e])
  | true =>
    refine ⟨u2 f (HN h + 2) i (nI (l j)), ?_, ?_⟩
    · rw [if_neg (show ¬(nI (b2n true) = 0) by decide), ci, cj]
      simp only [cond_true]
      rw [cl_nI (by omega), cl_nI (by omega), show HI (wI (g5 h (tot (kA b))) f) (HN h + 2) j = nI (l j) from (G2 j hj).2.2, jj]
      rfl
    · rw [if_pos rfl]
      exact up (l j) _ (fun k => rfl)
theorem gr_in (K : LK N xs h b y) {l0 : Nat → Nat} {r i : Nat} (hi : i < tot (kA b)) : ∀ (d j : Nat) (f : Nat → Nat → Int32) (l : Nat → Nat) (v9 : Value), j + d = tot (kA b) → GL3 (kA b) h l f → GP (kA b) l0 l i j → ∃ f' l' v9', RF 195 111 [.ref 31, .int (nI (tot (kA b))), .ref (HN h), .ref (HN h + 1), .ref (HN h + 2), .int (nI (tot (kA b))), .int (nI r), .int (nI i), .int (nI j), v9, .null] [] (wI (g5 h (tot (kA b))) f) = RF 195 102 [.ref 31, .int (nI (tot (kA b))), .ref (HN h), .ref (HN h + 1), .ref (HN h + 2), .int (nI (tot (kA b))), .int (nI r), .int (nI (i + 1)), .int (nI (tot (kA b))), v9', .null] [] (wI (g5 h (tot (kA b))) f') ∧ GL3 (kA b) h l' f' ∧ GP (kA b) l0 l' (i + 1) 0 := by
  have t30 := K.t30
  intro d
  induction d with
  | zero =>
    intro j f l v9 hj G P
    have e : j = tot (kA b) := by omega
    subst e
    refine ⟨f, l, v9, ?_, G, P.1, P.2.1, fun i' j' h1 h2 h3 h4 => P.2.2 i' j' h1 h2 (by omega) h4⟩
    rw [e195_111, if_neg (show ¬(nI (tot (kA b)) < nI (tot (kA b))) by rw [lt_nI (by omega) (by omega)]; omega), show (nI i + (1 : Int32)) = nI (i + 1) from add_nI i 1]
  | succ d ih =>
    intro j f l v9 hj G P
    have hj' : j < tot (kA b) := by omega
    obtain ⟨F, G2⟩ := G
    have li := (P.1 i hi).1
    have lj := (P.1 j hj').1
    obtain ⟨i1, i2, i3⟩ := G2 i hi
    obtain ⟨j1, j2, j3⟩ := G2 j hj'
    obtain ⟨ci0, ci1, ci2⟩ := g5_c h hi (by omega) f
    obtain ⟨cj0, cj1, cj2⟩ := g5_c h hj' (by omega) f
    obtain ⟨si, ki, ai⟩ := ix_ok hi
    obtain ⟨sj, kj, aj⟩ := ix_ok hj'
    have Kf := gr_lk K (n := tot (kA b)) (by omega) F
    have c194 := pair_ok Kf si sj ki kj ai aj
    -- what the step sets
    have step : ∀ u : Bool, (u = true → l j < l i ∧ gE (kA b) i j = true) → (u = false → gE (kA b) i j = true → l i ≤ l j) → ∃ f' l' v9', RF 195 169 [.ref 31, .int (nI (tot (kA b))), .ref (HN h), .ref (HN h + 1), .ref (HN h + 2), .int (nI (tot (kA b))), .int (nI r), .int (nI i), .int (nI j), v9, .null] [.int (nI (b2n u))] (wI (g5 h (tot (kA b))) f) = RF 195 102 [.ref 31, .int (nI (tot (kA b))), .ref (HN h), .ref (HN h + 1), .ref (HN h + 2), .int (nI (tot (kA b))), .int (nI r), .int (nI (i + 1)), .int (nI (tot (kA b))), v9', .null] [] (wI (g5 h (tot (kA b))) f') ∧ GL3 (kA b) h l' f' ∧ GP (kA b) l0 l' (i + 1) 0 := by
      intro u hu hf
      obtain ⟨f1, r1, G1⟩ := gr_169 K (r := r) ⟨F, G2⟩ hi hj' v9 u
      have P1 : GP (kA b) l0 (if u = true then udl l i (l j) else l) i (j + 1) := by
        cases u with
        | false =>
          rw [if_neg (by decide)]
          refine ⟨P.1, P.2.1, fun i' j' h1 h2 h3 h4 => ?_⟩
          by_cases e : i' = i ∧ j' = j
          · obtain ⟨rfl, rfl⟩ := e
            exact Nat.le_trans (hf rfl h4) (P.2.1 _ h2)
          · exact P.2.2 i' j' h1 h2 (by omega) h4
        | true =>
          obtain ⟨q1, q2⟩ := hu rfl
          rw [if_pos rfl]
          have ui : udl l i (l j) i = l j := if_pos rfl
          have uo : ∀ k, k ≠ i → udl l i (l j) k = l k := fun k hk => if_neg hk
          refine ⟨fun k hk => ?_, fun k hk => ?_, fun i' j' h1 h2 h3 h4 => ?_⟩
          · by_cases e : k = i
            · subst e
              rw [ui]
              exact ⟨lj, (Cn.st q2).tr (P.1 j hj').2⟩
            · rw [uo k e]
              exact P.1 k hk
          · by_cases e : k = i
            · subst e
              rw [ui]
              have := P.2.1 k hk
              omega
            · rw [uo k e]
              exact P.2.1 k hk
          · by_cases e : i' = i
            · subst e
              rw [ui]
              by_cases e2 : j' = j
              · subst e2
                exact P.2.1 _ h2
              · have := P.2.2 i' j' h1 h2 (by omega) h4
                omega
            · rw [uo i' e]
              exact P.2.2 i' j' h1 h2 (by omega) h4
      obtain ⟨f', l', v9', s1, s2, s3⟩ := ih (j + 1) f1 _ (.int (nI (b2n u))) (by omega) G1 P1
      exact ⟨f', l', v9', r1.trans s1, s2, s3⟩
    have e111 : ∀ u : Bool, (u = true → l j < l i ∧ gE (kA b) i j = true) → (u = false → gE (kA b) i j = true → l i ≤ l j) → RF 195 111 [.ref 31, .int (nI (tot (kA b))), .ref (HN h), .ref (HN h + 1), .ref (HN h + 2), .int (nI (tot (kA b))), .int (nI r), .int (nI i), .int (nI j), v9, .null] [] (wI (g5 h (tot (kA b))) f) = RF 195 169 [.ref 31, .int (nI (tot (kA b))), .ref (HN h), .ref (HN h + 1), .ref (HN h + 2), .int (nI (tot (kA b))), .int (nI r), .int (nI i), .int (nI j), v9, .null] [.int (nI (b2n u))] (wI (g5 h (tot (kA b))) f) → ∃ f' l' v9', RF 195 111 [.ref 31, .int (nI (tot (kA b))), .ref (HN h), .ref (HN h + 1), .ref (HN h + 2), .int (nI (tot (kA b))), .int (nI r), .int (nI i), .int (nI j), v9, .null] [] (wI (g5 h (tot (kA b))) f) = RF 195 102 [.ref 31, .int (nI (tot (kA b))), .ref (HN h), .ref (HN h + 1), .ref (HN h + 2), .int (nI (tot (kA b))), .int (nI r), .int (nI (i + 1)), .int (nI (tot (kA b))), v9', .null] [] (wI (g5 h (tot (kA b))) f') ∧ GL3 (kA b) h l' f' ∧ GP (kA b) l0 l' (i + 1) 0 := fun u h1 h2 e => by
      rw [e]
      exact step u h1 h2
    have v4i : HI (wI (g5 h (tot (kA b))) f) (HN h + 2) i = nI (l i) := i3
    have v4j : HI (wI (g5 h (tot (kA b))) f) (HN h + 2) j = nI (l j) := j3
    have v3i : HI (wI (g5 h (tot (kA b))) f) (HN h + 1) i = nI (kyI (kA b) i) := i2
    have v3j : HI (wI (g5 h (tot (kA b))) f) (HN h + 1) j = nI (kyI (kA b) j) := j2
    have v2i : HI (wI (g5 h (tot (kA b))) f) (HN h) i = nI (97 + srI (kA b) i) := i1
    have v2j : HI (wI (g5 h (tot (kA b))) f) (HN h) j = nI (97 + srI (kA b) j) := j1
    have cli : (nI i).toNatClampNeg = i := cl_nI (by omega)
    have clj : (nI j).toNatClampNeg = j := cl_nI (by omega)
    have lt1 : nI j < nI (tot (kA b)) := by rw [lt_nI (by omega) (by omega)]; exact hj'
    by_cases q : l j < l i
    · by_cases e : kyI (kA b) i = kyI (kA b) j
      · refine e111 true (fun _ => ⟨q, gE_t.mpr ⟨⟨hi, hj'⟩, Or.inl e⟩⟩) (fun z => by cases z) ?_
        rw [e195_111, if_pos lt1, cj2, ci2, cli, clj, v4j, v4i]
        simp only [cond_true]
        rw [if_pos (show nI (l j) < nI (l i) by rw [lt_nI (by omega) (by omega)]; exact q), ci1, cj1, v3i, v3j]
        simp only [cond_true]
        rw [if_pos (by rw [e])]
        rfl
      · have ne3 : ¬(nI (kyI (kA b) i) = nI (kyI (kA b) j)) := by
          rw [eq_nI (by omega) (by omega)]
          exact e
        cases z : ppA (kA b) (srI (kA b) i) (kyI (kA b) i) (srI (kA b) j) (kyI (kA b) j) with
        | true =>
          rw [z] at c194
          refine e111 true (fun _ => ⟨q, gE_t.mpr ⟨⟨hi, hj'⟩, Or.inr z⟩⟩) (fun z => by cases z) ?_
          rw [e195_111, if_pos lt1, cj2, ci2, cli, clj, v4j, v4i]
          simp only [cond_true]
          rw [if_pos (show nI (l j) < nI (l i) by rw [lt_nI (by omega) (by omega)]; exact q), ci1, cj1, v3i, v3j]
          simp only [cond_true]
          rw [if_neg ne3, ci0, cj0, v2i, v2j]
          simp only [cond_true, c194, bI_ok]
          rw [if_neg (show ¬(nI (b2n true) = 0) by decide)]
          rfl
        | false =>
          rw [z] at c194
          refine e111 false (fun z => by cases z) (fun _ w => ?_) ?_
          · rcases (gE_t.mp w).2 with w | w
            · exact absurd w e
            · rw [z] at w
              cases w
          · rw [e195_111, if_pos lt1, cj2, ci2, cli, clj, v4j, v4i]
            simp only [cond_true]
            rw [if_pos (show nI (l j) < nI (l i) by rw [lt_nI (by omega) (by omega)]; exact q), ci1, cj1, v3i, v3j]
            simp only [cond_true]
            rw [if_neg ne3, ci0, cj0, v2i, v2j]
            simp only [cond_true, c194, bI_ok]
            rw [if_pos (show nI (b2n false) = 0 from rfl)]
            rfl
    · refine e111 false (fun z => by cases z) (fun _ _ => by omega) ?_
      rw [e195_111, if_pos lt1, cj2, ci2, cli, clj, v4j, v4i]
      simp only [cond_true]
      rw [if_neg (show ¬(nI (l j) < nI (l i)) by rw [lt_nI (by omega) (by omega)]; exact q)]
      rfl
theorem gr_rows (K : LK N xs h b y) {l0 : Nat → Nat} {r : Nat} : ∀ (d i : Nat) (f : Nat → Nat → Int32) (l : Nat → Nat) (v8 v9 : Value), i + d = tot (kA b) → GL3 (kA b) h l f → GP (kA b) l0 l i 0 → ∃ f' l' v8' v9', RF 195 102 [.ref 31, .int (nI (tot (kA b))), .ref (HN h), .ref (HN h + 1), .ref (HN h + 2), .int (nI (tot (kA b))), .int (nI r), .int (nI i), v8, v9, .null] [] (wI (g5 h (tot (kA b))) f) = RF 195 93 [.ref 31, .int (nI (tot (kA b))), .ref (HN h), .ref (HN h + 1), .ref (HN h + 2), .int (nI (tot (kA b))), .int (nI (r + 1)), .int (nI (tot (kA b))), v8', v9', .null] [] (wI (g5 h (tot (kA b))) f') ∧ GL3 (kA b) h l' f' ∧ LbR (gE (kA b)) (tot (kA b)) l0 l' := by
  have t30 := K.t30
  intro d
  induction d with
  | zero =>
    intro i f l v8 v9 hi G P
    have e : i = tot (kA b) := by omega
    subst e
    refine ⟨f, l, v8, v9, ?_, G, P.1, P.2.1, fun i' j' h1 h2 h4 => P.2.2 i' j' h1 h2 (Or.inl h1) h4⟩
    rw [e195_102, if_neg (show ¬(nI (tot (kA b)) < nI (tot (kA b))) by rw [lt_nI (by omega) (by omega)]; omega), show (nI r + (1 : Int32)) = nI (r + 1) from add_nI r 1]
  | succ d ih =>
    intro i f l v8 v9 hi G P
    obtain ⟨f1, l1, v1, r1, G1, P1⟩ := gr_in K (r := r) (show i < tot (kA b) by omega) (tot (kA b)) 0 f l v9 (Nat.zero_add _) G P
    obtain ⟨f2, l2, u8, u9, s1, s2, s3⟩ := ih (i + 1) f1 l1 (.int (nI (tot (kA b)))) v1 (by omega) G1 P1
    refine ⟨f2, l2, u8, u9, Eq.trans ?_ (r1.trans s1), s2, s3⟩
    rw [e195_102, if_pos (show nI i < nI (tot (kA b)) by rw [lt_nI (by omega) (by omega)]; omega)]
    rfl
theorem gr_rounds (K : LK N xs h b y) : ∀ (d r : Nat) (f : Nat → Nat → Int32) (l : Nat → Nat) (v7 v8 v9 : Value), r + d = tot (kA b) → GL3 (kA b) h l f → LbQ (gE (kA b)) (tot (kA b)) r l → ∃ f' l' v9', RF 195 93 [.ref 31, .int (nI (tot (kA b))), .ref (HN h), .ref (HN h + 1), .ref (HN h + 2), .int (nI (tot (kA b))), .int (nI r), v7, v8, v9, .null] [] (wI (g5 h (tot (kA b))) f) = RF 195 221 [.ref 31, .int (nI (tot (kA b))), .ref (HN h), .ref (HN h + 1), .ref (HN h + 2), .int (nI (tot (kA b))), .int (nI 0), .int (1 : Int32), .int (nI 0), v9', .null] [] (wI (g5 h (tot (kA b))) f') ∧ GL3 (kA b) h l' f' ∧ LbQ (gE (kA b)) (tot (kA b)) (tot (kA b)) l' := by
  have t30 := K.t30
  intro d
  induction d with
  | zero =>
    intro r f l v7 v8 v9 hr G Q
    have e : r = tot (kA b) := by omega
    subst e
    refine ⟨f, l, v9, ?_, G, Q⟩
    rw [e195_93, if_neg (show ¬(nI (tot (kA b)) < nI (tot (kA b))) by rw [lt_nI (by omega) (by omega)]; omega)]
    rfl
  | succ d ih =>
    intro r f l v7 v8 v9 hr G Q
    obtain ⟨f1, l1, u8, u9, r1, G1, R1⟩ := gr_rows K (l0 := l) (r := r) (tot (kA b)) 0 f l v8 v9 (Nat.zero_add _) G ⟨Q.1, fun k _ => Nat.le_refl _, fun i' j' _ _ h3 _ => by omega⟩
    have Q1 := LbQ_s (gE_sy _) (fun i j h => (gE_t.mp h).1) Q R1
    obtain ⟨f2, l2, w9, s1, s2, s3⟩ := ih (r + 1) f1 l1 (.int (nI (tot (kA b)))) u8 u9 (by omega) G1 Q1
    refine ⟨f2, l2, w9, Eq.trans ?_ (r1.trans s1), s2, s3⟩
    rw [e195_93, if_pos (show nI r < nI (tot (kA b)) by rw [lt_nI (by omega) (by omega)]; omega)]
    rfl
end LAW21
