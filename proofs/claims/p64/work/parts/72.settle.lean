/-! SETTLING AND DROPPING -/
theorem rr_some {f : Nat → Nat → Int32} {t s k : Nat} {A D : AF} (R : RT f t A D) (hs : s < 3) (hk : k < 1000) (h : 0 < A s k) : ∃ r, r < tn f t ∧ tk f t r = k ∧ ta f t s r = A s k ∧ rr? f t s k = some r := by
  rcases R.cases hk with ⟨r, h1, h2, h3⟩ | ⟨h1, h2, _⟩
  · have ha := R.a hs h1
    rw [h2] at ha
    refine ⟨r, h1, h2, ha.symm, ?_⟩
    unfold rr?
    rw [h3]
    dsimp only
    rw [if_neg (by omega)]
  · rw [R.no hs hk h1] at h
    omega
theorem rr_none {f : Nat → Nat → Int32} {t s k : Nat} {A D : AF} (R : RT f t A D) (hs : s < 3) (hk : k < 1000) (h : A s k = 0) : rr? f t s k = none := by
  unfold rr?
  rcases R.cases hk with ⟨r, h1, h2, h3⟩ | ⟨h1, h2, _⟩
  · have ha := R.a hs h1
    rw [h2] at ha
    rw [h3]
    dsimp only
    rw [if_pos (by omega)]
  · rw [h2]
def stT (b : Bk) (s k o : Nat) : Nat → Nat := fun s' => if s' = s then (if kT b s + 1 < 10 then kT b s + 1 else 9) else if s' < o ∧ 0 < kA b s' k ∧ kA b s' k ≠ kA b s k then kT b s' - 1 else kT b s'
def stB (b : Bk) (s k : Nat) : Bk := (lvA (kA b) k (kA b s k), kD b, kN b, kQ b, stT b s k 3, (fun i => if i = 6 then kU b 6 + 1 else kU b i), kY b)
def drB (b : Bk) (s k : Nat) : Bk := (sA (kA b) s k 0, kD b, kN b, kQ b, kT b, (fun i => if i = 3 then kU b 3 + 1 else kU b i), kY b)
section SD
variable {h : Hp} {B : Nat} {b : Bk}
theorem settleFor_ok (S : BkS h B) (R : RK (HI h) B b) {s k : Nat} (hs : s < 3) (hk : k < 1000) (h0 : 0 < kA b s k) : ∃ f', CL 50 [.ref B, .int (nI s), .int (nI k)] h = some (.ok (.int (nI (lvN (kA b) k (kA b s k) 3))), wI h f') ∧ RK f' B (stB b s k) ∧ Fr B (B + 17) (HI h) f' := by
  obtain ⟨r, hr1, hr2, hr3, hr4⟩ := rr_some R.t hs hk h0
  have n30 := R.t.n30
  have hrec := rowOfRecord_ok S.t R.t.N hs hk
  rw [hr4] at hrec
  have hT := R.tr hs
  have a9 := R.t.a9 hs hk
  have har : HI h (B + 1 + 3 + s) r = nI (kA b s k) := by rw [← hr3]; exact R.t.N.a hs (by omega)
  have hmin : (if 9 < kT b s + 1 then nI 9 else nI (kT b s + 1)) = nI (stT b s k 0 s) := by
    unfold stT
    rw [if_pos rfl]
    by_cases q : kT b s + 1 < 10
    · rw [if_neg (by omega), if_pos q]
    · rw [if_pos (by omega), if_neg q]
  have hstep1 : CL 50 [.ref B, .int (nI s), .int (nI k)] h = RF 50 51 [.ref B, .int (nI s), .int (nI k), .int (nI r), .int (nI (kA b s k)), .int (nI 0), .null] [] (wI h (u2 (HI h) (B + 15) s (nI (stT b s k 0 s)))) := by
    rw [e50]
    simp (disch := omega) only [S.f, S.ck, S.t.f, S.t.s hs, S.t.sr hs (show r < 30 by omega), S.tr hs, hrec, oI, neg_nI, hT, har, hmin, cond_true, cond_false, bI_ok, bI_er, bV_ok, bV_er, bR_ok, bR_er, bD_ok, bD_er, bF_ok, bF_er, thr_ap, cl_nI, lt_nI, le_nI, eq_nI, m1_lt, nI_m1, m1_nI, nI_lt_m1, add_nI, sub_nI, addm_nI, z_addm, z_subm, mul_nI, fit1_0, fit1_1, fit2_n, HI_wI, HK_wI, HL_wI, HR_wI, ckK_wI, chI_wI, sI_wI, wI_wI, lz0, lz1, lz2, lz3, lz4, lz5, lz6, lz7, lz8, lz9, lz10, lz12, lz13, lz16, lz17, lz20, lz21, lz23, lz26, lz30, lz32, lz35, lz40, lz45, lz48, lz57, lz58, lz59, lz60, lz61, lz63, lz64, lz97, lz99, lz100, lz110, lz111, lz126, lz129, lz132, lz133, lz166, lz169, lz255, lz999, lz1183, lz1800, Nat.reduceAdd, Nat.reduceLT, Nat.reduceEqDiff, Nat.not_lt_zero, Nat.lt_irrefl, ↓reduceIte, Nat.zero_add, Nat.add_zero, ne_eq, not_true_eq_false, not_false_eq_true, reduceCtorEq]
  obtain ⟨⟨v, g⟩, hg1, hg2, hg3⟩ := lpEx (β := Value × (Nat → Nat → Int32)) (n := 3) (x0 := (Value.null, u2 (HI h) (B + 15) s (nI (stT b s k 0 s)))) (F := fun i x => RF 50 51 [.ref B, .int (nI s), .int (nI k), .int (nI r), .int (nI (kA b s k)), .int (nI i), x.1] [] (wI h x.2)) (P := fun i x => (∀ s', s' < 3 → x.2 (B + 15) s' = nI (stT b s k i s')) ∧ ∀ a j, a ≠ B + 15 → x.2 a j = HI h a j) ⟨fun s' hs' => by
    dsimp only
    by_cases q : s' = s
    · subst q
      exact w2_eq _ _ _ _
    · rw [w2_ne (by omega), (R.tr hs').1]
      unfold stT
      rw [if_neg q, if_neg (by omega)], fun a j ha => w2_ne (by omega)⟩ (fun o x ho hP => by
    obtain ⟨v, g⟩ := x
    obtain ⟨p1, p2⟩ := hP
    dsimp only at p1 p2 ⊢
    have hoa := R.t.a ho hr1
    rw [hr2] at hoa
    have o9 := R.t.a9 ho hk
    have hor : g (B + 1 + 3 + o) r = nI (kA b o k) := by
      rw [p2 (B + 1 + 3 + o) r (by omega), hoa]
      exact R.t.N.a ho (by omega)
    have hTo := p1 o ho
    have ht9 : stT b s k o o < 11 := by
      have := (R.tr ho).2
      unfold stT
      split
      · split <;> omega
      · split <;> omega
    by_cases q1 : 0 < kA b o k ∧ kA b o k ≠ kA b s k
    · have hos : o ≠ s := fun q => q1.2 (by rw [q])
      have hTo2 : stT b s k o o = kT b o := by
        unfold stT
        rw [if_neg hos, if_neg (by omega)]
      have hTo3 : stT b s k (o + 1) o = kT b o - 1 := by
        unfold stT
        rw [if_neg hos, if_pos ⟨by omega, q1⟩]
      rw [hTo2] at hTo
      refine ⟨(.int (nI (kA b o k)), u2 g (B + 15) o (nI (kT b o - 1))), ?_, fun s' hs' => ?_, fun a j ha => ?_⟩
      · rw [e50_51]
        have hlt : o < 3 := ho
        by_cases q : kT b o = 0 <;> simp (disch := omega) only [S.f, S.ck, S.t.f, S.t.s ho, S.t.sr ho (show r < 30 by omega), S.tr ho, hor, hTo, hlt, q1, q, Nat.zero_sub, cond_true, cond_false, bI_ok, bI_er, bV_ok, bV_er, bR_ok, bR_er, bD_ok, bD_er, bF_ok, bF_er, thr_ap, cl_nI, lt_nI, le_nI, eq_nI, m1_lt, nI_m1, m1_nI, nI_lt_m1, add_nI, sub_nI, addm_nI, z_addm, z_subm, mul_nI, fit1_0, fit1_1, fit2_n, HI_wI, HK_wI, HL_wI, HR_wI, ckK_wI, chI_wI, sI_wI, wI_wI, lz0, lz1, lz2, lz3, lz4, lz5, lz6, lz7, lz8, lz9, lz10, lz12, lz13, lz16, lz17, lz20, lz21, lz23, lz26, lz30, lz32, lz35, lz40, lz45, lz48, lz57, lz58, lz59, lz60, lz61, lz63, lz64, lz97, lz99, lz100, lz110, lz111, lz126, lz129, lz132, lz133, lz166, lz169, lz255, lz999, lz1183, lz1800, Nat.reduceAdd, Nat.reduceLT, Nat.reduceEqDiff, Nat.not_lt_zero, Nat.lt_irrefl, ↓reduceIte, Nat.zero_add, Nat.add_zero, ne_eq, not_true_eq_false, not_false_eq_true, reduceCtorEq]
      · dsimp only
        by_cases q : s' = o
        · subst q
          rw [w2_eq, hTo3]
        · rw [w2_ne (by omega), p1 s' hs']
          unfold stT
          congr 1
          split
          · rfl
          · by_cases q2 : s' < o ∧ 0 < kA b s' k ∧ kA b s' k ≠ kA b s k
            · rw [if_pos q2, if_pos ⟨by omega, q2.2⟩]
            · rw [if_neg q2, if_neg (fun q3 => q2 ⟨by omega, q3.2⟩)]
      · exact (w2_ne (by omega)).trans (p2 a j ha)
    · refine ⟨(.int (nI (kA b o k)), g), ?_, fun s' hs' => ?_, p2⟩
      · rw [e50_51]
        have hlt : o < 3 := ho
        by_cases q2 : 0 < kA b o k
        · have q3 : kA b o k = kA b s k := by
            by_cases q4 : kA b o k = kA b s k
            · exact q4
            · exact absurd ⟨q2, q4⟩ q1
          simp (disch := omega) only [S.f, S.ck, S.t.f, S.t.s ho, S.t.sr ho (show r < 30 by omega), S.tr ho, hor, hlt, q3, h0, cond_true, cond_false, bI_ok, bI_er, bV_ok, bV_er, bR_ok, bR_er, bD_ok, bD_er, bF_ok, bF_er, thr_ap, cl_nI, lt_nI, le_nI, eq_nI, m1_lt, nI_m1, m1_nI, nI_lt_m1, add_nI, sub_nI, addm_nI, z_addm, z_subm, mul_nI, fit1_0, fit1_1, fit2_n, HI_wI, HK_wI, HL_wI, HR_wI, ckK_wI, chI_wI, sI_wI, wI_wI, lz0, lz1, lz2, lz3, lz4, lz5, lz6, lz7, lz8, lz9, lz10, lz12, lz13, lz16, lz17, lz20, lz21, lz23, lz26, lz30, lz32, lz35, lz40, lz45, lz48, lz57, lz58, lz59, lz60, lz61, lz63, lz64, lz97, lz99, lz100, lz110, lz111, lz126, lz129, lz132, lz133, lz166, lz169, lz255, lz999, lz1183, lz1800, Nat.reduceAdd, Nat.reduceLT, Nat.reduceEqDiff, Nat.not_lt_zero, Nat.lt_irrefl, ↓reduceIte, Nat.zero_add, Nat.add_zero, ne_eq, not_true_eq_false, not_false_eq_true, reduceCtorEq]
        · simp (disch := omega) only [S.f, S.ck, S.t.f, S.t.s ho, S.t.sr ho (show r < 30 by omega), S.tr ho, hor, hlt, q2, cond_true, cond_false, bI_ok, bI_er, bV_ok, bV_er, bR_ok, bR_er, bD_ok, bD_er, bF_ok, bF_er, thr_ap, cl_nI, lt_nI, le_nI, eq_nI, m1_lt, nI_m1, m1_nI, nI_lt_m1, add_nI, sub_nI, addm_nI, z_addm, z_subm, mul_nI, fit1_0, fit1_1, fit2_n, HI_wI, HK_wI, HL_wI, HR_wI, ckK_wI, chI_wI, sI_wI, wI_wI, lz0, lz1, lz2, lz3, lz4, lz5, lz6, lz7, lz8, lz9, lz10, lz12, lz13, lz16, lz17, lz20, lz21, lz23, lz26, lz30, lz32, lz35, lz40, lz45, lz48, lz57, lz58, lz59, lz60, lz61, lz63, lz64, lz97, lz99, lz100, lz110, lz111, lz126, lz129, lz132, lz133, lz166, lz169, lz255, lz999, lz1183, lz1800, Nat.reduceAdd, Nat.reduceLT, Nat.reduceEqDiff, Nat.not_lt_zero, Nat.lt_irrefl, ↓reduceIte, Nat.zero_add, Nat.add_zero, ne_eq, not_true_eq_false, not_false_eq_true, reduceCtorEq]
      · dsimp only
        rw [p1 s' hs']
        unfold stT
        congr 1
        split
        · rfl
        · by_cases q2 : s' < o ∧ 0 < kA b s' k ∧ kA b s' k ≠ kA b s k
          · rw [if_pos q2, if_pos ⟨by omega, q2.2⟩]
          · by_cases q5 : s' = o
            · subst q5
              rw [if_neg q2, if_neg (fun q3 => q1 q3.2)]
            · rw [if_neg q2, if_neg (fun q3 => q2 ⟨by omega, q3.2⟩)])
  dsimp only at hg1 hg2 hg3
  have h6 : g (B + 16) 6 = nI (kU b 6) := (hg3 _ _ (by omega)).trans (R.tt (by decide))
  have Rt : RT (u2 g (B + 16) 6 (nI (kU b 6 + 1))) (B + 1) (kA b) (kD b) := R.t.cong (fun i x hi => (w2_ne (by omega)).trans (hg3 _ _ (by omega)))
  have e3 : tn (u2 g (B + 16) 6 (nI (kU b 6 + 1))) (B + 1) = tn (HI h) (B + 1) := rd_cg ((w2_ne (by omega)).trans (hg3 _ _ (by omega)))
  have ek : tk (u2 g (B + 16) 6 (nI (kU b 6 + 1))) (B + 1) r = k := (rd_cg ((w2_ne (by omega)).trans (hg3 _ _ (by omega)))).trans hr2
  have hlv := level_ok (S.wI (u2 g (B + 16) 6 (nI (kU b 6 + 1)))).t Rt (r := r) (a := kA b s k) (by rw [HI_wI]; omega) a9
  rw [HI_wI, wI_wI, ek] at hlv
  have hL := Rt.level (r := r) (a := kA b s k) (by omega) h0 a9
  rw [ek] at hL
  refine ⟨lvF (u2 g (B + 16) 6 (nI (kU b 6 + 1))) (B + 1) r (kA b s k) 3, ?_, ⟨hL, ?_, fun s' hs' => ?_, fun i hi => ?_, ?_⟩, ?_⟩
  · refine hstep1.trans (hg1.trans ?_)
    rw [e50_51]
    simp (disch := omega) only [S.f, S.ck, S.tt (show 6 < 7 by decide), h6, hlv, cond_true, cond_false, bI_ok, bI_er, bV_ok, bV_er, bR_ok, bR_er, bD_ok, bD_er, bF_ok, bF_er, thr_ap, cl_nI, lt_nI, le_nI, eq_nI, m1_lt, nI_m1, m1_nI, nI_lt_m1, add_nI, sub_nI, addm_nI, z_addm, z_subm, mul_nI, fit1_0, fit1_1, fit2_n, HI_wI, HK_wI, HL_wI, HR_wI, ckK_wI, chI_wI, sI_wI, wI_wI, lz0, lz1, lz2, lz3, lz4, lz5, lz6, lz7, lz8, lz9, lz10, lz12, lz13, lz16, lz17, lz20, lz21, lz23, lz26, lz30, lz32, lz35, lz40, lz45, lz48, lz57, lz58, lz59, lz60, lz61, lz63, lz64, lz97, lz99, lz100, lz110, lz111, lz126, lz129, lz132, lz133, lz166, lz169, lz255, lz999, lz1183, lz1800, Nat.reduceAdd, Nat.reduceLT, Nat.reduceEqDiff, Nat.not_lt_zero, Nat.lt_irrefl, ↓reduceIte, Nat.zero_add, Nat.add_zero, ne_eq, not_true_eq_false, not_false_eq_true, reduceCtorEq]
  · exact R.q.cong (fun i x hi => (lvF_Fr _ _ (by omega)).trans ((w2_ne (by omega)).trans (hg3 _ _ (by omega))))
  · rw [lvF_Fr _ _ (by omega), w2_ne (by omega), hg2 s' hs']
    refine ⟨rfl, ?_⟩
    have := (R.tr hs).2
    have := (R.tr hs').2
    show stT b s k 3 s' ≤ 9
    unfold stT
    split
    · split <;> omega
    · split <;> omega
  · rw [lvF_Fr _ _ (by omega)]
    show _ = nI (if i = 6 then kU b 6 + 1 else kU b i)
    by_cases q : i = 6
    · subst q
      rw [w2_eq, if_pos rfl]
    · rw [w2_ne (by omega), if_neg q, hg3 (B + 16) i (by omega)]
      exact R.tt hi
  · rw [lvF_Fr _ _ (by omega), w2_ne (by omega), hg3 B 4 (by omega)]
    exact R.y
  · intro a x ha
    rw [lvF_Fr a x (by omega), w2_ne (by omega)]
    exact hg3 a x (by omega)
theorem dropRecord_ok (S : BkS h B) (R : RK (HI h) B b) {s k : Nat} (hs : s < 3) (hk : k < 1000) (h0 : 0 < kA b s k) : ∃ f', CL 52 [.ref B, .int (nI s), .int (nI k)] h = some (.ok (.int (nI (tot (sA (kA b) s k 0)))), wI h f') ∧ RK f' B (drB b s k) ∧ Fr B (B + 17) (HI h) f' := by
  obtain ⟨r, hr1, hr2, hr3, hr4⟩ := rr_some R.t hs hk h0
  have hrec := rowOfRecord_ok S.t R.t.N hs hk
  have n30 := R.t.n30
  rw [hr4] at hrec
  obtain ⟨g, hg1, hg2, hg3⟩ := remove_ok S.t R.t hs hr1 (by rw [hr3]; exact h0)
  rw [hr2] at hg2
  have h3 : g (B + 16) 3 = nI (kU b 3) := (hg3 _ _ (by omega)).trans (R.tt (by decide))
  have hm : g (B + 1) 4 = nI (tot (sA (kA b) s k 0)) := by rw [← hg2.m]; exact hg2.N.m
  refine ⟨u2 g (B + 16) 3 (nI (kU b 3 + 1)), ?_, ⟨hg2.cong (fun i x hi => w2_ne (by omega)), R.q.cong (fun i x hi => (w2_ne (by omega)).trans (hg3 _ _ (by omega))), fun s' hs' => ?_, fun i hi => ?_, ?_⟩, ?_⟩
  · rw [e52]
    simp (disch := omega) only [S.f, S.ck, S.tt (show 3 < 7 by decide), hrec, oI, neg_nI, hg1, h3, hm, w2_ne, cond_true, cond_false, bI_ok, bI_er, bV_ok, bV_er, bR_ok, bR_er, bD_ok, bD_er, bF_ok, bF_er, thr_ap, cl_nI, lt_nI, le_nI, eq_nI, m1_lt, nI_m1, m1_nI, nI_lt_m1, add_nI, sub_nI, addm_nI, z_addm, z_subm, mul_nI, fit1_0, fit1_1, fit2_n, HI_wI, HK_wI, HL_wI, HR_wI, ckK_wI, chI_wI, sI_wI, wI_wI, lz0, lz1, lz2, lz3, lz4, lz5, lz6, lz7, lz8, lz9, lz10, lz12, lz13, lz16, lz17, lz20, lz21, lz23, lz26, lz30, lz32, lz35, lz40, lz45, lz48, lz57, lz58, lz59, lz60, lz61, lz63, lz64, lz97, lz99, lz100, lz110, lz111, lz126, lz129, lz132, lz133, lz166, lz169, lz255, lz999, lz1183, lz1800, Nat.reduceAdd, Nat.reduceLT, Nat.reduceEqDiff, Nat.not_lt_zero, Nat.lt_irrefl, ↓reduceIte, Nat.zero_add, Nat.add_zero, ne_eq, not_true_eq_false, not_false_eq_true, reduceCtorEq]
  · rw [w2_ne (by omega), hg3 (B + 15) s' (by omega)]
    exact R.tr hs'
  · show _ = nI (if i = 3 then kU b 3 + 1 else kU b i)
    by_cases q : i = 3
    · subst q
      rw [w2_eq, if_pos rfl]
    · rw [w2_ne (by omega), if_neg q, hg3 (B + 16) i (by omega)]
      exact R.tt hi
  · rw [w2_ne (by omega), hg3 B 4 (by omega)]
    exact R.y
  · intro a x ha
    rw [w2_ne (by omega)]
    exact hg3 a x (by omega)
end SD
