/-! THE REFERENCE: the line of a key -/
def pcs (A : AF) (k s : Nat) : List Nat := if 0 < A s k then ([32] ++ [97 + s]) ++ dig (A s k) else []
def keyB (A : AF) (k : Nat) : List Nat := (((dig k ++ [58]) ++ pcs A k 0) ++ pcs A k 1) ++ pcs A k 2
/-- n characters of a word from i on -/
def lws (a i : Nat) : Nat → List Nat
  | 0 => []
  | n + 1 => lch a i :: lws a (i + 1) n
def keyL (A : AF) (k : Nat) : List Nat := if stA A k = 99 then keyB A k ++ lws 4 0 10 else if stA A k = 100 then (keyB A k ++ lws 6 0 11) ++ dig (acA A k) else keyB A k ++ lws 8 0 5
theorem lws28 : lws 28 0 10 = lws 4 0 10 ∧ lws 28 10 11 = lws 6 0 11 ∧ lws 28 21 5 = lws 8 0 5 ∧ lln 28 = 26 ∧ lln 4 = 10 ∧ lln 6 = 11 ∧ lln 8 = 5 ∧ lln 10 = 2 ∧ lws 10 0 2 = [32] ++ [64] := by decide +kernel
theorem lws_len (a : Nat) : ∀ n i, (lws a i n).length = n
  | 0, _ => rfl
  | n + 1, i => congrArg (· + 1) (lws_len a n (i + 1))
theorem RM.a100 {g : Nat → Int32} {A D : AF} (R : RM g A D) {s k : Nat} (hs : s < 3) (hk : k < 1000) : A s k < 100 := by
  by_cases q : 0 < A s k
  · obtain ⟨j, h1, h2, h3⟩ := R.ex hs hk q
    have := (R.b h1).2.2.2.1
    rw [h2, h3] at this
    exact this
  · omega
theorem RM.ac100 {g : Nat → Int32} {A D : AF} (R : RM g A D) {k : Nat} (hk : k < 1000) : acA A k < 100 := by
  have h0 := R.a100 (s := 0) (by decide) hk
  have h1 := R.a100 (s := 1) (by decide) hk
  have h2 := R.a100 (s := 2) (by decide) hk
  unfold acA ac3 mn0
  repeat' split
  all_goals omega
theorem pcs_len {A : AF} {k s : Nat} (h : A s k < 100) : (pcs A k s).length ≤ 4 := by
  have := dig_len2 h
  unfold pcs
  split
  · rw [la2]
    show 2 + (dig (A s k)).length ≤ 4
    omega
  · exact Nat.zero_le 4
/-- is the record (s, k) among the first j -/
def seen (g : Nat → Int32) (k s j : Nat) : Bool := (fst? (fun i => decide (ms g i = s) && decide (mk g i = k)) j).isSome
theorem seen_t {g : Nat → Int32} {k s j : Nat} : seen g k s j = true ↔ ∃ i, i < j ∧ ms g i = s ∧ mk g i = k := by
  unfold seen
  cases hq : fst? (fun i => decide (ms g i = s) && decide (mk g i = k)) j with
  | none =>
    refine ⟨fun h => (by cases h), fun ⟨i, h1, h2, h3⟩ => ?_⟩
    have := fst_none.mp hq i h1
    rw [decide_eq_true h2, decide_eq_true h3] at this
    cases this
  | some i =>
    obtain ⟨h1, h2, h3⟩ := fst_some.mp hq
    rw [Bool.and_eq_true] at h2
    exact ⟨fun _ => ⟨i, h1, of_decide_eq_true h2.1, of_decide_eq_true h2.2⟩, fun _ => rfl⟩
theorem seen_f {g : Nat → Int32} {k s j : Nat} (h : ∀ i, i < j → ms g i = s → mk g i = k → False) : seen g k s j = false := by
  cases q : seen g k s j with
  | false => rfl
  | true =>
    obtain ⟨i, h1, h2, h3⟩ := seen_t.mp q
    exact (h i h1 h2 h3).elim
theorem seen_o {g : Nat → Int32} {k s j : Nat} (h : ¬(ms g j = s ∧ mk g j = k)) : seen g k s (j + 1) = seen g k s j := by
  cases q : seen g k s j with
  | true =>
    obtain ⟨i, h1, h2, h3⟩ := seen_t.mp q
    exact seen_t.mpr ⟨i, by omega, h2, h3⟩
  | false =>
    refine seen_f (fun i h1 h2 h3 => ?_)
    by_cases z : i = j
    · exact h (z ▸ ⟨h2, h3⟩)
    · rw [seen_t.mpr ⟨i, by omega, h2, h3⟩] at q
      cases q
def qcs (A : AF) (g : Nat → Int32) (k s j : Nat) : List Nat := if seen g k s j = true then ([32] ++ [97 + s]) ++ dig (A s k) else []
def txt (A : AF) (g : Nat → Int32) (k j : Nat) : List Nat := (((dig k ++ [58]) ++ qcs A g k 0 j) ++ qcs A g k 1 j) ++ qcs A g k 2 j
theorem txt_0 (A : AF) (g : Nat → Int32) (k : Nat) : txt A g k 0 = dig k ++ [58] := by
  have e : ∀ s, qcs A g k s 0 = [] := fun s => by
    unfold qcs
    rw [seen_f (fun i hi => absurd hi (Nat.not_lt_zero i))]
    rfl
  unfold txt
  rw [e, e, e, List.append_nil, List.append_nil, List.append_nil]
theorem txt_m {A D : AF} {g : Nat → Int32} (R : RM g A D) {k : Nat} (hk : k < 1000) : txt A g k (tot A) = keyB A k := by
  have e : ∀ s, s < 3 → qcs A g k s (tot A) = pcs A k s := fun s hs => by
    unfold qcs pcs
    by_cases q : 0 < A s k
    · rw [if_pos q, if_pos (seen_t.mpr (R.ex hs hk q))]
    · rw [if_neg q, seen_f (fun i h1 h2 h3 => q (by rw [← h2, ← h3]; exact (R.b h1).2.2.1))]
      rfl
  unfold txt keyB
  rw [e 0 (by decide), e 1 (by decide), e 2 (by decide)]
theorem txt_n {A : AF} {g : Nat → Int32} {k j : Nat} (h : mk g j ≠ k) : txt A g k (j + 1) = txt A g k j := by
  unfold txt qcs
  rw [seen_o (fun q => h q.2), seen_o (fun q => h q.2), seen_o (fun q => h q.2)]
theorem txt_y {A D : AF} {g : Nat → Int32} (R : RM g A D) {j : Nat} (hj : j < tot A) : txt A g (mk g j) (j + 1) = ((txt A g (mk g j) j ++ [32]) ++ [97 + ms g j]) ++ dig (A (ms g j) (mk g j)) := by
  have h1 : qcs A g (mk g j) (ms g j) (j + 1) = ([32] ++ [97 + ms g j]) ++ dig (A (ms g j) (mk g j)) := by
    unfold qcs
    rw [if_pos (seen_t.mpr ⟨j, by omega, rfl, rfl⟩)]
  have h2 : ∀ s, ms g j ≤ s → qcs A g (mk g j) s j = [] := fun s hs => by
    unfold qcs
    rw [seen_f (fun i q1 q2 q3 => by
      have := R.lt q1 hj
      omega)]
    rfl
  have h3 : ∀ s, s ≠ ms g j → qcs A g (mk g j) s (j + 1) = qcs A g (mk g j) s j := fun s hs => by
    unfold qcs
    rw [seen_o (fun q => hs q.1.symm)]
  have hb := (R.b hj).1
  unfold txt
  have hc : ms g j = 0 ∨ ms g j = 1 ∨ ms g j = 2 := by omega
  rcases hc with q | q | q
  · rw [q] at h1 h2 h3 ⊢
    rw [h1, h3 1 (by decide), h3 2 (by decide), h2 0 (by decide), h2 1 (by decide), h2 2 (by decide)]
    simp only [List.append_nil, List.append_assoc]
  · rw [q] at h1 h2 h3 ⊢
    rw [h1, h3 0 (by decide), h3 2 (by decide), h2 1 (by decide), h2 2 (by decide)]
    simp only [List.append_nil, List.append_assoc]
  · rw [q] at h1 h2 h3 ⊢
    rw [h1, h3 0 (by decide), h3 1 (by decide), h2 2 (by decide)]
    simp only [List.append_nil, List.append_assoc]
theorem keyB_len {A : AF} {k : Nat} (hk : k < 1000) (h : ∀ s, s < 3 → A s k < 100) : (keyB A k).length ≤ 16 := by
  have h0 := pcs_len (h 0 (by decide))
  have h1 := pcs_len (h 1 (by decide))
  have h2 := pcs_len (h 2 (by decide))
  have h3 := dig_len3 hk
  unfold keyB
  rw [la2, la2, la2, la1]
  omega
theorem qcs_len {A : AF} {g : Nat → Int32} {k s j : Nat} (h : A s k < 100) : (qcs A g k s j).length ≤ 4 := by
  have := dig_len2 h
  unfold qcs
  split
  · rw [la2]
    show 2 + (dig (A s k)).length ≤ 4
    omega
  · exact Nat.zero_le 4
theorem txt_len {A : AF} {g : Nat → Int32} {k j : Nat} (hk : k < 1000) (h : ∀ s, s < 3 → A s k < 100) : (txt A g k j).length ≤ 16 := by
  have h0 := qcs_len (g := g) (j := j) (h 0 (by decide))
  have h1 := qcs_len (g := g) (j := j) (h 1 (by decide))
  have h2 := qcs_len (g := g) (j := j) (h 2 (by decide))
  have h3 := dig_len3 hk
  unfold txt
  rw [la2, la2, la2, la1]
  omega
section LQ2
variable {h : Hp} {b : Bk}
theorem FLm.ko {f f' : Nat → Nat → Int32} (H : FLm f f') (F : Ko f) : Ko f' := F.fr (fun a y ha => H a y (by omega))
theorem writes_ok (S : MdS h) (K : KoS h) (a1 a2 : Int32) {e : Nat} (he : e ≤ 26) : ∀ (d i : Nat) (f : Nat → Nat → Int32) (L : List Nat), i + d = e → Ko f → LM f L → L.length + d ≤ 160 → ∃ f', RF 319 6 [.ref 241, .int a1, .int a2, .int (nI e), .int (nI L.length), .int (nI i)] [] (wI h f) = some (.ok (.int (nI (L.length + d))), wI h f') ∧ LM f' (L ++ lws 28 i d) ∧ FLm f f' := by
  intro d
  induction d with
  | zero =>
    intro i f L hi F R hl
    refine ⟨f, ?_, ?_, fun _ _ _ => rfl⟩
    · rw [e319_6]
      simp (disch := omega) only [show ¬(i < e) by omega, cond_true, cond_false, bI_ok, bI_er, bV_ok, bV_er, bR_ok, bR_er, bD_ok, bD_er, bF_ok, bF_er, thr_ap, cl_nI, lt_nI, le_nI, eq_nI, m1_lt, nI_m1, m1_nI, nI_lt_m1, add_nI, sub_nI, addm_nI, z_addm, z_subm, mul_nI, fit1_0, fit1_1, fit2_n, HI_wI, HK_wI, HL_wI, HR_wI, ckK_wI, chI_wI, sI_wI, wI_wI, lz0, lz1, lz2, lz3, lz4, lz5, lz6, lz7, lz8, lz9, lz10, lz12, lz13, lz16, lz17, lz20, lz21, lz23, lz26, lz30, lz32, lz35, lz40, lz45, lz48, lz57, lz58, lz59, lz60, lz61, lz63, lz64, lz97, lz99, lz100, lz110, lz111, lz126, lz129, lz132, lz133, lz166, lz169, lz255, lz999, lz1183, lz1800, Nat.reduceAdd, Nat.reduceLT, Nat.reduceEqDiff, Nat.not_lt_zero, Nat.lt_irrefl, ↓reduceIte, Nat.zero_add, Nat.add_zero, ne_eq, not_true_eq_false, not_false_eq_true, reduceCtorEq]
    · show LM f (L ++ [])
      rw [List.append_nil]
      exact R
  | succ d ih =>
    intro i f L hi F R hl
    have hc := charAt_ok K F (a := 28) (i := i) (by decide) (by decide) (by decide) (by rw [lws28.2.2.2.1]; omega)
    obtain ⟨g, g1, g2, g3⟩ := putc_ok S R (c := lch 28 i) (by omega) rfl rfl
    obtain ⟨f', f1, f2, f3⟩ := ih (i + 1) g (L ++ [lch 28 i]) (by omega) (g3.ko F) g2 (by rw [la1]; omega)
    rw [la1] at f1
    refine ⟨f', ?_, ?_, g3.trans f3⟩
    · have hck : ckK h 28 11 = true := by
        obtain ⟨k1, k2⟩ := K 28 (by decide) (by decide)
        refine ck_of ?_
        show (h.2.1 28).1 = 11
        rw [k1]
        rfl
      rw [e319_6]
      simp (disch := omega) only [S.f, hck, show i < e by omega, hc, g1, f1, cond_true, cond_false, bI_ok, bI_er, bV_ok, bV_er, bR_ok, bR_er, bD_ok, bD_er, bF_ok, bF_er, thr_ap, cl_nI, lt_nI, le_nI, eq_nI, m1_lt, nI_m1, m1_nI, nI_lt_m1, add_nI, sub_nI, addm_nI, z_addm, z_subm, mul_nI, fit1_0, fit1_1, fit2_n, HI_wI, HK_wI, HL_wI, HR_wI, ckK_wI, chI_wI, sI_wI, wI_wI, lz0, lz1, lz2, lz3, lz4, lz5, lz6, lz7, lz8, lz9, lz10, lz12, lz13, lz16, lz17, lz20, lz21, lz23, lz26, lz30, lz32, lz35, lz40, lz45, lz48, lz57, lz58, lz59, lz60, lz61, lz63, lz64, lz97, lz99, lz100, lz110, lz111, lz126, lz129, lz132, lz133, lz166, lz169, lz255, lz999, lz1183, lz1800, Nat.reduceAdd, Nat.reduceLT, Nat.reduceEqDiff, Nat.not_lt_zero, Nat.lt_irrefl, ↓reduceIte, Nat.zero_add, Nat.add_zero, ne_eq, not_true_eq_false, not_false_eq_true, reduceCtorEq]
      rw [show L.length + 1 + d = L.length + (d + 1) by omega]
    · rw [List.append_assoc] at f2
      exact f2
end LQ2
