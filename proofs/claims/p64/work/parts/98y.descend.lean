/-! THE CLASS: descending -/
def Fy (f f' : Nat → Nat → Int32) : Prop := ∀ a x, a ≠ 229 → a ≠ 230 → a ≠ 233 → a ≠ 234 → f' a x = f a x
def NTs (f : Nat → Nat → Int32) (n : Nat) (nt : Nat → Nat) : Prop := ∀ i, i < n → f 233 i = nI (nt i) ∧ nt i ≤ n
def AD (ly : MF) (dl l i : Nat) : Prop := ∃ x, ly l = some x ∧ ly i = some (x + 1) ∧ x + 1 ≤ dl
/-- what was tried led nowhere -/
def IV (E : EF) (n : Nat) (m ly : MF) (dl : Nat) (nt : Nat → Nat) : Prop := ∀ l r, E l r = true → r < nt l → ∃ i, m r = some i ∧ (¬AD ly dl l i ∨ nt i = n)
section MG
variable {h : Hp}
theorem nextTry_ok (S : MgS h) {E : EF} {n l a : Nat} {f : Nat → Nat → Int32} (n30 : n ≤ 30) (h7 : f 227 7 = nI n) (hr : ∀ j, j < 32 → bt (f 228 l) j = E l j) (hl : l < n) (ha : f 233 l = nI a) (han : a ≤ n) : (∃ r, a ≤ r ∧ r < n ∧ E l r = true ∧ (∀ r', a ≤ r' → r' < r → E l r' = false) ∧ CL 119 [.ref 227, .int (nI l)] (wI h f) = some (.ok (.int (nI r)), wI h (u2 f 233 l (nI (r + 1))))) ∨ ((∀ r', a ≤ r' → r' < n → E l r' = false) ∧ CL 119 [.ref 227, .int (nI l)] (wI h f) = some (.ok (.int (-nI 1)), wI h (u2 f 233 l (nI n)))) := by
  have e : CL 119 [.ref 227, .int (nI l)] (wI h f) = RF 119 7 [.ref 227, .int (nI l), .int (nI a)] [] (wI h f) := by
    rw [e119]
    simp (disch := omega) only [S.f, S.c (show l < 30 by omega), ha, cond_true, cond_false, bI_ok, bI_er, bV_ok, bV_er, bR_ok, bR_er, bD_ok, bD_er, bF_ok, bF_er, thr_ap, cl_nI, lt_nI, le_nI, eq_nI, m1_lt, nI_m1, m1_nI, nI_lt_m1, add_nI, sub_nI, addm_nI, z_addm, z_subm, mul_nI, fit1_0, fit1_1, fit2_n, HI_wI, HK_wI, HL_wI, HR_wI, ckK_wI, chI_wI, sI_wI, wI_wI, lz0, lz1, lz2, lz3, lz4, lz5, lz6, lz7, lz8, lz9, lz10, lz12, lz13, lz16, lz17, lz20, lz21, lz23, lz26, lz30, lz32, lz35, lz40, lz45, lz48, lz57, lz58, lz59, lz60, lz61, lz63, lz64, lz97, lz99, lz100, lz110, lz111, lz126, lz129, lz132, lz133, lz166, lz169, lz255, lz999, lz1183, lz1800, Nat.reduceAdd, Nat.reduceLT, Nat.reduceEqDiff, Nat.not_lt_zero, Nat.lt_irrefl, ↓reduceIte, Nat.zero_add, Nat.add_zero, ne_eq, not_true_eq_false, not_false_eq_true, reduceCtorEq]
  rw [e]
  refine lpRes (β := Unit) (n := n) (Q := fun res => (∃ r, a ≤ r ∧ r < n ∧ E l r = true ∧ (∀ r', a ≤ r' → r' < r → E l r' = false) ∧ res = some (.ok (.int (nI r)), wI h (u2 f 233 l (nI (r + 1))))) ∨ ((∀ r', a ≤ r' → r' < n → E l r' = false) ∧ res = some (.ok (.int (-nI 1)), wI h (u2 f 233 l (nI n))))) (F := fun i _ => RF 119 7 [.ref 227, .int (nI l), .int (nI i)] [] (wI h f)) (P := fun i _ => a ≤ i ∧ ∀ r', a ≤ r' → r' < i → E l r' = false) (fun i x hi hP => ?_) (fun x hP => ?_) (k := n - a) (i := a) (x := ()) (by omega) ⟨Nat.le_refl a, fun r' h1 h2 => by omega⟩
  · obtain ⟨hai, hP⟩ := hP
    have hb := hr i (by omega)
    cases hE : E l i with
    | true =>
      left
      left
      refine ⟨i, hai, hi, hE, hP, ?_⟩
      rw [e119_7]
      simp (disch := omega) only [S.f, S.c (show l < 30 by omega), h7, hi, ↓bt_test, hb, hE, Bool.true_eq_false, cond_true, cond_false, bI_ok, bI_er, bV_ok, bV_er, bR_ok, bR_er, bD_ok, bD_er, bF_ok, bF_er, thr_ap, cl_nI, lt_nI, le_nI, eq_nI, m1_lt, nI_m1, m1_nI, nI_lt_m1, add_nI, sub_nI, addm_nI, z_addm, z_subm, mul_nI, fit1_0, fit1_1, fit2_n, HI_wI, HK_wI, HL_wI, HR_wI, ckK_wI, chI_wI, sI_wI, wI_wI, lz0, lz1, lz2, lz3, lz4, lz5, lz6, lz7, lz8, lz9, lz10, lz12, lz13, lz16, lz17, lz20, lz21, lz23, lz26, lz30, lz32, lz35, lz40, lz45, lz48, lz57, lz58, lz59, lz60, lz61, lz63, lz64, lz97, lz99, lz100, lz110, lz111, lz126, lz129, lz132, lz133, lz166, lz169, lz255, lz999, lz1183, lz1800, Nat.reduceAdd, Nat.reduceLT, Nat.reduceEqDiff, Nat.not_lt_zero, Nat.lt_irrefl, ↓reduceIte, Nat.zero_add, Nat.add_zero, ne_eq, not_true_eq_false, not_false_eq_true, reduceCtorEq]
    | false =>
      right
      refine ⟨(), ?_, by omega, fun r' h1 h2 => ?_⟩
      · rw [e119_7]
        simp (disch := omega) only [S.f, S.c (show l < 30 by omega), h7, hi, ↓bt_test, hb, hE, cond_true, cond_false, bI_ok, bI_er, bV_ok, bV_er, bR_ok, bR_er, bD_ok, bD_er, bF_ok, bF_er, thr_ap, cl_nI, lt_nI, le_nI, eq_nI, m1_lt, nI_m1, m1_nI, nI_lt_m1, add_nI, sub_nI, addm_nI, z_addm, z_subm, mul_nI, fit1_0, fit1_1, fit2_n, HI_wI, HK_wI, HL_wI, HR_wI, ckK_wI, chI_wI, sI_wI, wI_wI, lz0, lz1, lz2, lz3, lz4, lz5, lz6, lz7, lz8, lz9, lz10, lz12, lz13, lz16, lz17, lz20, lz21, lz23, lz26, lz30, lz32, lz35, lz40, lz45, lz48, lz57, lz58, lz59, lz60, lz61, lz63, lz64, lz97, lz99, lz100, lz110, lz111, lz126, lz129, lz132, lz133, lz166, lz169, lz255, lz999, lz1183, lz1800, Nat.reduceAdd, Nat.reduceLT, Nat.reduceEqDiff, Nat.not_lt_zero, Nat.lt_irrefl, ↓reduceIte, Nat.zero_add, Nat.add_zero, ne_eq, not_true_eq_false, not_false_eq_true, reduceCtorEq]
      · by_cases q : r' = i
        · rw [q]
          exact hE
        · exact hP r' h1 (by omega)
  · right
    refine ⟨hP.2, ?_⟩
    try dsimp only
    rw [e119_7]
    simp (disch := omega) only [S.f, S.c (show l < 30 by omega), h7, cond_true, cond_false, bI_ok, bI_er, bV_ok, bV_er, bR_ok, bR_er, bD_ok, bD_er, bF_ok, bF_er, thr_ap, cl_nI, lt_nI, le_nI, eq_nI, m1_lt, nI_m1, m1_nI, nI_lt_m1, add_nI, sub_nI, addm_nI, z_addm, z_subm, mul_nI, fit1_0, fit1_1, fit2_n, HI_wI, HK_wI, HL_wI, HR_wI, ckK_wI, chI_wI, sI_wI, wI_wI, lz0, lz1, lz2, lz3, lz4, lz5, lz6, lz7, lz8, lz9, lz10, lz12, lz13, lz16, lz17, lz20, lz21, lz23, lz26, lz30, lz32, lz35, lz40, lz45, lz48, lz57, lz58, lz59, lz60, lz61, lz63, lz64, lz97, lz99, lz100, lz110, lz111, lz126, lz129, lz132, lz133, lz166, lz169, lz255, lz999, lz1183, lz1800, Nat.reduceAdd, Nat.reduceLT, Nat.reduceEqDiff, Nat.not_lt_zero, Nat.lt_irrefl, ↓reduceIte, Nat.zero_add, Nat.add_zero, ne_eq, not_true_eq_false, not_false_eq_true, reduceCtorEq]
def Dq (h : Hp) (E : EF) (n : Nat) (m ly : MF) (dl st : Nat) (f0 : Nat → Nat → Int32) (nt0 : Nat → Nat) (res : Res) : Prop := (∃ m' f' nt', res = some (.ok (.int (nI 1)), wI h f') ∧ Ms f' n m' ∧ won E m m' st ∧ NTs f' n nt' ∧ Fy f0 f') ∨ ∃ f' nt', res = some (.ok (.int (nI 0)), wI h f') ∧ Ms f' n m ∧ NTs f' n nt' ∧ Fy f0 f' ∧ (IV E n m ly dl nt0 → IV E n m ly dl nt' ∧ nt' st = n ∧ ∀ l, l < n → nt0 l = n → nt' l = n)
def ph (n r0 : Nat) (nt : Nat → Nat) : Nat := sumN (fun l => if l = r0 then 0 else 2 * (n - nt l)) n
theorem ph_ud {n r0 l v : Nat} {nt : Nat → Nat} (hl : l < n) (hne : l ≠ r0) (hv : v ≤ n) (hlt : nt l ≤ v) : ph n r0 (ud nt l v) + 2 * (v - nt l) = ph n r0 nt := by
  have := sumN_bump (f := fun x => if x = r0 then 0 else 2 * (n - ud nt l v x)) (g := fun x => if x = r0 then 0 else 2 * (n - nt x)) hl (fun j hj hjl => by
    try dsimp only
    rw [ud_n hjl])
  try dsimp only at this
  rw [if_neg hne, if_neg hne, ud_e] at this
  unfold ph
  omega
theorem ph_0 {n r0 : Nat} {nt : Nat → Nat} (hr : r0 < n) : ph n r0 nt ≤ 2 * n * (n - 1) := by
  have h1 := sumN_bump (f := fun l => if l = r0 then 0 else 2 * (n - nt l)) (g := fun l => if l = r0 then 2 * n else 2 * (n - nt l)) hr (fun j _ hj => by
    try dsimp only
    rw [if_neg hj, if_neg hj])
  try dsimp only at h1
  rw [if_pos rfl, if_pos rfl] at h1
  have h2 := sumN_bd (f := fun l => if l = r0 then 2 * n else 2 * (n - nt l)) (n := n) (b := 2 * n) (fun i _ => by split <;> omega)
  unfold ph
  have h3 : n * (2 * n) = 2 * n * (n - 1) + 2 * n := by
    obtain ⟨k, rfl⟩ : ∃ k, n = k + 1 := ⟨n - 1, by omega⟩
    rw [Nat.add_sub_cancel, Nat.mul_comm (k + 1), Nat.mul_add, Nat.mul_one]
  omega
/-- the way down: its rows, layer by layer -/
def DS (E : EF) (n : Nat) (m ly : MF) (dl st : Nat) (f0 : Nat → Nat → Int32) (nt0 : Nat → Nat) (dp : Nat) (pa : Nat → Nat) (nt rb : Nat → Nat) (g : Nat → Nat → Int32) : Prop := pa 0 = st ∧ (∀ j, j ≤ dp → ly (pa j) = some j ∧ pa j < n ∧ g 234 j = nI (pa j)) ∧ (∀ j, j < dp → ∃ r, m r = some (pa (j + 1)) ∧ m (pa (j + 1)) = some r ∧ rb r = pa j ∧ E (pa j) r = true) ∧ NTs g n nt ∧ (∀ i, i < n → E (rb i) i = true → g 230 i = nI (rb i)) ∧ Fy f0 g ∧ Ms g n m ∧ (∀ i, nt0 i ≤ nt i) ∧ (IV E n m ly dl nt0 → ∀ l r, E l r = true → r < nt l → ∃ i, m r = some i ∧ (¬AD ly dl l i ∨ nt i = n ∨ ∃ j, j ≤ dp ∧ pa j = i))
theorem DS.chain {E : EF} {n : Nat} {m ly : MF} {st dp : Nat} {pa rb : Nat → Nat} (h0 : m st = none) (hp0 : pa 0 = st) (hch : ∀ j, j < dp → ∃ r, m r = some (pa (j + 1)) ∧ m (pa (j + 1)) = some r ∧ rb r = pa j ∧ E (pa j) r = true) : ∀ j, j ≤ dp → ∀ r, rb r = pa j → E (pa j) r = true → Ch E m rb st j r
  | 0, _, r, hr, he => by
    refine ⟨?_, hr.trans hp0, h0⟩
    rw [hr]
    exact he
  | j + 1, hj, r, hr, he => by
    obtain ⟨r', h1, h2, h3, h4⟩ := hch j (by omega)
    refine ⟨by rw [hr]; exact he, r', by rw [hr]; exact h2, DS.chain (n := n) (ly := ly) h0 hp0 hch j (by omega) r' h3 h4⟩
theorem descend_go (S : MgS h) {E : EF} {n st dl r0 : Nat} {m ly : MF} {f0 : Nat → Nat → Int32} {nt0 : Nat → Nat} (L : LR E n) (n30 : n ≤ 30) (h7 : f0 227 7 = nI n) (h8 : f0 227 8 = nI dl) (hdl : dl < 30) (hr : ∀ i j, i < n → j < 32 → bt (f0 228 i) j = E i j) (hly : ∀ i, i < n → f0 232 i = oI (ly i)) (hl30 : ∀ i d, ly i = some d → d < 30) (hm : MT E m) (h0 : m st = none) (hr0 : E st r0 = true) : ∀ (K dp t : Nat) (pa nt rb : Nat → Nat) (g : Nat → Nat → Int32) (v5 v6 v7 : Value), DS E n m ly dl st f0 nt0 dp pa nt rb g → ph n r0 nt + dp + 1 ≤ K → t + K ≤ 1800 → Dq h E n m ly dl st f0 nt0 (RF 120 11 [.ref 227, .int (nI st), .int (nI dp), .int (nI t), v5, v6, v7] [] (wI h g)) := by
  intro K
  induction K with
  | zero =>
    intro dp t pa nt rb g v5 v6 v7 H hK ht
    omega
  | succ K ih =>
    intro dp t pa nt rb g v5 v6 v7 H hK ht
    obtain ⟨a1, a2, a3, a4, a5, a6, a7, a8, a9⟩ := H
    obtain ⟨b1, b2, b3⟩ := a2 dp (Nat.le_refl dp)
    have hdp30 := hl30 _ _ b1
    have g7 : g 227 7 = nI n := (a6 227 7 (by decide) (by decide) (by decide) (by decide)).trans h7
    have g8 : g 227 8 = nI dl := (a6 227 8 (by decide) (by decide) (by decide) (by decide)).trans h8
    have gr : ∀ j, j < 32 → bt (g 228 (pa dp)) j = E (pa dp) j := fun j hj => by
      rw [a6 228 (pa dp) (by decide) (by decide) (by decide) (by decide)]
      exact hr (pa dp) j b2 hj
    have gly : ∀ i, i < n → g 232 i = oI (ly i) := fun i hi => (a6 232 i (by decide) (by decide) (by decide) (by decide)).trans (hly i hi)
    have glp : g 232 (pa dp) = nI dp := by rw [gly _ b2, b1]; rfl
    have hnt := a4 (pa dp) b2
    generalize hlp : pa dp = l at *
    have hne0 : l ≠ r0 := fun z => by
      have hed : ∃ r, E l r = true := by
        cases dp with
        | zero => exact ⟨r0, by rw [← hlp, a1]; exact hr0⟩
        | succ dp =>
          obtain ⟨r', c1, c2, c3, c4⟩ := a3 dp (by omega)
          rw [hlp] at c2
          rcases (hm _ _ c2).2 with y | y
          · exact ⟨r', y⟩
          · have := L.2 r' l (pa dp) y
            rw [c4] at this
            cases this
      obtain ⟨r, hr'⟩ := hed
      have := L.2 l r st hr'
      rw [z, hr0] at this
      cases this
    rcases nextTry_ok S (E := E) n30 g7 gr b2 hnt.1 hnt.2 with ⟨r, c1, c2, c3, c4, c5⟩ | ⟨c4, c5⟩
    · have hph := ph_ud (r0 := r0) (l := l) (v := r + 1) b2 hne0 (by omega) (show nt l ≤ r + 1 by omega)
      have hn1 : NTs (u2 g 233 l (nI (r + 1))) n (ud nt l (r + 1)) := fun i hi => by
        by_cases q : i = l
        · rw [q, w2_eq, ud_e]
          exact ⟨rfl, by omega⟩
        · rw [w2_ne (by omega), ud_n q]
          exact a4 i hi
      have hmono : ∀ i, nt0 i ≤ ud nt l (r + 1) i := fun i => by
        by_cases q : i = l
        · rw [q, ud_e]
          have := a8 l
          omega
        · rw [ud_n q]
          exact a8 i
      have gmr : u2 g 233 l (nI (r + 1)) 229 r = oI (m r) := (w2_ne (by omega)).trans (a7 r c2)
      cases hmr : m r with
      | none =>
        rw [hmr] at gmr
        have gmr : u2 g 233 l (nI (r + 1)) 229 r = -nI 1 := gmr
        have nrs : ∀ j, j < dp → ∀ r', m r' = some (pa (j + 1)) → r' ≠ r := fun j _ r' z y => by
          rw [y, hmr] at z
          cases z
        have hC := DS.chain (n := n) (ly := ly) (rb := ud rb r l) h0 a1 (fun j hj => by
          obtain ⟨r', y1, y2, y3, y4⟩ := a3 j hj
          exact ⟨r', y1, y2, by rw [ud_n (nrs j hj r' y1)]; exact y3, y4⟩) dp (Nat.le_refl dp) r (by rw [ud_e, hlp]) (by rw [hlp]; exact c3)
        have hlen := hC.len L
        obtain ⟨m', f', k1, k2, k3, k4⟩ := flipC_ok S L n30 r dp m r 0 .null .null (u2 (u2 g 233 l (nI (r + 1))) 230 r (nI l)) (by rw [w2_ne (by omega), w2_ne (by omega)]; exact g7) (fun i hi => by rw [w2_ne (by omega), w2_ne (by omega)]; exact a7 i hi) (fun i hi hie => by
          by_cases q : i = r
          · rw [q, w2_eq, ud_e]
          · rw [w2_ne (by omega), w2_ne (by omega), ud_n q]
            rw [ud_n q] at hie
            exact a5 i hi hie) (hm.d hmr) hC (by omega)
        left
        refine ⟨m', f', ud nt l (r + 1), ?_, k2, ⟨k3.1, k3.2.1, k3.2.2.1, fun F G hc => k3.2.2.2 F G hc (fun hG => by
          obtain ⟨i, y1, _⟩ := hc.2 r hG
          rw [hmr] at y1
          cases y1)⟩, fun i hi => ?_, fun a x q1 q2 q3 q4 => ?_⟩
        · have hcall : CL 113 [.ref 227, .int (nI r)] (wI h (u2 (u2 g 233 l (nI (r + 1))) 230 r (nI l))) = some (.ok .null, wI h f') := by
            rw [e113]
            exact k1
          rw [e120_11]
          simp (disch := omega) only [S.f, S.c (show dp < 30 by omega), S.c (show r < 30 by omega), show t < 1800 by omega, neg_nI, b3, c5, gmr, m1_lt0, hcall, cond_true, cond_false, bI_ok, bI_er, bV_ok, bV_er, bR_ok, bR_er, bD_ok, bD_er, bF_ok, bF_er, thr_ap, cl_nI, lt_nI, le_nI, eq_nI, m1_lt, nI_m1, m1_nI, nI_lt_m1, add_nI, sub_nI, addm_nI, z_addm, z_subm, mul_nI, fit1_0, fit1_1, fit2_n, HI_wI, HK_wI, HL_wI, HR_wI, ckK_wI, chI_wI, sI_wI, wI_wI, lz0, lz1, lz2, lz3, lz4, lz5, lz6, lz7, lz8, lz9, lz10, lz12, lz13, lz16, lz17, lz20, lz21, lz23, lz26, lz30, lz32, lz35, lz40, lz45, lz48, lz57, lz58, lz59, lz60, lz61, lz63, lz64, lz97, lz99, lz100, lz110, lz111, lz126, lz129, lz132, lz133, lz166, lz169, lz255, lz999, lz1183, lz1800, Nat.reduceAdd, Nat.reduceLT, Nat.reduceEqDiff, Nat.not_lt_zero, Nat.lt_irrefl, ↓reduceIte, Nat.zero_add, Nat.add_zero, ne_eq, not_true_eq_false, not_false_eq_true, reduceCtorEq]
        · rw [k4 233 i (by decide), w2_ne (by omega)]
          exact hn1 i hi
        · rw [k4 a x q1, w2_ne (by omega), w2_ne (by omega)]
          exact a6 a x q1 q2 q3 q4
      | some i =>
        rw [hmr] at gmr
        have gmr : u2 g 233 l (nI (r + 1)) 229 r = nI i := gmr
        have hmi := hm r i hmr
        have hin : i < n := by
          rcases hmi.2 with y | y
          · exact (L.1 _ _ y).2
          · exact (L.1 _ _ y).1
        have gli : u2 g 233 l (nI (r + 1)) 232 i = oI (ly i) := (w2_ne (by omega)).trans (gly i hin)
        have gll : u2 g 233 l (nI (r + 1)) 232 l = nI dp := (w2_ne (by omega)).trans glp
        have gl8 : u2 g 233 l (nI (r + 1)) 227 8 = nI dl := (w2_ne (by omega)).trans g8
        have hold : IV E n m ly dl nt0 → ∀ l' r', E l' r' = true → r' < ud nt l (r + 1) l' → ¬(l' = l ∧ r' = r) → ∃ i', m r' = some i' ∧ (¬AD ly dl l' i' ∨ ud nt l (r + 1) i' = n ∨ ∃ j, j ≤ dp ∧ pa j = i') := fun hIV l' r' he' hlt' hne' => by
          have hlt : r' < nt l' := by
            by_cases q : l' = l
            · subst q
              rw [ud_e] at hlt'
              by_cases q2 : r' < nt l'
              · exact q2
              · have := c4 r' (by omega) (by omega)
                rw [he'] at this
                cases this
            · rw [ud_n q] at hlt'
              exact hlt'
          obtain ⟨i', y1, y2⟩ := a9 hIV l' r' he' hlt
          refine ⟨i', y1, ?_⟩
          rcases y2 with y2 | y2 | y2
          · exact .inl y2
          · by_cases q : i' = l
            · exact .inr (.inr ⟨dp, Nat.le_refl dp, by rw [hlp, q]⟩)
            · exact .inr (.inl (by rw [ud_n q]; exact y2))
          · exact .inr (.inr y2)
        by_cases hAD : AD ly dl l i
        · obtain ⟨x, x1, x2, x3⟩ := hAD
          rw [b1] at x1
          cases x1
          rw [x2] at gli
          have gli : u2 g 233 l (nI (r + 1)) 232 i = nI (dp + 1) := gli
          have := hl30 _ _ x2
          have hgo : RF 120 11 [.ref 227, .int (nI st), .int (nI dp), .int (nI t), v5, v6, v7] [] (wI h g) = RF 120 11 [.ref 227, .int (nI st), .int (nI (dp + 1)), .int (nI (t + 1)), .int (nI l), .int (nI r), .int (nI i)] [] (wI h (u2 (u2 (u2 g 233 l (nI (r + 1))) 230 r (nI l)) 234 (dp + 1) (nI i))) := by
            rw [e120_11]
            simp (disch := omega) only [S.f, S.c (show dp < 30 by omega), S.c (show dp + 1 < 30 by omega), S.c (show r < 30 by omega), S.c (show i < 30 by omega), S.c (show l < 30 by omega), show t < 1800 by omega, neg_nI, b3, c5, gmr, gli, gll, gl8, show ¬(dl < dp + 1) by omega, show dp + 1 < 30 by omega, cond_true, cond_false, bI_ok, bI_er, bV_ok, bV_er, bR_ok, bR_er, bD_ok, bD_er, bF_ok, bF_er, thr_ap, cl_nI, lt_nI, le_nI, eq_nI, m1_lt, nI_m1, m1_nI, nI_lt_m1, add_nI, sub_nI, addm_nI, z_addm, z_subm, mul_nI, fit1_0, fit1_1, fit2_n, HI_wI, HK_wI, HL_wI, HR_wI, ckK_wI, chI_wI, sI_wI, wI_wI, lz0, lz1, lz2, lz3, lz4, lz5, lz6, lz7, lz8, lz9, lz10, lz12, lz13, lz16, lz17, lz20, lz21, lz23, lz26, lz30, lz32, lz35, lz40, lz45, lz48, lz57, lz58, lz59, lz60, lz61, lz63, lz64, lz97, lz99, lz100, lz110, lz111, lz126, lz129, lz132, lz133, lz166, lz169, lz255, lz999, lz1183, lz1800, Nat.reduceAdd, Nat.reduceLT, Nat.reduceEqDiff, Nat.not_lt_zero, Nat.lt_irrefl, ↓reduceIte, Nat.zero_add, Nat.add_zero, ne_eq, not_true_eq_false, not_false_eq_true, reduceCtorEq]
          rw [hgo]
          refine ih (dp + 1) (t + 1) (ud pa (dp + 1) i) (ud nt l (r + 1)) (ud rb r l) _ _ _ _ ⟨by rw [ud_n (by omega)]; exact a1, fun j hj => ?_, fun j hj => ?_, fun j hj => ?_, fun j hj hje => ?_, fun a x q1 q2 q3 q4 => ?_, fun j hj => ?_, hmono, fun hIV l' r' he' hlt' => ?_⟩ (by omega) (by omega)
          · by_cases q : j = dp + 1
            · rw [q, ud_e, w2_eq]
              exact ⟨x2, hin, rfl⟩
            · rw [ud_n q, w2_ne (by omega), w2_ne (by omega), w2_ne (by omega)]
              exact a2 j (by omega)
          · by_cases q : j = dp
            · rw [q, ud_e, ud_n (show dp ≠ dp + 1 by omega), hlp]
              exact ⟨r, hmr, hmi.1, ud_e _ _ _, c3⟩
            · obtain ⟨r', y1, y2, y3, y4⟩ := a3 j (by omega)
              have nr : r' ≠ r := fun z => by
                rw [z, hmr] at y1
                cases y1
                have := (a2 (j + 1) (by omega)).1
                rw [x2] at this
                cases this
                omega
              rw [ud_n (show j + 1 ≠ dp + 1 by omega), ud_n (show j ≠ dp + 1 by omega)]
              exact ⟨r', y1, y2, by rw [ud_n nr]; exact y3, y4⟩
          · rw [w2_ne (by omega), w2_ne (by omega)]
            exact hn1 j hj
          · by_cases q : j = r
            · rw [q, w2_ne (by omega), w2_eq, ud_e]
            · rw [w2_ne (by omega), w2_ne (by omega), w2_ne (by omega), ud_n q]
              rw [ud_n q] at hje
              exact a5 j hj hje
          · rw [w2_ne (by omega), w2_ne (by omega), w2_ne (by omega)]
            exact a6 a x q1 q2 q3 q4
          · rw [w2_ne (by omega), w2_ne (by omega), w2_ne (by omega)]
            exact a7 j hj
          · by_cases q : l' = l ∧ r' = r
            · exact ⟨i, by rw [q.2]; exact hmr, .inr (.inr ⟨dp + 1, Nat.le_refl _, ud_e _ _ _⟩)⟩
            · obtain ⟨i', y1, y2⟩ := hold hIV l' r' he' hlt' q
              refine ⟨i', y1, ?_⟩
              rcases y2 with y2 | y2 | ⟨j, j1, j2⟩
              · exact .inl y2
              · exact .inr (.inl y2)
              · exact .inr (.inr ⟨j, by omega, by rw [ud_n (by omega)]; exact j2⟩)
        · have hgo : RF 120 11 [.ref 227, .int (nI st), .int (nI dp), .int (nI t), v5, v6, v7] [] (wI h g) = RF 120 11 [.ref 227, .int (nI st), .int (nI dp), .int (nI (t + 1)), .int (nI l), .int (nI r), .int (nI i)] [] (wI h (u2 g 233 l (nI (r + 1)))) := by
            rw [e120_11]
            cases hli : ly i with
            | none =>
              rw [hli] at gli
              have gli : u2 g 233 l (nI (r + 1)) 232 i = -nI 1 := gli
              simp (disch := omega) only [S.f, S.c (show dp < 30 by omega), S.c (show r < 30 by omega), S.c (show i < 30 by omega), S.c (show l < 30 by omega), show t < 1800 by omega, neg_nI, b3, c5, gmr, gli, gll, gl8, cond_true, cond_false, bI_ok, bI_er, bV_ok, bV_er, bR_ok, bR_er, bD_ok, bD_er, bF_ok, bF_er, thr_ap, cl_nI, lt_nI, le_nI, eq_nI, m1_lt, nI_m1, m1_nI, nI_lt_m1, add_nI, sub_nI, addm_nI, z_addm, z_subm, mul_nI, fit1_0, fit1_1, fit2_n, HI_wI, HK_wI, HL_wI, HR_wI, ckK_wI, chI_wI, sI_wI, wI_wI, lz0, lz1, lz2, lz3, lz4, lz5, lz6, lz7, lz8, lz9, lz10, lz12, lz13, lz16, lz17, lz20, lz21, lz23, lz26, lz30, lz32, lz35, lz40, lz45, lz48, lz57, lz58, lz59, lz60, lz61, lz63, lz64, lz97, lz99, lz100, lz110, lz111, lz126, lz129, lz132, lz133, lz166, lz169, lz255, lz999, lz1183, lz1800, Nat.reduceAdd, Nat.reduceLT, Nat.reduceEqDiff, Nat.not_lt_zero, Nat.lt_irrefl, ↓reduceIte, Nat.zero_add, Nat.add_zero, ne_eq, not_true_eq_false, not_false_eq_true, reduceCtorEq]
            | some d =>
              rw [hli] at gli
              have gli : u2 g 233 l (nI (r + 1)) 232 i = nI d := gli
              have := hl30 _ _ hli
              by_cases q : d = dp + 1
              · have q2 : dl < dp + 1 := by
                  by_cases z : dp + 1 ≤ dl
                  · exact absurd ⟨dp, b1, by rw [hli, q], z⟩ hAD
                  · omega
                subst q
                simp (disch := omega) only [S.f, S.c (show dp < 30 by omega), S.c (show r < 30 by omega), S.c (show i < 30 by omega), S.c (show l < 30 by omega), show t < 1800 by omega, neg_nI, b3, c5, gmr, gli, gll, gl8, q2, cond_true, cond_false, bI_ok, bI_er, bV_ok, bV_er, bR_ok, bR_er, bD_ok, bD_er, bF_ok, bF_er, thr_ap, cl_nI, lt_nI, le_nI, eq_nI, m1_lt, nI_m1, m1_nI, nI_lt_m1, add_nI, sub_nI, addm_nI, z_addm, z_subm, mul_nI, fit1_0, fit1_1, fit2_n, HI_wI, HK_wI, HL_wI, HR_wI, ckK_wI, chI_wI, sI_wI, wI_wI, lz0, lz1, lz2, lz3, lz4, lz5, lz6, lz7, lz8, lz9, lz10, lz12, lz13, lz16, lz17, lz20, lz21, lz23, lz26, lz30, lz32, lz35, lz40, lz45, lz48, lz57, lz58, lz59, lz60, lz61, lz63, lz64, lz97, lz99, lz100, lz110, lz111, lz126, lz129, lz132, lz133, lz166, lz169, lz255, lz999, lz1183, lz1800, Nat.reduceAdd, Nat.reduceLT, Nat.reduceEqDiff, Nat.not_lt_zero, Nat.lt_irrefl, ↓reduceIte, Nat.zero_add, Nat.add_zero, ne_eq, not_true_eq_false, not_false_eq_true, reduceCtorEq]
              · simp (disch := omega) only [S.f, S.c (show dp < 30 by omega), S.c (show r < 30 by omega), S.c (show i < 30 by omega), S.c (show l < 30 by omega), show t < 1800 by omega, neg_nI, b3, c5, gmr, gli, gll, gl8, q, cond_true, cond_false, bI_ok, bI_er, bV_ok, bV_er, bR_ok, bR_er, bD_ok, bD_er, bF_ok, bF_er, thr_ap, cl_nI, lt_nI, le_nI, eq_nI, m1_lt, nI_m1, m1_nI, nI_lt_m1, add_nI, sub_nI, addm_nI, z_addm, z_subm, mul_nI, fit1_0, fit1_1, fit2_n, HI_wI, HK_wI, HL_wI, HR_wI, ckK_wI, chI_wI, sI_wI, wI_wI, lz0, lz1, lz2, lz3, lz4, lz5, lz6, lz7, lz8, lz9, lz10, lz12, lz13, lz16, lz17, lz20, lz21, lz23, lz26, lz30, lz32, lz35, lz40, lz45, lz48, lz57, lz58, lz59, lz60, lz61, lz63, lz64, lz97, lz99, lz100, lz110, lz111, lz126, lz129, lz132, lz133, lz166, lz169, lz255, lz999, lz1183, lz1800, Nat.reduceAdd, Nat.reduceLT, Nat.reduceEqDiff, Nat.not_lt_zero, Nat.lt_irrefl, ↓reduceIte, Nat.zero_add, Nat.add_zero, ne_eq, not_true_eq_false, not_false_eq_true, reduceCtorEq]
          rw [hgo]
          refine ih dp (t + 1) pa (ud nt l (r + 1)) rb _ _ _ _ ⟨a1, fun j hj => ?_, a3, hn1, fun j hj hje => ?_, fun a x q1 q2 q3 q4 => ?_, fun j hj => ?_, hmono, fun hIV l' r' he' hlt' => ?_⟩ (by omega) (by omega)
          · rw [w2_ne (by omega)]
            exact a2 j hj
          · rw [w2_ne (by omega)]
            exact a5 j hj hje
          · rw [w2_ne (by omega)]
            exact a6 a x q1 q2 q3 q4
          · rw [w2_ne (by omega)]
            exact a7 j hj
          · by_cases q : l' = l ∧ r' = r
            · exact ⟨i, by rw [q.2]; exact hmr, .inl (by rw [q.1]; exact hAD)⟩
            · exact hold hIV l' r' he' hlt' q
    · have hph := ph_ud (r0 := r0) (l := l) (v := n) b2 hne0 (Nat.le_refl n) hnt.2
      have hn1 : NTs (u2 g 233 l (nI n)) n (ud nt l n) := fun i hi => by
        by_cases q : i = l
        · rw [q, w2_eq, ud_e]
          exact ⟨rfl, Nat.le_refl n⟩
        · rw [w2_ne (by omega), ud_n q]
          exact a4 i hi
      have hmono : ∀ i, nt0 i ≤ ud nt l n i := fun i => by
        by_cases q : i = l
        · rw [q, ud_e]
          have := a8 l
          have := hnt.2
          omega
        · rw [ud_n q]
          exact a8 i
      have hold : IV E n m ly dl nt0 → ∀ l' r', E l' r' = true → r' < ud nt l n l' → ∃ i', m r' = some i' ∧ (¬AD ly dl l' i' ∨ ud nt l n i' = n ∨ ∃ j, j < dp ∧ pa j = i') := fun hIV l' r' he' hlt' => by
        have hlt : r' < nt l' := by
          by_cases q : l' = l
          · subst q
            rw [ud_e] at hlt'
            by_cases q2 : r' < nt l'
            · exact q2
            · have := c4 r' (by omega) (by omega)
              rw [he'] at this
              cases this
          · rw [ud_n q] at hlt'
            exact hlt'
        obtain ⟨i', y1, y2⟩ := a9 hIV l' r' he' hlt
        refine ⟨i', y1, ?_⟩
        by_cases q : i' = l
        · exact .inr (.inl (by rw [q, ud_e]))
        · rcases y2 with y2 | y2 | ⟨j, j1, j2⟩
          · exact .inl y2
          · exact .inr (.inl (by rw [ud_n q]; exact y2))
          · refine .inr (.inr ⟨j, ?_, j2⟩)
            by_cases z : j = dp
            · rw [z, hlp] at j2
              exact absurd j2.symm q
            · omega
      cases dp with
      | zero =>
        right
        have hst : l = st := hlp.symm.trans a1
        refine ⟨u2 g 233 l (nI n), ud nt l n, ?_, fun i hi => by rw [w2_ne (by omega)]; exact a7 i hi, hn1, fun a x q1 q2 q3 q4 => by rw [w2_ne (by omega)]; exact a6 a x q1 q2 q3 q4, fun hIV => ⟨fun l' r' he' hlt' => ?_, by rw [← hst, ud_e], fun i hi hi2 => ?_⟩⟩
        · rw [e120_11]
          simp (disch := omega) only [S.f, S.c (show 0 < 30 by omega), show t < 1800 by omega, neg_nI, b3, c5, m1_lt0, cond_true, cond_false, bI_ok, bI_er, bV_ok, bV_er, bR_ok, bR_er, bD_ok, bD_er, bF_ok, bF_er, thr_ap, cl_nI, lt_nI, le_nI, eq_nI, m1_lt, nI_m1, m1_nI, nI_lt_m1, add_nI, sub_nI, addm_nI, z_addm, z_subm, mul_nI, fit1_0, fit1_1, fit2_n, HI_wI, HK_wI, HL_wI, HR_wI, ckK_wI, chI_wI, sI_wI, wI_wI, lz0, lz1, lz2, lz3, lz4, lz5, lz6, lz7, lz8, lz9, lz10, lz12, lz13, lz16, lz17, lz20, lz21, lz23, lz26, lz30, lz32, lz35, lz40, lz45, lz48, lz57, lz58, lz59, lz60, lz61, lz63, lz64, lz97, lz99, lz100, lz110, lz111, lz126, lz129, lz132, lz133, lz166, lz169, lz255, lz999, lz1183, lz1800, Nat.reduceAdd, Nat.reduceLT, Nat.reduceEqDiff, Nat.not_lt_zero, Nat.lt_irrefl, ↓reduceIte, Nat.zero_add, Nat.add_zero, ne_eq, not_true_eq_false, not_false_eq_true, reduceCtorEq]
          rw [e120_11]
          by_cases q : t + 1 < 1800
          · have z : ∀ x : Int32, (x < 1800) = (x < nI 1800) := fun _ => rfl
            simp (disch := omega) only [q, m1_lt0, cond_true, cond_false, bI_ok, bI_er, bV_ok, bV_er, bR_ok, bR_er, bD_ok, bD_er, bF_ok, bF_er, thr_ap, cl_nI, lt_nI, le_nI, eq_nI, m1_lt, nI_m1, m1_nI, nI_lt_m1, add_nI, sub_nI, addm_nI, z_addm, z_subm, mul_nI, fit1_0, fit1_1, fit2_n, HI_wI, HK_wI, HL_wI, HR_wI, ckK_wI, chI_wI, sI_wI, wI_wI, lz0, lz1, lz2, lz3, lz4, lz5, lz6, lz7, lz8, lz9, lz10, lz12, lz13, lz16, lz17, lz20, lz21, lz23, lz26, lz30, lz32, lz35, lz40, lz45, lz48, lz57, lz58, lz59, lz60, lz61, lz63, lz64, lz97, lz99, lz100, lz110, lz111, lz126, lz129, lz132, lz133, lz166, lz169, lz255, lz999, lz1183, lz1800, Nat.reduceAdd, Nat.reduceLT, Nat.reduceEqDiff, Nat.not_lt_zero, Nat.lt_irrefl, ↓reduceIte, Nat.zero_add, Nat.add_zero, ne_eq, not_true_eq_false, not_false_eq_true, reduceCtorEq]
          · simp (disch := omega) only [q, m1_lt0, cond_true, cond_false, bI_ok, bI_er, bV_ok, bV_er, bR_ok, bR_er, bD_ok, bD_er, bF_ok, bF_er, thr_ap, cl_nI, lt_nI, le_nI, eq_nI, m1_lt, nI_m1, m1_nI, nI_lt_m1, add_nI, sub_nI, addm_nI, z_addm, z_subm, mul_nI, fit1_0, fit1_1, fit2_n, HI_wI, HK_wI, HL_wI, HR_wI, ckK_wI, chI_wI, sI_wI, wI_wI, lz0, lz1, lz2, lz3, lz4, lz5, lz6, lz7, lz8, lz9, lz10, lz12, lz13, lz16, lz17, lz20, lz21, lz23, lz26, lz30, lz32, lz35, lz40, lz45, lz48, lz57, lz58, lz59, lz60, lz61, lz63, lz64, lz97, lz99, lz100, lz110, lz111, lz126, lz129, lz132, lz133, lz166, lz169, lz255, lz999, lz1183, lz1800, Nat.reduceAdd, Nat.reduceLT, Nat.reduceEqDiff, Nat.not_lt_zero, Nat.lt_irrefl, ↓reduceIte, Nat.zero_add, Nat.add_zero, ne_eq, not_true_eq_false, not_false_eq_true, reduceCtorEq]
        · obtain ⟨i', y1, y2⟩ := hold hIV l' r' he' hlt'
          refine ⟨i', y1, ?_⟩
          rcases y2 with y2 | y2 | ⟨j, j1, j2⟩
          · exact .inl y2
          · exact .inr y2
          · exact absurd j1 (Nat.not_lt_zero j)
        · have h1 := hmono i
          have h2 := (hn1 i hi).2
          omega
      | succ dp =>
        have hgo : RF 120 11 [.ref 227, .int (nI st), .int (nI (dp + 1)), .int (nI t), v5, v6, v7] [] (wI h g) = RF 120 11 [.ref 227, .int (nI st), .int (nI dp), .int (nI (t + 1)), .int (nI l), .int (-nI 1), v7] [] (wI h (u2 g 233 l (nI n))) := by
          rw [e120_11]
          simp (disch := omega) only [S.f, S.c (show dp + 1 < 30 by omega), show t < 1800 by omega, neg_nI, b3, c5, m1_lt0, Nat.add_sub_cancel, cond_true, cond_false, bI_ok, bI_er, bV_ok, bV_er, bR_ok, bR_er, bD_ok, bD_er, bF_ok, bF_er, thr_ap, cl_nI, lt_nI, le_nI, eq_nI, m1_lt, nI_m1, m1_nI, nI_lt_m1, add_nI, sub_nI, addm_nI, z_addm, z_subm, mul_nI, fit1_0, fit1_1, fit2_n, HI_wI, HK_wI, HL_wI, HR_wI, ckK_wI, chI_wI, sI_wI, wI_wI, lz0, lz1, lz2, lz3, lz4, lz5, lz6, lz7, lz8, lz9, lz10, lz12, lz13, lz16, lz17, lz20, lz21, lz23, lz26, lz30, lz32, lz35, lz40, lz45, lz48, lz57, lz58, lz59, lz60, lz61, lz63, lz64, lz97, lz99, lz100, lz110, lz111, lz126, lz129, lz132, lz133, lz166, lz169, lz255, lz999, lz1183, lz1800, Nat.reduceAdd, Nat.reduceLT, Nat.reduceEqDiff, Nat.not_lt_zero, Nat.lt_irrefl, ↓reduceIte, Nat.zero_add, Nat.add_zero, ne_eq, not_true_eq_false, not_false_eq_true, reduceCtorEq]
        rw [hgo]
        refine ih dp (t + 1) pa (ud nt l n) rb _ _ _ _ ⟨a1, fun j hj => ?_, fun j hj => a3 j (by omega), hn1, fun j hj hje => ?_, fun a x q1 q2 q3 q4 => ?_, fun j hj => ?_, hmono, fun hIV l' r' he' hlt' => ?_⟩ (by omega) (by omega)
        · rw [w2_ne (by omega)]
          exact a2 j (by omega)
        · rw [w2_ne (by omega)]
          exact a5 j hj hje
        · rw [w2_ne (by omega)]
          exact a6 a x q1 q2 q3 q4
        · rw [w2_ne (by omega)]
          exact a7 j hj
        · obtain ⟨i', y1, y2⟩ := hold hIV l' r' he' hlt'
          refine ⟨i', y1, ?_⟩
          rcases y2 with y2 | y2 | ⟨j, j1, j2⟩
          · exact .inl y2
          · exact .inr (.inl y2)
          · exact .inr (.inr ⟨j, by omega, j2⟩)
theorem descend_ok (S : MgS h) {E : EF} {n st dl : Nat} {m ly : MF} {f0 : Nat → Nat → Int32} {nt0 : Nat → Nat} (L : LR E n) (n30 : n ≤ 30) (h7 : f0 227 7 = nI n) (h8 : f0 227 8 = nI dl) (hdl : dl < 30) (hr : ∀ i j, i < n → j < 32 → bt (f0 228 i) j = E i j) (hly : ∀ i, i < n → f0 232 i = oI (ly i)) (hl30 : ∀ i d, ly i = some d → d < 30) (hM : Ms f0 n m) (hm : MT E m) (hN : NTs f0 n nt0) (h0 : m st = none) (hst : ly st = some 0) (hed : ∃ j, E st j = true) : Dq h E n m ly dl st f0 nt0 (CL 120 [.ref 227, .int (nI st)] (wI h f0)) := by
  obtain ⟨r0, hr0⟩ := hed
  obtain ⟨s1, s2⟩ := L.1 _ _ hr0
  have e : CL 120 [.ref 227, .int (nI st)] (wI h f0) = RF 120 11 [.ref 227, .int (nI st), .int (nI 0), .int (nI 0), .null, .null, .null] [] (wI h (u2 f0 234 0 (nI st))) := by
    rw [e120]
    simp (disch := omega) only [S.f, S.c (show 0 < 30 by omega), cond_true, cond_false, bI_ok, bI_er, bV_ok, bV_er, bR_ok, bR_er, bD_ok, bD_er, bF_ok, bF_er, thr_ap, cl_nI, lt_nI, le_nI, eq_nI, m1_lt, nI_m1, m1_nI, nI_lt_m1, add_nI, sub_nI, addm_nI, z_addm, z_subm, mul_nI, fit1_0, fit1_1, fit2_n, HI_wI, HK_wI, HL_wI, HR_wI, ckK_wI, chI_wI, sI_wI, wI_wI, lz0, lz1, lz2, lz3, lz4, lz5, lz6, lz7, lz8, lz9, lz10, lz12, lz13, lz16, lz17, lz20, lz21, lz23, lz26, lz30, lz32, lz35, lz40, lz45, lz48, lz57, lz58, lz59, lz60, lz61, lz63, lz64, lz97, lz99, lz100, lz110, lz111, lz126, lz129, lz132, lz133, lz166, lz169, lz255, lz999, lz1183, lz1800, Nat.reduceAdd, Nat.reduceLT, Nat.reduceEqDiff, Nat.not_lt_zero, Nat.lt_irrefl, ↓reduceIte, Nat.zero_add, Nat.add_zero, ne_eq, not_true_eq_false, not_false_eq_true, reduceCtorEq]
  rw [e]
  have hp0 := ph_0 (r0 := r0) (nt := nt0) s2
  have hb : 2 * n * (n - 1) ≤ 1740 := by
    have : 2 * n * (n - 1) ≤ 60 * 29 := Nat.mul_le_mul (by omega) (by omega)
    omega
  refine descend_go S L n30 h7 h8 hdl hr hly hl30 hm h0 hr0 1800 0 0 (fun _ => st) nt0 (fun i => i) _ _ _ _ ⟨rfl, fun j hj => ?_, fun j hj => absurd hj (Nat.not_lt_zero j), fun i hi => ?_, fun i hi hie => absurd rfl (L.ne hie), fun a x q1 q2 q3 q4 => w2_ne (by omega), fun i hi => ?_, fun i => Nat.le_refl _, fun hIV l r he hlt => ?_⟩ (by omega) (by omega)
  · rw [show j = 0 by omega]
    exact ⟨hst, s1, w2_eq _ _ _ _⟩
  · rw [w2_ne (by omega)]
    exact hN i hi
  · rw [w2_ne (by omega)]
    exact hM i hi
  · obtain ⟨i, y1, y2⟩ := hIV l r he hlt
    refine ⟨i, y1, ?_⟩
    rcases y2 with y2 | y2
    · exact .inl y2
    · exact .inr (.inl y2)
end MG
