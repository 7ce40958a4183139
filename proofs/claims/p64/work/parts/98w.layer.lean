/-! THE CLASS: layers -/
theorem bt_zero (x : Int32) (h : ∀ j, j < 32 → bt x j = false) : x = nI 0 := by
  apply t32_inj
  show t32 x = 0
  apply Nat.eq_of_testBit_eq
  intro i
  rw [Nat.zero_testBit]
  by_cases q : i < 32
  · exact h i q
  · have h1 : t32 x < 2 ^ 32 := t32_lt x
    have h2 : 2 ^ 32 ≤ 2 ^ i := Nat.pow_le_pow_right (show 0 < 2 by decide) (show 32 ≤ i by omega)
    exact Nat.testBit_lt_two_pow (Nat.lt_of_lt_of_le h1 h2)
theorem bt_nz (x : Int32) {j : Nat} (h : bt x j = true) : ¬(x = nI 0) := fun q => by
  rw [q, bt_0] at h
  cases h
/-- layers of left rows, and the last one, from which a free row is reached -/
def LB (E : EF) (m : MF) (ly : MF) (ll : Option Nat) : Prop := ((∀ i, ly i = some 0 → m i = none ∧ ∃ j, E i j = true) ∧ ∀ i j, E i j = true → m i = none → ly i = some 0) ∧ (∀ i d, ly i = some (d + 1) → ∃ l r, ly l = some d ∧ E l r = true ∧ m r = some i) ∧ ∀ d, ll = some d → ∃ l r, ly l = some d ∧ E l r = true ∧ m r = none
def lq (E : EF) (m : MF) (ly : MF) (ll : Option Nat) (l r : Nat) : Prop := E l r = true → (m r = none ∧ ll.isSome = true) ∨ ∃ i, m r = some i ∧ (ly i).isSome = true
def LQ (E : EF) (n : Nat) (m : MF) (f0 f : Nat → Nat → Int32) (p : Nat) (q : Nat → Nat) (T : Nat) (ly : MF) (ll : Option Nat) : Prop := ((∀ x, x < T → f 231 x = nI (q x)) ∧ (∀ i, i < n → f 232 i = oI (ly i)) ∧ f 227 8 = oI ll) ∧ ((∀ x, x < T → q x < n ∧ (ly (q x)).isSome = true) ∧ (∀ x y, x < T → y < T → q x = q y → x = y) ∧ (∀ i, (ly i).isSome = true → ∃ x, x < T ∧ q x = i) ∧ ∀ i d, ly i = some d → d < T) ∧ LB E m ly ll ∧ (∀ x, x < p → ∀ r, lq E m ly ll (q x) r) ∧ ∀ a x, ¬(a = 227 ∧ x = 8) → a ≠ 231 → a ≠ 232 → f a x = f0 a x
theorem LQ.le {E : EF} {n : Nat} {m : MF} {f0 f : Nat → Nat → Int32} {p : Nat} {q : Nat → Nat} {T : Nat} {ly : MF} {ll : Option Nat} (H : LQ E n m f0 f p q T ly ll) : T ≤ n := inj_le q (fun x hx => (H.2.1.1 x hx).1) (fun x y hx hy he => H.2.1.2.1 x y hx hy he)
section MG
variable {h : Hp}
theorem layNext_ok (S : MgS h) {E : EF} {n p : Nat} {m : MF} {f0 f : Nat → Nat → Int32} {q : Nat → Nat} {T : Nat} {ly : MF} {ll : Option Nat} (L : LR E n) (n30 : n ≤ 30) (h7 : f0 227 7 = nI n) (hr : ∀ i j, i < n → j < 32 → bt (f0 228 i) j = E i j) (hM : Ms f0 n m) (hm : MT E m) (H : LQ E n m f0 f p q T ly ll) (hp : p < T) : ∃ f' q' T' ly' ll', CL 117 [.ref 227, .int (nI (q p)), .int (nI T)] (wI h f) = some (.ok (.int (nI T')), wI h f') ∧ LQ E n m f0 f' (p + 1) q' T' ly' ll' ∧ p < T' := by
  obtain ⟨d, hd⟩ : ∃ d, ly (q p) = some d := by
    have := (H.2.1.1 p hp).2
    cases hq : ly (q p) with
    | none =>
      rw [hq] at this
      cases this
    | some d => exact ⟨d, rfl⟩
  have hl : q p < n := (H.2.1.1 p hp).1
  generalize hlq : q p = l at *
  obtain ⟨⟨f', q', T', ly', ll', v⟩, e1, H', hp', hq', hd', hcur⟩ := lpEx (β := (Nat → Nat → Int32) × (Nat → Nat) × Nat × MF × Option Nat × Value) (n := n) (x0 := (f, q, T, ly, ll, Value.null)) (F := fun i x => RF 117 5 [.ref 227, .int (nI l), .int (nI T), .int (nI x.2.2.1), .int (nI i), x.2.2.2.2.2] [] (wI h x.1)) (P := fun i x => LQ E n m f0 x.1 p x.2.1 x.2.2.1 x.2.2.2.1 x.2.2.2.2.1 ∧ p < x.2.2.1 ∧ x.2.1 p = l ∧ x.2.2.2.1 l = some d ∧ ∀ r, r < i → lq E m x.2.2.2.1 x.2.2.2.2.1 l r) ⟨H, hp, hlq, hd, fun r hr => absurd hr (Nat.not_lt_zero r)⟩ (fun i x hi hP => by
    obtain ⟨f, q, T', ly, ll, v⟩ := x
    obtain ⟨H, hp, hlq, hd, hcur⟩ := hP
    dsimp only at H hp hlq hd hcur ⊢
    have hTn := H.le
    obtain ⟨⟨a1, a2, a3⟩, ⟨b1, b2, b3, b4⟩, ⟨⟨c1, c1'⟩, c2, c3⟩, c4, c5⟩ := H
    have g7 : f 227 7 = nI n := (c5 227 7 (by omega) (by decide) (by decide)).trans h7
    have g8 : f 228 l = f0 228 l := c5 228 l (by omega) (by decide) (by decide)
    have hbit : bt (f0 228 l) i = E l i := hr l i hl (by omega)
    have hlay : f 232 l = nI d := by rw [a2 l hl, hd]; rfl
    have hdT := b4 l d hd
    have gm : f 229 i = oI (m i) := by
      rw [c5 229 i (by omega) (by decide) (by decide)]
      exact hM i hi
    cases hE : E l i with
    | false =>
      refine ⟨(f, q, T', ly, ll, v), ?_, ⟨⟨a1, a2, a3⟩, ⟨b1, b2, b3, b4⟩, ⟨⟨c1, c1'⟩, c2, c3⟩, c4, c5⟩, hp, hlq, hd, fun r hr' => ?_⟩
      · rw [e117_5]
        simp (disch := omega) only [S.f, S.c (show l < 30 by omega), g7, g8, hi, ↓bt_test, hbit, hE, cond_true, cond_false, bI_ok, bI_er, bV_ok, bV_er, bR_ok, bR_er, bD_ok, bD_er, bF_ok, bF_er, thr_ap, cl_nI, lt_nI, le_nI, eq_nI, m1_lt, nI_m1, m1_nI, nI_lt_m1, add_nI, sub_nI, addm_nI, z_addm, z_subm, mul_nI, fit1_0, fit1_1, fit2_n, HI_wI, HK_wI, HL_wI, HR_wI, ckK_wI, chI_wI, sI_wI, wI_wI, lz0, lz1, lz2, lz3, lz4, lz5, lz6, lz7, lz8, lz9, lz10, lz12, lz13, lz16, lz17, lz20, lz21, lz23, lz26, lz30, lz32, lz35, lz40, lz45, lz48, lz57, lz58, lz59, lz60, lz61, lz63, lz64, lz97, lz99, lz100, lz110, lz111, lz126, lz129, lz132, lz133, lz166, lz169, lz255, lz999, lz1183, lz1800, Nat.reduceAdd, Nat.reduceLT, Nat.reduceEqDiff, Nat.not_lt_zero, Nat.lt_irrefl, ↓reduceIte, Nat.zero_add, Nat.add_zero, ne_eq, not_true_eq_false, not_false_eq_true, reduceCtorEq]
      · by_cases qr : r = i
        · intro he
          rw [qr, hE] at he
          cases he
        · exact hcur r (by omega)
    | true =>
      cases hmi : m i with
      | none =>
        rw [hmi] at gm
        have gm : f 229 i = -nI 1 := gm
        refine ⟨(u2 f 227 8 (nI d), q, T', ly, some d, .int (-nI 1)), ?_, ⟨⟨fun x hx => ?_, fun x hx => ?_, ?_⟩, ⟨b1, b2, b3, b4⟩, ⟨⟨c1, c1'⟩, c2, fun d' hd' => ?_⟩, fun x hx r hxr => ?_, fun a x q1 q2 q3 => ?_⟩, hp, hlq, hd, fun r hr' hre => ?_⟩
        all_goals try dsimp only
        · rw [e117_5]
          simp (disch := omega) only [S.f, S.c (show l < 30 by omega), S.c (show i < 30 by omega), g7, g8, hi, ↓bt_test, hbit, hE, gm, m1_lt0, hlay, Bool.true_eq_false, cond_true, cond_false, bI_ok, bI_er, bV_ok, bV_er, bR_ok, bR_er, bD_ok, bD_er, bF_ok, bF_er, thr_ap, cl_nI, lt_nI, le_nI, eq_nI, m1_lt, nI_m1, m1_nI, nI_lt_m1, add_nI, sub_nI, addm_nI, z_addm, z_subm, mul_nI, fit1_0, fit1_1, fit2_n, HI_wI, HK_wI, HL_wI, HR_wI, ckK_wI, chI_wI, sI_wI, wI_wI, lz0, lz1, lz2, lz3, lz4, lz5, lz6, lz7, lz8, lz9, lz10, lz12, lz13, lz16, lz17, lz20, lz21, lz23, lz26, lz30, lz32, lz35, lz40, lz45, lz48, lz57, lz58, lz59, lz60, lz61, lz63, lz64, lz97, lz99, lz100, lz110, lz111, lz126, lz129, lz132, lz133, lz166, lz169, lz255, lz999, lz1183, lz1800, Nat.reduceAdd, Nat.reduceLT, Nat.reduceEqDiff, Nat.not_lt_zero, Nat.lt_irrefl, ↓reduceIte, Nat.zero_add, Nat.add_zero, ne_eq, not_true_eq_false, not_false_eq_true, reduceCtorEq]
        · rw [w2_ne (by omega)]
          exact a1 x hx
        · rw [w2_ne (by omega)]
          exact a2 x hx
        · exact w2_eq _ _ _ _
        · cases hd'
          exact ⟨l, i, hd, hE, hmi⟩
        · rcases c4 x hx r hxr with z | z
          · exact .inl ⟨z.1, rfl⟩
          · exact .inr z
        · rw [w2_ne q1]
          exact c5 a x q1 q2 q3
        · by_cases qr : r = i
          · rw [qr]
            exact .inl ⟨hmi, rfl⟩
          · rcases hcur r (by omega) hre with z | z
            · exact .inl ⟨z.1, rfl⟩
            · exact .inr z
      | some k =>
        rw [hmi] at gm
        have gm : f 229 i = nI k := gm
        have hk := hm i k hmi
        have hEk : E k i = true := by
          rcases hk.2 with z | z
          · have := L.2 i k l z
            rw [hE] at this
            cases this
          · exact z
        have hkn := (L.1 _ _ hEk).1
        have glk : f 232 k = oI (ly k) := a2 k hkn
        cases hlk : ly k with
        | some dk =>
          rw [hlk] at glk
          have glk : f 232 k = nI dk := glk
          have := b4 k dk hlk
          refine ⟨(f, q, T', ly, ll, .int (nI k)), ?_, ⟨⟨a1, a2, a3⟩, ⟨b1, b2, b3, b4⟩, ⟨⟨c1, c1'⟩, c2, c3⟩, c4, c5⟩, hp, hlq, hd, fun r hr' hre => ?_⟩
          · dsimp only
            rw [e117_5]
            simp (disch := omega) only [S.f, S.c (show l < 30 by omega), S.c (show i < 30 by omega), S.c (show k < 30 by omega), g7, g8, hi, ↓bt_test, hbit, hE, gm, neg_nI, glk, Bool.true_eq_false, cond_true, cond_false, bI_ok, bI_er, bV_ok, bV_er, bR_ok, bR_er, bD_ok, bD_er, bF_ok, bF_er, thr_ap, cl_nI, lt_nI, le_nI, eq_nI, m1_lt, nI_m1, m1_nI, nI_lt_m1, add_nI, sub_nI, addm_nI, z_addm, z_subm, mul_nI, fit1_0, fit1_1, fit2_n, HI_wI, HK_wI, HL_wI, HR_wI, ckK_wI, chI_wI, sI_wI, wI_wI, lz0, lz1, lz2, lz3, lz4, lz5, lz6, lz7, lz8, lz9, lz10, lz12, lz13, lz16, lz17, lz20, lz21, lz23, lz26, lz30, lz32, lz35, lz40, lz45, lz48, lz57, lz58, lz59, lz60, lz61, lz63, lz64, lz97, lz99, lz100, lz110, lz111, lz126, lz129, lz132, lz133, lz166, lz169, lz255, lz999, lz1183, lz1800, Nat.reduceAdd, Nat.reduceLT, Nat.reduceEqDiff, Nat.not_lt_zero, Nat.lt_irrefl, ↓reduceIte, Nat.zero_add, Nat.add_zero, ne_eq, not_true_eq_false, not_false_eq_true, reduceCtorEq]
          · by_cases qr : r = i
            · rw [qr]
              exact .inr ⟨k, hmi, by show (ly k).isSome = true; rw [hlk]; rfl⟩
            · exact hcur r (by omega) hre
        | none =>
          rw [hlk] at glk
          have glk : f 232 k = -nI 1 := glk
          have nk : ∀ x, x < T' → q x ≠ k := fun x hx z => by
            have := (b1 x hx).2
            rw [z, hlk] at this
            cases this
          have hT1 : T' + 1 ≤ n := inj_le (ud q T' k) (fun x hx => by
            by_cases z : x = T'
            · rw [z, ud_e]
              exact hkn
            · rw [ud_n z]
              exact (b1 x (by omega)).1) (fun x y hx hy he => by
            by_cases z : x = T'
            · by_cases y' : y = T'
              · omega
              · rw [z, ud_e, ud_n y'] at he
                exact absurd he.symm (nk y (by omega))
            · by_cases y' : y = T'
              · rw [y', ud_e, ud_n z] at he
                exact absurd he (nk x (by omega))
              · rw [ud_n z, ud_n y'] at he
                exact b2 x y (by omega) (by omega) he)
          have lyo : ∀ x, (ly x).isSome = true → ud ly k (some (d + 1)) x = ly x := fun x hx => ud_n (fun z => by
            rw [z, hlk] at hx
            cases hx)
          have lys : ∀ x e, ly x = some e → ud ly k (some (d + 1)) x = some e := fun x e hx => by
            rw [lyo x (by rw [hx]; rfl)]
            exact hx
          have lym : ∀ x, (ly x).isSome = true → (ud ly k (some (d + 1)) x).isSome = true := fun x hx => by
            rw [lyo x hx]
            exact hx
          refine ⟨(u2 (u2 f 232 k (nI (d + 1))) 231 T' (nI k), ud q T' k, T' + 1, ud ly k (some (d + 1)), ll, .int (nI k)), ?_, ⟨⟨fun x hx => ?_, fun x hx => ?_, ?_⟩, ⟨fun x hx => ?_, fun x y hx hy he => ?_, fun x hx => ?_, fun x e hx => ?_⟩, ⟨⟨fun x hx => ?_, fun x j he hx => ?_⟩, fun x e hx => ?_, fun e he => ?_⟩, fun x hx r hxr => ?_, fun a x q1 q2 q3 => ?_⟩, by dsimp only; omega, ?_, ?_, fun r hr' hre => ?_⟩
          all_goals try dsimp only
          · rw [e117_5]
            simp (disch := omega) only [S.f, S.c (show l < 30 by omega), S.c (show i < 30 by omega), S.c (show k < 30 by omega), S.c (show T' < 30 by omega), g7, g8, hi, ↓bt_test, hbit, hE, gm, neg_nI, glk, m1_lt0, hlay, show T' < 30 by omega, Bool.true_eq_false, w2_ne, cond_true, cond_false, bI_ok, bI_er, bV_ok, bV_er, bR_ok, bR_er, bD_ok, bD_er, bF_ok, bF_er, thr_ap, cl_nI, lt_nI, le_nI, eq_nI, m1_lt, nI_m1, m1_nI, nI_lt_m1, add_nI, sub_nI, addm_nI, z_addm, z_subm, mul_nI, fit1_0, fit1_1, fit2_n, HI_wI, HK_wI, HL_wI, HR_wI, ckK_wI, chI_wI, sI_wI, wI_wI, lz0, lz1, lz2, lz3, lz4, lz5, lz6, lz7, lz8, lz9, lz10, lz12, lz13, lz16, lz17, lz20, lz21, lz23, lz26, lz30, lz32, lz35, lz40, lz45, lz48, lz57, lz58, lz59, lz60, lz61, lz63, lz64, lz97, lz99, lz100, lz110, lz111, lz126, lz129, lz132, lz133, lz166, lz169, lz255, lz999, lz1183, lz1800, Nat.reduceAdd, Nat.reduceLT, Nat.reduceEqDiff, Nat.not_lt_zero, Nat.lt_irrefl, ↓reduceIte, Nat.zero_add, Nat.add_zero, ne_eq, not_true_eq_false, not_false_eq_true, reduceCtorEq]
          · by_cases z : x = T'
            · rw [z, w2_eq, ud_e]
            · rw [w2_ne (by omega), w2_ne (by omega), ud_n z]
              exact a1 x (by dsimp only at hx; omega)
          · by_cases z : x = k
            · rw [z, w2_ne (by omega), w2_eq, ud_e]
              rfl
            · rw [w2_ne (by omega), w2_ne (by omega), ud_n z]
              exact a2 x hx
          · rw [w2_ne (by omega), w2_ne (by omega)]
            exact a3
          · by_cases z : x = T'
            · rw [z, ud_e, ud_e]
              exact ⟨hkn, rfl⟩
            · rw [ud_n z]
              have := b1 x (by dsimp only at hx; omega)
              exact ⟨this.1, lym _ this.2⟩
          · dsimp only at hx hy he
            by_cases z : x = T'
            · by_cases y' : y = T'
              · omega
              · rw [z, ud_e, ud_n y'] at he
                exact absurd he.symm (nk y (by omega))
            · by_cases y' : y = T'
              · rw [y', ud_e, ud_n z] at he
                exact absurd he (nk x (by omega))
              · rw [ud_n z, ud_n y'] at he
                exact b2 x y (by omega) (by omega) he
          · by_cases z : x = k
            · exact ⟨T', by omega, by rw [ud_e, z]⟩
            · dsimp only at hx
              rw [ud_n z] at hx
              obtain ⟨y, y1, y2⟩ := b3 x hx
              exact ⟨y, by omega, by rw [ud_n (by omega)]; exact y2⟩
          · dsimp only at hx
            by_cases z : x = k
            · rw [z, ud_e] at hx
              cases hx
              omega
            · rw [ud_n z] at hx
              have := b4 x e hx
              omega
          · dsimp only at hx
            by_cases z : x = k
            · rw [z, ud_e] at hx
              cases hx
            · rw [ud_n z] at hx
              exact c1 x hx
          · exact lys x 0 (c1' x j he hx)
          · dsimp only at hx
            by_cases z : x = k
            · rw [z, ud_e] at hx
              cases hx
              exact ⟨l, i, lys l d hd, hE, by rw [z]; exact hmi⟩
            · rw [ud_n z] at hx
              obtain ⟨l', r', y1, y2, y3⟩ := c2 x e hx
              exact ⟨l', r', lys _ _ y1, y2, y3⟩
          · obtain ⟨l', r', y1, y2, y3⟩ := c3 e he
            exact ⟨l', r', lys _ _ y1, y2, y3⟩
          · dsimp only at hxr
            rw [ud_n (by omega)] at hxr
            rcases c4 x hx r hxr with z | ⟨y, y1, y2⟩
            · exact .inl z
            · exact .inr ⟨y, y1, lym _ y2⟩
          · rw [w2_ne (by omega), w2_ne (by omega)]
            exact c5 a x q1 q2 q3
          · rw [ud_n (by omega)]
            exact hlq
          · exact lys l d hd
          · by_cases qr : r = i
            · rw [qr]
              exact .inr ⟨k, hmi, by rw [ud_e]; rfl⟩
            · rcases hcur r (by omega) hre with z | ⟨y, y1, y2⟩
              · exact .inl z
              · exact .inr ⟨y, y1, lym _ y2⟩)
  dsimp only at e1 H' hp' hq' hd' hcur
  have g7 : f' 227 7 = nI n := (H'.2.2.2.2 227 7 (by omega) (by decide) (by decide)).trans h7
  have hTn := H'.le
  refine ⟨f', q', T', ly', ll', ?_, ⟨H'.1, H'.2.1, H'.2.2.1, fun x hx r => ?_, H'.2.2.2.2⟩, hp'⟩
  · rw [e117]
    refine e1.trans ?_
    rw [e117_5]
    simp (disch := omega) only [S.f, g7, cond_true, cond_false, bI_ok, bI_er, bV_ok, bV_er, bR_ok, bR_er, bD_ok, bD_er, bF_ok, bF_er, thr_ap, cl_nI, lt_nI, le_nI, eq_nI, m1_lt, nI_m1, m1_nI, nI_lt_m1, add_nI, sub_nI, addm_nI, z_addm, z_subm, mul_nI, fit1_0, fit1_1, fit2_n, HI_wI, HK_wI, HL_wI, HR_wI, ckK_wI, chI_wI, sI_wI, wI_wI, lz0, lz1, lz2, lz3, lz4, lz5, lz6, lz7, lz8, lz9, lz10, lz12, lz13, lz16, lz17, lz20, lz21, lz23, lz26, lz30, lz32, lz35, lz40, lz45, lz48, lz57, lz58, lz59, lz60, lz61, lz63, lz64, lz97, lz99, lz100, lz110, lz111, lz126, lz129, lz132, lz133, lz166, lz169, lz255, lz999, lz1183, lz1800, Nat.reduceAdd, Nat.reduceLT, Nat.reduceEqDiff, Nat.not_lt_zero, Nat.lt_irrefl, ↓reduceIte, Nat.zero_add, Nat.add_zero, ne_eq, not_true_eq_false, not_false_eq_true, reduceCtorEq]
  · by_cases z : x = p
    · rw [z, hq']
      intro he
      exact hcur r (L.1 _ _ he).2 he
    · exact H'.2.2.2.1 x (by omega) r
end MG
