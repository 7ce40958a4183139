/-! PURE TOOLS: numbers, reads, loops -/
/-- a heap with other ints -/
def wI (h : Hp) (f : Nat → Nat → Int32) : Hp := (h.1, h.2.1, f, h.2.2.2)
theorem sI_wI (h : Hp) (a k : Nat) (v : Int32) : sI h a k v = wI h (u2 (HI h) a k v) := rfl
theorem hcpy_wI (h : Hp) (sa sp da dp n : Nat) : hcpy h sa sp da dp n = wI h (fun a k => if a = da ∧ dp ≤ k ∧ k < dp + n then HI h sa (sp + (k - dp)) else HI h a k) := rfl
theorem wI_wI (h : Hp) (f g : Nat → Nat → Int32) : wI (wI h f) g = wI h g := rfl
theorem wI_HI (h : Hp) : wI h (HI h) = h := rfl
theorem HI_wI (h : Hp) (f : Nat → Nat → Int32) : HI (wI h f) = f := rfl
theorem HK_wI (h : Hp) (f : Nat → Nat → Int32) (a : Nat) : HK (wI h f) a = HK h a := rfl
theorem HL_wI (h : Hp) (f : Nat → Nat → Int32) (a : Nat) : HL (wI h f) a = HL h a := rfl
theorem HR_wI (h : Hp) (f : Nat → Nat → Int32) : HR (wI h f) = HR h := rfl
theorem ckK_wI (h : Hp) (f : Nat → Nat → Int32) (a k : Nat) : ckK (wI h f) a k = ckK h a k := rfl
theorem chI_wI (h : Hp) (f : Nat → Nat → Int32) (a k : Nat) (j : Int32) : chI (wI h f) a k j = chI h a k j := rfl
theorem w2_eq {α : Type} (f : Nat → Nat → α) (a k : Nat) (v : α) : u2 f a k v a k = v := if_pos ⟨rfl, rfl⟩
theorem w2_ne {α : Type} {f : Nat → Nat → α} {a k a' k' : Nat} {v : α} (h : ¬(a' = a ∧ k' = k)) : u2 f a k v a' k' = f a' k' := if_neg h
/-- an int as a number, where it is none below 0 -/
def rd (f : Nat → Nat → Int32) (a k : Nat) : Nat := (f a k).toNatClampNeg
/-- the cell's int is a number below a bound -/
def nn (f : Nat → Nat → Int32) (a k b : Nat) : Prop := ∃ j : Nat, f a k = nI j ∧ j < b
theorem nn.eq {f : Nat → Nat → Int32} {a k b : Nat} (H : nn f a k b) (hb : b ≤ 2147483648) : f a k = nI (rd f a k) := by
  obtain ⟨j, h1, h2⟩ := H
  unfold rd
  rw [h1, nI_clamp (by omega)]
theorem nn.lt {f : Nat → Nat → Int32} {a k b : Nat} (H : nn f a k b) (hb : b ≤ 2147483648) : rd f a k < b := by
  obtain ⟨j, h1, h2⟩ := H
  unfold rd
  rw [h1, nI_clamp (by omega)]
  exact h2
theorem nn.mk {f : Nat → Nat → Int32} {a k b j : Nat} (h1 : f a k = nI j) (h2 : j < b) : nn f a k b := ⟨j, h1, h2⟩
theorem rd_of {f : Nat → Nat → Int32} {a k j : Nat} (h1 : f a k = nI j) (h2 : j < 2147483648) : rd f a k = j := by
  unfold rd
  rw [h1, nI_clamp h2]
/-- -1 or a number -/
def oI (o : Option Nat) : Int32 := match o with
  | none => -1
  | some n => nI n
theorem cl_nI {n : Nat} (h : n < 2147483648) : (nI n).toNatClampNeg = n := nI_clamp h
theorem lt_nI {a b : Nat} (ha : a < 2147483648) (hb : b < 2147483648) : (nI a < nI b) = (a < b) := propext (nI_ltI ha hb)
theorem le_nI {a b : Nat} (ha : a < 2147483648) (hb : b < 2147483648) : (nI a ≤ nI b) = (a ≤ b) := propext (nI_leI ha hb)
theorem eq_nI {a b : Nat} (ha : a < 2147483648) (hb : b < 2147483648) : (nI a = nI b) = (a = b) := propext (nI_eq ha hb)
theorem neg_nI {a : Nat} (ha : a < 2147483648) : (nI a < 0) = False := eq_false (nI_pos ha)
theorem pos_nI {a : Nat} (ha : a < 2147483648) : ((0 : Int32) < nI a) = (0 < a) := lt_nI (a := 0) (by decide) ha
theorem z_nI {a : Nat} (ha : a < 2147483648) : (nI a = 0) = (a = 0) := eq_nI (b := 0) ha (by decide)
theorem m1_lt {a : Nat} (ha : a < 2147483648) : ((-nI 1 : Int32) < nI a) = True := eq_true (by
  have h1 : ((-nI 1 : Int32)).toInt = -1 := by decide
  rw [Int32.lt_iff_toInt_lt, nI_toInt ha, h1]
  omega)
theorem nI_m1 {a : Nat} (ha : a < 2147483648) : (nI a = -nI 1) = False := eq_false (by
  intro h
  have h1 : ((-nI 1 : Int32)).toInt = -1 := by decide
  have h2 := congrArg Int32.toInt h
  rw [nI_toInt ha, h1] at h2
  omega)
theorem nI_lt_m1 {a : Nat} (ha : a < 2147483648) : (nI a < -nI 1) = False := eq_false (by
  have h1 : ((-nI 1 : Int32)).toInt = -1 := by decide
  rw [Int32.lt_iff_toInt_lt, nI_toInt ha, h1]
  omega)
theorem suc_nI (a : Nat) : nI a + 1 = nI (a + 1) := nI_1 a
theorem add_nI (a b : Nat) : nI a + nI b = nI (a + b) := nI_add a b
theorem sub_nI {a b : Nat} (h : b ≤ a) : nI a - nI b = nI (a - b) := by
  have : nI a = nI (a - b) + nI b := by rw [add_nI, Nat.sub_add_cancel h]
  rw [this, Int32.add_sub_cancel]
theorem addm_nI {a : Nat} (h : 1 ≤ a) : nI a + -nI 1 = nI (a - 1) := by
  rw [← sub_nI h, Int32.sub_eq_add_neg]
theorem z_addm : nI 0 + -nI 1 = -nI 1 := rfl
theorem z_subm : nI 0 - nI 1 = -nI 1 := rfl
theorem mul_nI (a b : Nat) : nI a * nI b = nI (a * b) := (Int32.ofNat_mul a b).symm
theorem pre_nI (a : Nat) : nI (a + 1) - 1 = nI a := nI_pred a
theorem inb_nI {j n : Nat} (hj : j < n) (hn : n < 2147483648) : inb (nI j) n = true := by
  unfold inb
  rw [cl_nI (by omega), decide_eq_true hj, decide_eq_true (nI_pos' (by omega))]
  rfl
theorem chI_nI {h : Hp} {a kd n j : Nat} (hk : HK h a = kd) (hl : HL h a = n) (hj : j < n) (hn : n < 2147483648) : chI h a kd (nI j) = true := by
  unfold chI
  rw [hk, hl, inb_nI hj hn, Nat.beq_refl]
  rfl
theorem ck_of {h : Hp} {a kd : Nat} (hk : HK h a = kd) : ckK h a kd = true := by
  unfold ckK
  rw [hk]
  exact Nat.beq_refl kd
theorem aa_of {h : Hp} {a n j : Nat} (hk : HK h a = 106) (hl : HL h a = n) (hj : j < n) (hn : n < 2147483648) : ((Nat.beq (HK h a) 106 || Nat.beq (HK h a) 107) && inb (nI j) (HL h a)) = true := by
  rw [hk, hl, inb_nI hj hn]
  rfl
theorem al_of {h : Hp} {a kd : Nat} (hk : HK h a = kd) (h1 : 100 ≤ kd) : Nat.ble 100 (HK h a) = true := by
  rw [hk]
  exact Nat.ble_eq_true_of_le h1
theorem bI_ok {x : Int32} {h : Hp} {f : Int32 → Hp → Res} {g : Nat → Hp → Res} : bI (some (.ok (.int x), h)) f g = f x h := rfl
theorem bI_er {k : Nat} {h : Hp} {f : Int32 → Hp → Res} {g : Nat → Hp → Res} : bI (some (.error k, h)) f g = g k h := rfl
theorem bV_ok {h : Hp} {f : Hp → Res} {g : Nat → Hp → Res} : bV (some (.ok .null, h)) f g = f h := rfl
theorem bV_er {k : Nat} {h : Hp} {f : Hp → Res} {g : Nat → Hp → Res} : bV (some (.error k, h)) f g = g k h := rfl
theorem bR_ok {x : Nat} {h : Hp} {f : Nat → Hp → Res} {g : Nat → Hp → Res} : bR (some (.ok (.ref x), h)) f g = f x h := rfl
theorem bR_er {k : Nat} {h : Hp} {f : Nat → Hp → Res} {g : Nat → Hp → Res} : bR (some (.error k, h)) f g = g k h := rfl
theorem bD_ok {x : UInt64} {h : Hp} {f : UInt64 → Hp → Res} {g : Nat → Hp → Res} : bD (some (.ok (.double x), h)) f g = f x h := rfl
theorem bD_er {k : Nat} {h : Hp} {f : UInt64 → Hp → Res} {g : Nat → Hp → Res} : bD (some (.error k, h)) f g = g k h := rfl
theorem bF_ok {x : UInt32} {h : Hp} {f : UInt32 → Hp → Res} {g : Nat → Hp → Res} : bF (some (.ok (.float x), h)) f g = f x h := rfl
theorem bF_er {k : Nat} {h : Hp} {f : UInt32 → Hp → Res} {g : Nat → Hp → Res} : bF (some (.error k, h)) f g = g k h := rfl
theorem thr_ap {k : Nat} {h : Hp} : thr k h = some (.error k, h) := rfl
/-- a loop that counts up: each round hands its place on -/
theorem lpUp {α : Type} {F : Nat → α} {a b : Nat} (h : a ≤ b) (hs : ∀ i, a ≤ i → i < b → F i = F (i + 1)) : F a = F b := by
  induction h with
  | refl => rfl
  | step h ih => exact (ih (fun i h1 h2 => hs i h1 (by omega))).trans (hs _ h (by omega))
/-- .. and down -/
theorem lpDn {α : Type} {F : Nat → α} {a b : Nat} (h : a ≤ b) (hs : ∀ i, a ≤ i → i < b → F (i + 1) = F i) : F b = F a := (lpUp (F := fun i => F i) h (fun i h1 h2 => (hs i h1 h2).symm)).symm
/-- the first place below n where p holds -/
def fst? (p : Nat → Bool) : Nat → Option Nat
  | 0 => none
  | n + 1 => match fst? p n with
    | some i => some i
    | none => if p n then some n else none
theorem fst_some {p : Nat → Bool} : ∀ {n i : Nat}, fst? p n = some i ↔ i < n ∧ p i = true ∧ ∀ j, j < i → p j = false
  | 0, i => by simp [fst?]
  | n + 1, i => by
    simp only [fst?]
    cases hf : fst? p n with
    | some j =>
      have hj := fst_some.mp hf
      constructor
      · intro h
        cases h
        exact ⟨by omega, hj.2⟩
      · rintro ⟨h1, h2, h3⟩
        rcases Nat.lt_trichotomy i j with hl | rfl | hl
        · rw [hj.2.2 i hl] at h2; cases h2
        · rfl
        · rw [h3 j hl] at hj; cases hj.2.1
    | none =>
      have hn : ∀ j, j < n → p j = false := by
        intro j hj
        cases hp : p j with
        | false => rfl
        | true =>
          exfalso
          have : ∃ k, k < n ∧ p k = true ∧ ∀ q, q < k → p q = false := by
            obtain ⟨k, hk1, hk2⟩ := pk_least (fun k => k < n ∧ p k = true) ⟨j, hj, hp⟩
            refine ⟨k, hk1.1, hk1.2, fun q hq => ?_⟩
            cases hpq : p q with
            | false => rfl
            | true => exact absurd ⟨by omega, hpq⟩ (hk2 q hq)
          obtain ⟨k, hk⟩ := this
          have := fst_some.mpr hk
          rw [hf] at this
          cases this
      constructor
      · intro h
        cases hp : p n with
        | true =>
          rw [hp] at h
          cases h
          exact ⟨by omega, hp, hn⟩
        | false =>
          rw [hp] at h
          cases h
      · rintro ⟨h1, h2, h3⟩
        have : i = n := by
          rcases Nat.lt_or_ge i n with hl | hl
          · rw [hn i hl] at h2; cases h2
          · omega
        subst this
        rw [if_pos h2]
theorem fst_none {p : Nat → Bool} {n : Nat} : fst? p n = none ↔ ∀ j, j < n → p j = false := by
  constructor
  · intro h j hj
    cases hp : p j with
    | false => rfl
    | true =>
      exfalso
      obtain ⟨k, hk1, hk2⟩ := pk_least (fun k => k < n ∧ p k = true) ⟨j, hj, hp⟩
      have := fst_some.mpr ⟨hk1.1, hk1.2, fun q hq => by
        cases hpq : p q with
        | false => rfl
        | true => exact absurd ⟨by omega, hpq⟩ (hk2 q hq)⟩
      rw [h] at this
      cases this
  · intro h
    cases hf : fst? p n with
    | none => rfl
    | some i =>
      have := fst_some.mp hf
      rw [h i this.1] at this
      cases this.2.1
/-- a search loop: F i is the state in front of place i -/
theorem lpFst {α : Type} {p : Nat → Bool} {n : Nat} {F : Nat → α} {found : Nat → α} {dflt : α} (hs : ∀ i, i < n → F i = if p i then found i else F (i + 1)) (he : F n = dflt) : F 0 = match fst? p n with
    | some i => found i
    | none => dflt := by
  cases hf : fst? p n with
  | some i =>
    obtain ⟨h1, h2, h3⟩ := fst_some.mp hf
    have := lpUp (F := F) (Nat.zero_le i) (fun j _ hj => by
      rw [hs j (by omega), h3 j hj]
      rfl)
    rw [this, hs i h1, if_pos h2]
  | none =>
    have h3 := fst_none.mp hf
    rw [lpUp (F := F) (Nat.zero_le n) (fun j _ hj => by
      rw [hs j hj, h3 j hj]
      rfl), he]
/-- sums and folds below n -/
def fold {α : Type} (g : Nat → α → α) (a : α) : Nat → α
  | 0 => a
  | n + 1 => g n (fold g a n)
def sumN (f : Nat → Nat) : Nat → Nat
  | 0 => 0
  | n + 1 => sumN f n + f n
theorem lpFold {α β : Type} {g : Nat → β → β} {n : Nat} {F : Nat → β → α} {a : β} (hs : ∀ i, i < n → F i (fold g a i) = F (i + 1) (g i (fold g a i))) : F 0 a = F n (fold g a n) := lpUp (F := fun i => F i (fold g a i)) (Nat.zero_le n) (fun i _ hi => hs i hi)
theorem sumN_le {f g : Nat → Nat} : ∀ {n : Nat}, (∀ i, i < n → f i ≤ g i) → sumN f n ≤ sumN g n
  | 0, _ => Nat.le_refl _
  | n + 1, h => Nat.add_le_add (sumN_le (fun i hi => h i (by omega))) (h n (by omega))
theorem sumN_eq {f g : Nat → Nat} : ∀ {n : Nat}, (∀ i, i < n → f i = g i) → sumN f n = sumN g n
  | 0, _ => rfl
  | n + 1, h => by
    have := sumN_eq (n := n) (fun i hi => h i (by omega))
    simp only [sumN, this, h n (by omega)]
theorem sumN_c {c : Nat} : ∀ {n : Nat}, sumN (fun _ => c) n = n * c
  | 0 => by simp [sumN]
  | n + 1 => by simp only [sumN, sumN_c (n := n)]; rw [Nat.succ_mul]
theorem sumN_bd {f : Nat → Nat} {n b : Nat} (h : ∀ i, i < n → f i ≤ b) : sumN f n ≤ n * b := by
  rw [← sumN_c]
  exact sumN_le h
theorem sumN_mono {f : Nat → Nat} {m n : Nat} (h : m ≤ n) : sumN f m ≤ sumN f n := by
  induction h with
  | refl => exact Nat.le_refl _
  | step _ ih => exact Nat.le_trans ih (Nat.le_add_right _ _)
theorem sumN_add {f g : Nat → Nat} : ∀ {n : Nat}, sumN (fun i => f i + g i) n = sumN f n + sumN g n
  | 0 => rfl
  | n + 1 => by simp only [sumN, sumN_add (n := n)]; omega
theorem sumN_0 {f : Nat → Nat} {n : Nat} (h : ∀ i, i < n → f i = 0) : sumN f n = 0 := by
  rw [sumN_eq (g := fun _ => 0) h, sumN_c, Nat.mul_zero]
/-- one place alone -/
theorem sumN_one {f : Nat → Nat} {n i : Nat} (hi : i < n) (h : ∀ j, j < n → j ≠ i → f j = 0) : sumN f n = f i := by
  induction n with
  | zero => omega
  | succ n ih =>
    simp only [sumN]
    by_cases hn : i = n
    · subst hn
      rw [sumN_0 (fun j hj => h j (by omega) (by omega)), Nat.zero_add]
    · rw [ih (by omega) (fun j hj => h j (by omega)), h n (by omega) (fun z => hn z.symm), Nat.add_zero]
def b2n (b : Bool) : Nat := if b then 1 else 0
theorem lz0 : (0 : Int32) = nI 0 := rfl
theorem lz1 : (1 : Int32) = nI 1 := rfl
theorem lz2 : (2 : Int32) = nI 2 := rfl
theorem lz3 : (3 : Int32) = nI 3 := rfl
theorem lz4 : (4 : Int32) = nI 4 := rfl
theorem lz5 : (5 : Int32) = nI 5 := rfl
theorem lz6 : (6 : Int32) = nI 6 := rfl
theorem lz7 : (7 : Int32) = nI 7 := rfl
theorem lz8 : (8 : Int32) = nI 8 := rfl
theorem lz9 : (9 : Int32) = nI 9 := rfl
theorem lz10 : (10 : Int32) = nI 10 := rfl
theorem lz12 : (12 : Int32) = nI 12 := rfl
theorem lz13 : (13 : Int32) = nI 13 := rfl
theorem lz16 : (16 : Int32) = nI 16 := rfl
theorem lz17 : (17 : Int32) = nI 17 := rfl
theorem lz20 : (20 : Int32) = nI 20 := rfl
theorem lz21 : (21 : Int32) = nI 21 := rfl
theorem lz23 : (23 : Int32) = nI 23 := rfl
theorem lz26 : (26 : Int32) = nI 26 := rfl
theorem lz30 : (30 : Int32) = nI 30 := rfl
theorem lz32 : (32 : Int32) = nI 32 := rfl
theorem lz35 : (35 : Int32) = nI 35 := rfl
theorem lz40 : (40 : Int32) = nI 40 := rfl
theorem lz45 : (45 : Int32) = nI 45 := rfl
theorem lz48 : (48 : Int32) = nI 48 := rfl
theorem lz57 : (57 : Int32) = nI 57 := rfl
theorem lz58 : (58 : Int32) = nI 58 := rfl
theorem lz59 : (59 : Int32) = nI 59 := rfl
theorem lz60 : (60 : Int32) = nI 60 := rfl
theorem lz61 : (61 : Int32) = nI 61 := rfl
theorem lz63 : (63 : Int32) = nI 63 := rfl
theorem lz64 : (64 : Int32) = nI 64 := rfl
theorem lz97 : (97 : Int32) = nI 97 := rfl
theorem lz99 : (99 : Int32) = nI 99 := rfl
theorem lz100 : (100 : Int32) = nI 100 := rfl
theorem lz110 : (110 : Int32) = nI 110 := rfl
theorem lz111 : (111 : Int32) = nI 111 := rfl
theorem lz126 : (126 : Int32) = nI 126 := rfl
theorem lz129 : (129 : Int32) = nI 129 := rfl
theorem lz132 : (132 : Int32) = nI 132 := rfl
theorem lz133 : (133 : Int32) = nI 133 := rfl
theorem lz166 : (166 : Int32) = nI 166 := rfl
theorem lz169 : (169 : Int32) = nI 169 := rfl
theorem lz255 : (255 : Int32) = nI 255 := rfl
theorem lz999 : (999 : Int32) = nI 999 := rfl
theorem lz1183 : (1183 : Int32) = nI 1183 := rfl
theorem lz1800 : (1800 : Int32) = nI 1800 := rfl
theorem fit1_0 : fitc 1 (nI 0) = true := rfl
theorem fit1_1 : fitc 1 (nI 1) = true := rfl
theorem fit2_n {n : Nat} (h : n < 65536) : fitc 2 (nI n) = true := by
  show (decide (0 ≤ nI n) && decide (nI n ≤ 65535)) = true
  rw [decide_eq_true (nI_pos' (by omega)), show decide (nI n ≤ 65535) = true from decide_eq_true ((le_nI (b := 65535) (by omega) (by decide)).mpr (by omega))]
  rfl
theorem m1_nI {a : Nat} (ha : a < 2147483648) : ((-nI 1 : Int32) = nI a) = False := eq_false (fun h => by
  have := nI_m1 ha
  rw [← h] at this
  exact this.mp rfl)
theorem sumN_cut {f : Nat → Nat} {m n : Nat} (h : m ≤ n) (h0 : ∀ k, m ≤ k → k < n → f k = 0) : sumN f n = sumN f m := by
  induction h with
  | refl => rfl
  | step h ih =>
    simp only [sumN]
    rw [ih (fun k h1 h2 => h0 k h1 (by omega)), h0 _ h (by omega)]
    omega
/-- rows in the order of their keys: a sum over rows is one over keys -/
theorem sum_rows {key : Nat → Nat} {n N : Nat} (hm : ∀ r r', r < r' → r' < n → key r < key r') (hb : ∀ r, r < n → key r < N) {F : Nat → Nat} (h0 : ∀ k, k < N → (∀ r, r < n → key r ≠ k) → F k = 0) : sumN (fun r => F (key r)) n = sumN F N := by
  induction n generalizing N with
  | zero => exact (sumN_0 (fun k hk => h0 k hk (fun r hr => absurd hr (by omega)))).symm
  | succ n ih =>
    have hK := hb n (by omega)
    rw [sumN_cut (m := key n + 1) (by omega) (fun k h1 h2 => h0 k h2 (fun r hr => by
      by_cases hrn : r = n
      · subst hrn
        omega
      · have := hm r n (by omega) (by omega)
        omega))]
    simp only [sumN]
    rw [ih (N := key n) (fun r r' h1 h2 => hm r r' h1 (by omega)) (fun r hr => hm r n hr (by omega)) (fun k hk hk2 => h0 k (by omega) (fun r hr => by
      by_cases hrn : r = n
      · subst hrn
        omega
      · exact hk2 r (by omega)))]
theorem sumN_comm {f : Nat → Nat → Nat} {m : Nat} : ∀ {n : Nat}, sumN (fun i => sumN (f i) m) n = sumN (fun j => sumN (fun i => f i j) n) m
  | 0 => (sumN_0 (fun _ _ => rfl)).symm
  | n + 1 => by
    simp only [sumN]
    rw [sumN_comm (n := n), ← sumN_add]
theorem sumN_mul {f : Nat → Nat} {c : Nat} : ∀ {n : Nat}, sumN (fun i => f i * c) n = sumN f n * c
  | 0 => by simp [sumN]
  | n + 1 => by simp only [sumN, sumN_mul (n := n), Nat.add_mul]
theorem sumN_cat {f : Nat → Nat} {m : Nat} : ∀ {n : Nat}, sumN f (m + n) = sumN f m + sumN (fun i => f (m + i)) n
  | 0 => by simp [sumN]
  | n + 1 => by
    rw [← Nat.add_assoc]
    simp only [sumN]
    rw [sumN_cat (n := n)]
    omega
theorem sumN_pos {f : Nat → Nat} {n i : Nat} (hi : i < n) : f i ≤ sumN f n := by
  induction n with
  | zero => omega
  | succ n ih =>
    simp only [sumN]
    by_cases h : i = n
    · subst h
      omega
    · have := ih (by omega)
      omega
theorem sumN_zero {f : Nat → Nat} {n : Nat} (h : sumN f n = 0) {i : Nat} (hi : i < n) : f i = 0 := by
  have := sumN_pos (f := f) hi
  omega
theorem sumN_bump {f g : Nat → Nat} {n i : Nat} (hi : i < n) (h : ∀ j, j < n → j ≠ i → f j = g j) : sumN f n + g i = sumN g n + f i := by
  induction n with
  | zero => omega
  | succ n ih =>
    simp only [sumN]
    by_cases hn : i = n
    · subst hn
      rw [sumN_eq (f := f) (g := g) (fun j hj => h j (by omega) (by omega))]
      omega
    · have := ih (by omega) (fun j hj => h j (by omega))
      have := h n (by omega) (fun z => hn z.symm)
      omega
/-- a loop with a state that is only known by what holds of it -/
theorem lpEx {α β : Type} {P : Nat → β → Prop} {F : Nat → β → α} {n : Nat} {x0 : β} (h0 : P 0 x0) (hs : ∀ i x, i < n → P i x → ∃ y, F i x = F (i + 1) y ∧ P (i + 1) y) : ∃ y, F 0 x0 = F n y ∧ P n y := by
  have key : ∀ m, m ≤ n → ∃ y, F 0 x0 = F m y ∧ P m y := by
    intro m
    induction m with
    | zero => exact fun _ => ⟨x0, rfl, h0⟩
    | succ m ih =>
      intro hm
      obtain ⟨y, h1, h2⟩ := ih (by omega)
      obtain ⟨z, h3, h4⟩ := hs m y (by omega) h2
      exact ⟨z, h1.trans h3, h4⟩
  exact key n (Nat.le_refl _)
theorem m1_lt0 : ((-nI 1 : Int32) < nI 0) = True := eq_true (by decide)

