/-! CHAINS, FLIPS, AND A SEARCH IN WIDTH -/
def Ch (E : EF) (m : MF) (rb : Nat → Nat) (st : Nat) : Nat → Nat → Prop
  | 0, r => E (rb r) r = true ∧ rb r = st ∧ m st = none
  | d + 1, r => E (rb r) r = true ∧ ∃ r', m (rb r) = some r' ∧ Ch E m rb st d r'
section CH
variable {E : EF} {m : MF} {rb : Nat → Nat} {st n : Nat}
theorem Ch.e {d r : Nat} (h : Ch E m rb st d r) : E (rb r) r = true := by
  cases d with
  | zero => exact h.1
  | succ d => exact h.1
theorem Ch.uniq : ∀ {d d' r : Nat}, Ch E m rb st d r → Ch E m rb st d' r → d = d'
  | 0, 0, _, _, _ => rfl
  | 0, d' + 1, r, h, h' => by
    obtain ⟨_, h1, h2⟩ := h
    obtain ⟨_, r', h3, _⟩ := h'
    rw [h1, h2] at h3
    cases h3
  | d + 1, 0, r, h, h' => by
    obtain ⟨_, h1, h2⟩ := h'
    obtain ⟨_, r', h3, _⟩ := h
    rw [h1, h2] at h3
    cases h3
  | d + 1, d' + 1, r, h, h' => by
    obtain ⟨_, r1, h1, h2⟩ := h
    obtain ⟨_, r2, h3, h4⟩ := h'
    rw [h1] at h3
    cases h3
    rw [Ch.uniq h2 h4]
def chn (m : MF) (rb : Nat → Nat) (r : Nat) : Nat → Nat
  | 0 => r
  | t + 1 => (m (rb (chn m rb r t))).getD 0
theorem Ch.at {d r : Nat} (h : Ch E m rb st d r) : ∀ {t : Nat}, t ≤ d → Ch E m rb st (d - t) (chn m rb r t)
  | 0, _ => h
  | t + 1, ht => by
    have := h.at (t := t) (by omega)
    rw [show d - t = d - (t + 1) + 1 by omega] at this
    obtain ⟨_, r', h1, h2⟩ := this
    show Ch E m rb st (d - (t + 1)) ((m (rb (chn m rb r t))).getD 0)
    rw [h1]
    exact h2
theorem sumN_b (n : Nat) : sumN (fun _ => b2n true) n = n := by
  rw [b2t, sumN_c, Nat.mul_one]
theorem inj_le {n N : Nat} (f : Nat → Nat) (h1 : ∀ i, i < n → f i < N) (h2 : ∀ i j, i < n → j < n → f i = f j → i = j) : n ≤ N := by
  have := sum_inj (p := fun _ => true) (q := fun _ => true) (n := n) (N := N) f (fun i hi _ => ⟨h1 i hi, rfl⟩) (fun i j hi hj _ _ he => h2 i j hi hj he)
  rw [sumN_b, sumN_b] at this
  exact this
theorem Ch.len (L : LR E n) {d r : Nat} (h : Ch E m rb st d r) : d + 1 ≤ n := inj_le (chn m rb r) (fun t ht => (L.1 _ _ (h.at (t := t) (by omega)).e).2) (fun t t' ht ht' he => by
  have h1 := h.at (t := t) (by omega)
  have h2 := h.at (t := t') (by omega)
  rw [he] at h1
  have := h1.uniq h2
  omega)
/-- rows in pairs, but for r, whose partner has left it -/
def MD (E : EF) (m : MF) (r : Nat) : Prop := (∀ i j, i ≠ r → m i = some j → m j = some i ∧ (E i j = true ∨ E j i = true)) ∧ ∀ i, m i ≠ some r
def flp (m : MF) (l r : Nat) : MF := fun i => if i = r then some l else if i = l then some r else m i
theorem flp_r {l r : Nat} : flp m l r r = some l := if_pos rfl
theorem flp_l {l r : Nat} (h : l ≠ r) : flp m l r l = some r := by
  unfold flp
  rw [if_neg h, if_pos rfl]
theorem flp_o {l r i : Nat} (h : i ≠ r) (h2 : i ≠ l) : flp m l r i = m i := by
  unfold flp
  rw [if_neg h, if_neg h2]
theorem LR.ne (L : LR E n) {i j : Nat} (h : E i j = true) : i ≠ j := fun q => by
  subst q
  have := L.2 i i i h
  rw [h] at this
  cases this
theorem MT.d (M : MT E m) {r : Nat} (h : m r = none) : MD E m r := ⟨fun i j _ hij => M i j hij, fun i hi => by
  have := (M i r hi).1
  rw [h] at this
  cases this⟩
theorem ml_flp (L : LR E n) {l r : Nat} (he : E l r = true) (i : Nat) (hi : i ≠ l) : ml E (flp m l r) i = ml E m i := by
  by_cases q : i = r
  · subst q
    have e : ∀ j, E i j = false := fun j => by
      cases hj : E i j with
      | false => rfl
      | true =>
        have := L.2 i j l hj
        rw [he] at this
        cases this
    unfold ml
    rw [flp_r]
    dsimp only
    rw [e]
    cases m i with
    | none => rfl
    | some j => exact (e j).symm
  · unfold ml
    rw [flp_o q hi]
theorem flip_cs (L : LR E n) {l r : Nat} (he : E l r = true) {F G : Nat → Prop} (hc : CS E m F G) (hG : ¬G r) : CS E (flp m l r) F G := by
  refine ⟨hc.1, fun j hj => ?_⟩
  obtain ⟨i, h1, h2, h3⟩ := hc.2 j hj
  refine ⟨i, ?_, h2, h3⟩
  have n1 : j ≠ r := fun q => hG (by rw [← q]; exact hj)
  have n2 : j ≠ l := fun q => by
    subst q
    have := L.2 j r i he
    rw [h3] at this
    cases this
  rw [flp_o n1 n2]
  exact h1
theorem flip_more (L : LR E n) {d r b : Nat} (M : MD E m r) (C : Ch E m rb st (d + 1) r) (hb : m (rb r) = some b) : MD E (flp m (rb r) r) b ∧ Ch E (flp m (rb r) r) rb st d b ∧ (∀ i, ml E (flp m (rb r) r) i = ml E m i) ∧ b ≠ r ∧ rb r ≠ r ∧ ∀ F G, CS E m F G → ¬G r → ¬G b := by
  have he := C.e
  have nlr := L.ne he
  have nbr : b ≠ r := fun q => M.2 (rb r) (by rw [hb, q])
  have hbl := M.1 (rb r) b nlr hb
  have ebl : E (rb r) b = true := by
    rcases hbl.2 with z | z
    · exact z
    · have := L.2 _ _ b he
      rw [z] at this
      cases this
  have nbl : b ≠ rb r := fun q => L.ne ebl q.symm
  obtain ⟨_, r', hr', C'⟩ := C
  have e' : r' = b := by
    rw [hb] at hr'
    cases hr'
    rfl
  subst e'
  refine ⟨⟨fun i j hi hij => ?_, fun i hi => ?_⟩, ?_, fun i => ?_, nbr, nlr, fun F G hc hG hGb => ?_⟩
  · by_cases q1 : i = r
    · subst q1
      rw [flp_r] at hij
      cases hij
      exact ⟨flp_l nlr, .inr he⟩
    · by_cases q2 : i = rb r
      · subst q2
        rw [flp_l nlr] at hij
        cases hij
        exact ⟨flp_r, .inl he⟩
      · rw [flp_o q1 q2] at hij
        obtain ⟨h1, h2⟩ := M.1 i j q1 hij
        have n1 : j ≠ r := fun q => M.2 i (by rw [hij, q])
        have n2 : j ≠ rb r := fun q => by
          subst q
          rw [hb] at h1
          cases h1
          exact hi rfl
        rw [flp_o n1 n2]
        exact ⟨h1, h2⟩
  · by_cases q1 : i = r
    · subst q1
      rw [flp_r] at hi
      cases hi
      exact nbl rfl
    · by_cases q2 : i = rb r
      · subst q2
        rw [flp_l nlr] at hi
        cases hi
        exact nbr rfl
      · rw [flp_o q1 q2] at hi
        have h1 := (M.1 i r' q1 hi).1
        rw [hbl.1] at h1
        cases h1
        exact q2 rfl
  · have key : ∀ j r'', j ≤ d → Ch E m rb st j r'' → Ch E (flp m (rb r) r) rb st j r'' := by
      intro j
      induction j with
      | zero =>
        intro r'' _ hC
        have n1 : rb r'' ≠ r := fun q => by
          have := hC.e
          rw [q] at this
          have := L.2 r r'' (rb r) this
          rw [he] at this
          cases this
        have n2 : rb r'' ≠ rb r := fun q => by
          obtain ⟨_, h1, h2⟩ := hC
          rw [← h1, q, hb] at h2
          cases h2
        obtain ⟨h0, h1, h2⟩ := hC
        refine ⟨h0, h1, ?_⟩
        rw [h1] at n1 n2
        rw [flp_o n1 n2]
        exact h2
      | succ j ih =>
        intro r'' hj hC
        have n1 : rb r'' ≠ r := fun q => by
          have := hC.e
          rw [q] at this
          have := L.2 r r'' (rb r) this
          rw [he] at this
          cases this
        have n2 : rb r'' ≠ rb r := fun q => by
          obtain ⟨_, r3, h1, h2⟩ := hC
          rw [q, hb] at h1
          cases h1
          have := h2.uniq C'
          omega
        obtain ⟨h0, r3, h1, h2⟩ := hC
        refine ⟨h0, r3, ?_, ih r3 (by omega) h2⟩
        rw [flp_o n1 n2]
        exact h1
    exact key d r' (Nat.le_refl d) C'
  · by_cases q : i = rb r
    · subst q
      rw [ml_of (flp_l nlr) he, ml_of hb ebl]
    · exact ml_flp L he i q
  · obtain ⟨i, h1, h2, h3⟩ := hc.2 r' hGb
    rw [hbl.1] at h1
    cases h1
    exact hG (hc.1 _ _ h2 he)
theorem flip_last (L : LR E n) {r : Nat} (M : MD E m r) (C : Ch E m rb st 0 r) : MT E (flp m st r) ∧ (∀ i, ml E (flp m st r) i = (ml E m i || decide (i = st))) ∧ st ≠ r := by
  obtain ⟨he, h1, h2⟩ := C
  rw [h1] at he
  have nlr := L.ne he
  refine ⟨fun i j hij => ?_, fun i => ?_, nlr⟩
  · by_cases q1 : i = r
    · subst q1
      rw [flp_r] at hij
      cases hij
      exact ⟨flp_l nlr, .inr he⟩
    · by_cases q2 : i = st
      · subst q2
        rw [flp_l nlr] at hij
        cases hij
        exact ⟨flp_r, .inl he⟩
      · rw [flp_o q1 q2] at hij
        obtain ⟨h3, h4⟩ := M.1 i j q1 hij
        have n1 : j ≠ r := fun q => M.2 i (by rw [hij, q])
        have n2 : j ≠ st := fun q => by
          subst q
          rw [h2] at h3
          cases h3
        rw [flp_o n1 n2]
        exact ⟨h3, h4⟩
  · by_cases q : i = st
    · subst q
      rw [ml_of (flp_l nlr) he, decide_eq_true rfl, Bool.or_true]
    · rw [ml_flp L he i q, decide_eq_false q, Bool.or_false]
/-- what a flipped chain brings -/
def FR (E : EF) (m m' : MF) (st r : Nat) : Prop := MT E m' ∧ (∀ i, ml E m' i = (ml E m i || decide (i = st))) ∧ (∀ i, (m i).isSome = true → (m' i).isSome = true) ∧ ∀ F G, CS E m F G → ¬G r → CS E m' F G
theorem FR.last (L : LR E n) {r : Nat} (M : MD E m r) (C : Ch E m rb st 0 r) : FR E m (flp m st r) st r := by
  obtain ⟨h1, h2, h3⟩ := flip_last L M C
  have he := C.e
  rw [C.2.1] at he
  refine ⟨h1, h2, fun i hi => ?_, fun F G hc hG => flip_cs L he hc hG⟩
  unfold flp
  split
  · rfl
  · split
    · rfl
    · exact hi
theorem FR.more (L : LR E n) {d r b : Nat} {m' : MF} (M : MD E m r) (C : Ch E m rb st (d + 1) r) (hb : m (rb r) = some b) (h : FR E (flp m (rb r) r) m' st b) : FR E m m' st r := by
  obtain ⟨_, _, h3, _, _, h6⟩ := flip_more L M C hb
  obtain ⟨k1, k2, k3, k4⟩ := h
  refine ⟨k1, fun i => by rw [k2 i, h3 i], fun i hi => k3 i ?_, fun F G hc hG => k4 F G (flip_cs L C.e hc hG) (h6 F G hc hG)⟩
  unfold flp
  split
  · rfl
  · split
    · rfl
    · exact hi
/-- a search in width: the queue q of T left rows, the right rows seen, each reached by rb -/
def BQ (E : EF) (m : MF) (n st : Nat) (q : Nat → Nat) (T : Nat) (rb : Nat → Nat) (sn : Nat → Bool) : Prop := (q 0 = st ∧ 1 ≤ T ∧ st < n) ∧ (∀ p, 1 ≤ p → p < T → ∃ r p', sn r = true ∧ m (q p) = some r ∧ p' < p ∧ rb r = q p' ∧ E (q p') r = true) ∧ (∀ r, sn r = true → ∃ p, 1 ≤ p ∧ p < T ∧ m r = some (q p)) ∧ (∀ p p', p < T → p' < T → q p = q p' → p = p') ∧ ∀ p, p < T → q p < n
def ud {α : Type} (f : Nat → α) (k : Nat) (v : α) : Nat → α := fun i => if i = k then v else f i
theorem ud_e {α : Type} (f : Nat → α) (k : Nat) (v : α) : ud f k v k = v := if_pos rfl
theorem ud_n {α : Type} {f : Nat → α} {k i : Nat} {v : α} (h : i ≠ k) : ud f k v i = f i := if_neg h
theorem BQ.start {q : Nat → Nat} (h : q 0 = st) (hn : st < n) : BQ E m n st q 1 rb (fun _ => false) := ⟨⟨h, by decide, hn⟩, fun p h1 h2 => by omega, fun r hr => (by cases hr), fun p p' h1 h2 _ => by omega, fun p hp => by
  rw [show p = 0 by omega, h]
  exact hn⟩
theorem BQ.le {q : Nat → Nat} {T : Nat} {sn : Nat → Bool} (B : BQ E m n st q T rb sn) : T ≤ n := inj_le q (fun p hp => B.2.2.2.2 p hp) (fun p p' h1 h2 he => B.2.2.2.1 p p' h1 h2 he)
theorem BQ.edge {q : Nat → Nat} {T : Nat} {sn : Nat → Bool} (B : BQ E m n st q T rb sn) {p r : Nat} (hp : p < T) (he : E (q p) r = true) : ∃ j, E st j = true := by
  by_cases q0 : p = 0
  · subst q0
    rw [B.1.1] at he
    exact ⟨r, he⟩
  · obtain ⟨r', p', _, _, h3, _, h5⟩ := B.2.1 1 (by decide) (by omega)
    rw [show p' = 0 by omega, B.1.1] at h5
    exact ⟨r', h5⟩
theorem BQ.push (L : LR E n) (M : MT E m) {q : Nat → Nat} {T : Nat} {sn : Nat → Bool} (hst : ∀ j, E st j = true → m st = none) (B : BQ E m n st q T rb sn) {p r i : Nat} (hp : p < T) (he : E (q p) r = true) (hs : sn r = false) (hm : m r = some i) : BQ E m n st (ud q T i) (T + 1) (ud rb r (q p)) (fun x => sn x || decide (x = r)) := by
  have hst0 : m st = none := by
    obtain ⟨j, hj⟩ := B.edge hp he
    exact hst j hj
  obtain ⟨⟨b0, b1, b2⟩, b3, b4, b5, b6⟩ := B
  have hmi := M r i hm
  have hei : E i r = true := by
    rcases hmi.2 with z | z
    · have := L.2 r i (q p) z
      rw [he] at this
      cases this
    · exact z
  have nT : ∀ x, x < T → x ≠ T := fun x hx => by omega
  have fresh : ∀ x, x < T → q x ≠ i := fun x hx hq => by
    by_cases x0 : x = 0
    · subst x0
      rw [b0] at hq
      rw [← hq, hst0] at hmi
      cases hmi.1
    · obtain ⟨r', _, h1, h2, _⟩ := b3 x (by omega) hx
      rw [hq, hmi.1] at h2
      cases h2
      rw [hs] at h1
      cases h1
  refine ⟨⟨by rw [ud_n (by omega)]; exact b0, by omega, b2⟩, fun x h1 h2 => ?_, fun x hx => ?_, fun x y hx hy hxy => ?_, fun x hx => ?_⟩
  · by_cases xT : x = T
    · subst xT
      refine ⟨r, p, ?_, ?_, hp, ?_, ?_⟩
      · dsimp only
        rw [decide_eq_true rfl, Bool.or_true]
      · rw [ud_e]
        exact hmi.1
      · rw [ud_e, ud_n (nT p hp)]
      · rw [ud_n (nT p hp)]
        exact he
    · obtain ⟨r', p', h3, h4, h5, h6, h7⟩ := b3 x h1 (by omega)
      have nr : r' ≠ r := fun z => by
        rw [z, hs] at h3
        cases h3
      refine ⟨r', p', ?_, ?_, h5, ?_, ?_⟩
      · dsimp only
        rw [h3, Bool.true_or]
      · rw [ud_n xT]
        exact h4
      · rw [ud_n nr, ud_n (by omega)]
        exact h6
      · rw [ud_n (by omega)]
        exact h7
  · by_cases xr : x = r
    · subst xr
      refine ⟨T, b1, by omega, ?_⟩
      rw [ud_e]
      exact hm
    · dsimp only at hx
      rw [decide_eq_false xr, Bool.or_false] at hx
      obtain ⟨y, h1, h2, h3⟩ := b4 x hx
      refine ⟨y, h1, by omega, ?_⟩
      rw [ud_n (nT y h2)]
      exact h3
  · by_cases xT : x = T
    · by_cases yT : y = T
      · omega
      · rw [xT, ud_e, ud_n yT] at hxy
        exact absurd hxy.symm (fresh y (by omega))
    · by_cases yT : y = T
      · rw [yT, ud_e, ud_n xT] at hxy
        exact absurd hxy (fresh x (by omega))
      · rw [ud_n xT, ud_n yT] at hxy
        exact b5 x y (by omega) (by omega) hxy
  · by_cases xT : x = T
    · rw [xT, ud_e]
      exact (L.1 i r hei).1
    · rw [ud_n xT]
      exact b6 x (by omega)
theorem BQ.chain {q : Nat → Nat} {T : Nat} {sn : Nat → Bool} (h0 : m st = none) (B : BQ E m n st q T rb sn) : ∀ (p : Nat), p < T → ∀ r, E (q p) r = true → rb r = q p → ∃ d, Ch E m rb st d r := by
  intro p
  induction p using Nat.strongRecOn with
  | ind p ih =>
    intro hp r he hr
    by_cases p0 : p = 0
    · subst p0
      rw [B.1.1] at hr
      rw [B.1.1, ← hr] at he
      exact ⟨0, he, hr, h0⟩
    · obtain ⟨r', p', h1, h2, h3, h4, h5⟩ := B.2.1 p (by omega) hp
      obtain ⟨d, hd⟩ := ih p' h3 (by omega) r' h5 h4
      rw [← hr] at he h2
      exact ⟨d + 1, he, r', h2, hd⟩
theorem BQ.hit (M : MT E m) {q : Nat → Nat} {T : Nat} {sn : Nat → Bool} (hst : ∀ j, E st j = true → m st = none) (B : BQ E m n st q T rb sn) {p r : Nat} (hp : p < T) (he : E (q p) r = true) (hs : sn r = false) (hm : m r = none) : (∃ d, Ch E m (ud rb r (q p)) st d r) ∧ MD E m r ∧ ∀ F G, CS E m F G → ¬G r := by
  have hst0 : m st = none := by
    obtain ⟨j, hj⟩ := B.edge hp he
    exact hst j hj
  have B' : BQ E m n st q T (ud rb r (q p)) sn := by
    refine ⟨B.1, fun x h1 h2 => ?_, B.2.2.1, B.2.2.2.1, B.2.2.2.2⟩
    obtain ⟨r', p', h3, h4, h5, h6, h7⟩ := B.2.1 x h1 h2
    have nr : r' ≠ r := fun z => by
      rw [z, hs] at h3
      cases h3
    exact ⟨r', p', h3, h4, h5, by rw [ud_n nr]; exact h6, h7⟩
  refine ⟨B'.chain hst0 p hp r he (ud_e _ _ _), M.d hm, fun F G hc hG => ?_⟩
  obtain ⟨i, h1, _⟩ := hc.2 r hG
  rw [hm] at h1
  cases h1
theorem BQ.closed (L : LR E n) (M : MT E m) {q : Nat → Nat} {T : Nat} {sn : Nat → Bool} (B : BQ E m n st q T rb sn) (hall : ∀ p, p < T → ∀ r, E (q p) r = true → sn r = true) {F G : Nat → Prop} (hc : CS E m F G) : CS E m (fun i => F i ∨ ∃ p, p < T ∧ q p = i) (fun j => G j ∨ sn j = true) := by
  refine ⟨fun i j hF he => ?_, fun j hG => ?_⟩
  · rcases hF with z | ⟨p, p1, p2⟩
    · exact .inl (hc.1 i j z he)
    · subst p2
      exact .inr (hall p p1 j he)
  · rcases hG with z | z
    · obtain ⟨i, h1, h2, h3⟩ := hc.2 j z
      exact ⟨i, h1, .inl h2, h3⟩
    · obtain ⟨p, p1, p2, p3⟩ := B.2.2.1 j z
      refine ⟨q p, p3, .inr ⟨p, p2, rfl⟩, ?_⟩
      obtain ⟨r', p', h3, h4, h5, h6, h7⟩ := B.2.1 p p1 p2
      have h8 := (M j (q p) p3).1
      rw [h4] at h8
      cases h8
      rcases (M _ _ p3).2 with y | y
      · have := L.2 j (q p) (q p') y
        rw [h7] at this
        cases this
      · exact y
end CH
/-- a loop that may end early -/
theorem lpRes {α β : Type} {P : Nat → β → Prop} {F : Nat → β → α} {Q : α → Prop} {n : Nat} (hs : ∀ i x, i < n → P i x → Q (F i x) ∨ ∃ y, F i x = F (i + 1) y ∧ P (i + 1) y) (he : ∀ x, P n x → Q (F n x)) : ∀ {k i : Nat} {x : β}, i + k = n → P i x → Q (F i x)
  | 0, i, x, hk, hp => by
    have e : i = n := by omega
    subst e
    exact he x hp
  | k + 1, i, x, hk, hp => by
    rcases hs i x (by omega) hp with z | ⟨y, h1, h2⟩
    · exact z
    · rw [h1]
      exact lpRes hs he (k := k) (i := i + 1) (by omega) h2

