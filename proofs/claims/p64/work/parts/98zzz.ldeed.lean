/-! THE LAW: its numbers, its changes -/
section LAW2
variable {N : Nat} {xs : Nat → Int32} {h h' g : Hp} {b b' : Bk} {y y' dc ds : Nat}
theorem shr8 (x : Int32) : ∃ r, r < 16777216 ∧ (x.toUInt32 >>> ((8 : Int32).toUInt32 &&& Int32.toUInt32 31)).toInt32 = nI r := by
  refine ⟨(x.toUInt32 >>> ((8 : Int32).toUInt32 &&& Int32.toUInt32 31)).toNat, ?_, ?_⟩
  · have e : ((8 : Int32).toUInt32 &&& Int32.toUInt32 31) = 8 := by decide
    rw [e, UInt32.toNat_shiftRight]
    have := x.toUInt32.toNat_lt
    rw [Nat.shiftRight_eq_div_pow]
    show x.toUInt32.toNat / 2 ^ 8 < _
    omega
  · generalize (x.toUInt32 >>> ((8 : Int32).toUInt32 &&& Int32.toUInt32 31)) = u
    apply Int32.toBitVec_inj.mp
    show u.toBitVec = BitVec.ofNat 32 u.toNat
    exact (BitVec.ofNat_toNat 32 u.toBitVec).symm ▸ (by simp)
/-- one cell of the script, mixed -/
theorem cell_ok (k : HK h 30 = 200 ∧ HL h 30 = N) (hN : N ≤ 260) {i : Nat} (hi : i < 100000) : ∃ v, CL 185 [.ref 30, .int (nI i)] h = some (.ok (.int v), h) := by
  have hal : Nat.ble 100 (HK h 30) = true := by rw [k.1]; rfl
  rw [e185]
  by_cases q : i < N
  · have hc : chI h 30 200 (nI i) = true := chI_nI k.1 k.2 q (by omega)
    simp (disch := omega) only [hal, k.2, show ∀ n, Int32.ofNat n = nI n from fun _ => rfl, lt_nI, q, hc, cond_true, ↓reduceIte]
    rw [e185_15]
    exact ⟨_, rfl⟩
  · simp (disch := omega) only [hal, k.2, show ∀ n, Int32.ofNat n = nI n from fun _ => rfl, lt_nI, q, cond_true, ↓reduceIte]
    rw [e185_15]
    exact ⟨_, rfl⟩
theorem pick_ok (k : HK h 30 = 200 ∧ HL h 30 = N) (hN : N ≤ 260) {i m : Nat} (hi : i < 100000) (h0 : 0 < m) (hm : m < 100000) : ∃ r, r < m ∧ CL 186 [.ref 30, .int (nI i), .int (nI m)] h = some (.ok (.int (nI r)), h) := by
  obtain ⟨v, hv⟩ := cell_ok k hN hi
  obtain ⟨r, r1, r2⟩ := shr8 v
  have hz : ¬(nI m = 0) := by
    intro q
    have := congrArg Int32.toInt q
    rw [nI_toInt (by omega)] at this
    have h0 : ((0 : Int32)).toInt = 0 := by decide
    rw [h0] at this
    omega
  refine ⟨r % m, Nat.mod_lt _ h0, ?_⟩
  rw [e186, hv]
  simp only [bI_ok]
  rw [if_neg hz, r2, mod_nI (by omega) (by omega)]
theorem source_ok (k : HK h 30 = 200 ∧ HL h 30 = N) (hN : N ≤ 260) {i : Nat} (hi : i < 100000) : ∃ s, s < 3 ∧ CL 187 [.ref 30, .int (nI i)] h = some (.ok (.int (nI (97 + s))), h) := by
  obtain ⟨s, s1, s2⟩ := pick_ok k hN (m := 3) hi (by decide) (by decide)
  rw [← lz3] at s2
  refine ⟨s, s1, ?_⟩
  rw [e187, s2]
  simp (disch := omega) only [bI_ok, lz97, add_nI, i2c_nI, fit2_n, cond_true]
theorem told_ok (p : Bool) : CL 188 [.int (nI (b2n p))] h = some (.ok (.int (nI (b2n p))), h) := by
  rw [e188]
  cases p <;> rfl
end LAW2
theorem p191_0 (a0 : Nat) (a2 a3 a4 : Int32) (h : Hp) : CL 191 [.ref a0, .int (nI 0), .int a2, .int a3, .int a4] h = RF 191 44 [.ref a0, .int (nI 0), .int a2, .int a3, .int a4] [] h := by
  rw [e191, e191_1, if_neg (by decide), if_neg (by decide)]
  rfl
theorem p191_1 (a0 : Nat) (a2 a3 a4 : Int32) (h : Hp) : CL 191 [.ref a0, .int (nI 1), .int a2, .int a3, .int a4] h = RF 191 53 [.ref a0, .int (nI 1), .int a2, .int a3, .int a4] [] h := by
  rw [e191, e191_1, if_neg (by decide), if_neg (by decide)]
  rfl
theorem p191_2 (a0 : Nat) (a2 a3 a4 : Int32) (h : Hp) : CL 191 [.ref a0, .int (nI 2), .int a2, .int a3, .int a4] h = RF 191 62 [.ref a0, .int (nI 2), .int a2, .int a3, .int a4] [] h := by
  rw [e191, e191_1, if_neg (by decide), if_neg (by decide)]
  rfl
theorem p191_3 (a0 : Nat) (a2 a3 a4 : Int32) (h : Hp) : CL 191 [.ref a0, .int (nI 3), .int a2, .int a3, .int a4] h = RF 191 67 [.ref a0, .int (nI 3), .int a2, .int a3, .int a4] [] h := by
  rw [e191, e191_1, if_neg (by decide), if_neg (by decide)]
  rfl
theorem p191_4 (a0 : Nat) (a2 a3 a4 : Int32) (h : Hp) : CL 191 [.ref a0, .int (nI 4), .int a2, .int a3, .int a4] h = RF 191 72 [.ref a0, .int (nI 4), .int a2, .int a3, .int a4] [] h := by
  rw [e191, e191_1, if_neg (by decide), if_neg (by decide)]
  rfl
theorem p191_5 (a0 : Nat) (a2 a3 a4 : Int32) (h : Hp) : CL 191 [.ref a0, .int (nI 5), .int a2, .int a3, .int a4] h = RF 191 79 [.ref a0, .int (nI 5), .int a2, .int a3, .int a4] [] h := by
  rw [e191, e191_1, if_neg (by decide), if_neg (by decide)]
  rfl
theorem p191_6 (a0 : Nat) (a2 a3 a4 : Int32) (h : Hp) : CL 191 [.ref a0, .int (nI 6), .int a2, .int a3, .int a4] h = RF 191 86 [.ref a0, .int (nI 6), .int a2, .int a3, .int a4] [] h := by
  rw [e191, e191_1, if_neg (by decide), if_neg (by decide)]
  rfl
theorem p189_0 (a0 : Nat) (a2 a3 a4 : Int32) (h : Hp) : CL 189 [.ref a0, .int (nI 0), .int a2, .int a3, .int a4] h = RF 189 64 [.ref a0, .int (nI 0), .int a2, .int a3, .int a4] [] h := by
  rw [e189, e189_1, if_neg (by decide), if_neg (by decide)]
  rfl
theorem p189_1 (a0 : Nat) (a2 a3 a4 : Int32) (h : Hp) : CL 189 [.ref a0, .int (nI 1), .int a2, .int a3, .int a4] h = RF 189 71 [.ref a0, .int (nI 1), .int a2, .int a3, .int a4] [] h := by
  rw [e189, e189_1, if_neg (by decide), if_neg (by decide)]
  rfl
theorem p189_2 (a0 : Nat) (a2 a3 a4 : Int32) (h : Hp) : CL 189 [.ref a0, .int (nI 2), .int a2, .int a3, .int a4] h = RF 189 78 [.ref a0, .int (nI 2), .int a2, .int a3, .int a4] [] h := by
  rw [e189, e189_1, if_neg (by decide), if_neg (by decide)]
  rfl
theorem p189_3 (a0 : Nat) (a2 a3 a4 : Int32) (h : Hp) : CL 189 [.ref a0, .int (nI 3), .int a2, .int a3, .int a4] h = RF 189 84 [.ref a0, .int (nI 3), .int a2, .int a3, .int a4] [] h := by
  rw [e189, e189_1, if_neg (by decide), if_neg (by decide)]
  rfl
theorem p189_4 (a0 : Nat) (a2 a3 a4 : Int32) (h : Hp) : CL 189 [.ref a0, .int (nI 4), .int a2, .int a3, .int a4] h = RF 189 90 [.ref a0, .int (nI 4), .int a2, .int a3, .int a4] [] h := by
  rw [e189, e189_1, if_neg (by decide), if_neg (by decide)]
  rfl
theorem p189_5 (a0 : Nat) (a2 a3 a4 : Int32) (h : Hp) : CL 189 [.ref a0, .int (nI 5), .int a2, .int a3, .int a4] h = RF 189 96 [.ref a0, .int (nI 5), .int a2, .int a3, .int a4] [] h := by
  rw [e189, e189_1, if_neg (by decide), if_neg (by decide)]
  rfl
theorem p189_6 (a0 : Nat) (a2 a3 a4 : Int32) (h : Hp) : CL 189 [.ref a0, .int (nI 6), .int a2, .int a3, .int a4] h = RF 189 102 [.ref a0, .int (nI 6), .int a2, .int a3, .int a4] [] h := by
  rw [e189, e189_1, if_neg (by decide), if_neg (by decide)]
  rfl
theorem p189_7 (a0 : Nat) (a2 a3 a4 : Int32) (h : Hp) : CL 189 [.ref a0, .int (nI 7), .int a2, .int a3, .int a4] h = RF 189 110 [.ref a0, .int (nI 7), .int a2, .int a3, .int a4] [] h := by
  rw [e189, e189_1, if_neg (by decide), if_neg (by decide)]
  rfl
theorem p189_8 (a0 : Nat) (a2 a3 a4 : Int32) (h : Hp) : CL 189 [.ref a0, .int (nI 8), .int a2, .int a3, .int a4] h = RF 189 122 [.ref a0, .int (nI 8), .int a2, .int a3, .int a4] [] h := by
  rw [e189, e189_1, if_neg (by decide), if_neg (by decide)]
  rfl
theorem p189_9 (a0 : Nat) (a2 a3 a4 : Int32) (h : Hp) : CL 189 [.ref a0, .int (nI 9), .int a2, .int a3, .int a4] h = RF 189 129 [.ref a0, .int (nI 9), .int a2, .int a3, .int a4] [] h := by
  rw [e189, e189_1, if_neg (by decide), if_neg (by decide)]
  rfl
theorem p189_12 (a0 : Nat) (a2 a3 a4 : Int32) (h : Hp) : CL 189 [.ref a0, .int (nI 12), .int a2, .int a3, .int a4] h = RF 189 145 [.ref a0, .int (nI 12), .int a2, .int a3, .int a4] [] h := by
  rw [e189, e189_1, if_neg (by decide), if_pos (by decide)]

theorem am_in {a : Int32} (q : inr 1 99 a = true) : ∃ a0, a = nI a0 ∧ a0 ≤ 99 := by
  obtain ⟨j, h1, h2, rfl⟩ := inr_t (by decide) (by decide) q
  exact ⟨j, rfl, h2⟩
theorem am0 {b : Bk} {s k : Nat} {a : Int32} (hf : flB b 0 s k a = 0) : ∃ a0, a = nI a0 ∧ a0 ≤ 99 := by
  have e : flB b 0 s k a = (if inr 1 99 a then (if kN b < 12 then 0 else 3) else 1) := rfl
  rw [e] at hf
  split at hf
  · rename_i q
    exact am_in q
  · cases hf
theorem am1 {b : Bk} {s k : Nat} {a : Int32} (hf : flB b 1 s k a = 0) : ∃ a0, a = nI a0 ∧ a0 ≤ 99 := by
  have e : flB b 1 s k a = (if inr 1 99 a then (match la? (isQ (kQ b) s k a.toNatClampNeg) (kN b) with
    | some _ => 0
    | none => 2) else 1) := rfl
  rw [e] at hf
  split at hf
  · rename_i q
    exact am_in q
  · cases hf
theorem am6 {b : Bk} {s k : Nat} {a : Int32} (hf : flB b 6 s k a = 0) : ∃ a0, a = nI a0 ∧ a0 ≤ 99 := by
  have e : flB b 6 s k a = (if inr 1 99 a then 0 else 1) := rfl
  rw [e] at hf
  split at hf
  · rename_i q
    exact am_in q
  · cases hf
/-- what a change through the law's own call comes to: a number; the book a book -/
def De (N : Nat) (xs : Nat → Int32) (h : Hp) (y : Nat) (r : Res) : Prop := ∃ v g b', r = some (.ok (.int v), g) ∧ LK N xs g b' (y + 99) ∧ Rm h g 1 6 ∧ (∃ f', (g = wI h f' ∨ g = wI (hthr h) f') ∧ ∀ a z, ¬(32 ≤ a ∧ a < 49) → ¬(83 ≤ a ∧ a < 221) → f' a z = HI h a z)
section LAW3
variable {N : Nat} {xs : Nat → Int32} {h : Hp} {b : Bk} {y : Nat}
theorem De.of {r r' : Res} (D : Dn N xs h y r) (ho : ∀ v g, r = some (.ok (.int v), g) → r' = some (.ok (.int v), g)) (he : ∀ e g, r = some (.error e, g) → (e = 1 ∨ e = 2 ∨ e = 4) → ∃ v, r' = some (.ok (.int v), g)) : De N xs h y r' := by
  obtain ⟨b', f', F, D⟩ := D
  rcases D with ⟨v, d1, d2⟩ | ⟨e, d1, d2, d3⟩
  · exact ⟨v, _, b', ho v _ d1, d2, ⟨Nat.le_add_right _ _, Nat.le_add_right _ _⟩, f', Or.inl rfl, F⟩
  · obtain ⟨v, hv⟩ := he e _ d1 d2
    exact ⟨v, _, b', hv, d3, Rm.thr h, HI h, Or.inr rfl, fun _ _ _ _ => rfl⟩
theorem cho155 (k8 : ckK h 31 8 = true) (x k a : Int32) {v : Int32} {g : Hp} (hc : CL 54 [.ref 31, .int (nI 0), .int (x), .int (k), .int (a)] h = some (.ok (.int v), g)) : CL 155 [.ref 31, .int x, .int k, .int a] h = some (.ok (.int v), g) := by
  rw [e155, k8]
  exact congrArg (fun q => bI q (fun x h => some (.ok (.int x), h)) thr) hc
theorem chx155 (k8 : ckK h 31 8 = true) (x k a : Int32) {e : Nat} {g : Hp} (hc : CL 54 [.ref 31, .int (nI 0), .int (x), .int (k), .int (a)] h = some (.error e, g)) : CL 155 [.ref 31, .int x, .int k, .int a] h = some (.error e, g) := by
  rw [e155, k8]
  exact congrArg (fun q => bI q (fun x h => some (.ok (.int x), h)) thr) hc
theorem dd0 (k8 : ckK h 31 8 = true) (x k a : Int32) : CL 192 [.ref 31, .int (nI 0), .int x, .int k, .int a] h = bI (bI (CL 155 [.ref 31, .int x, .int k, .int a] h) (fun x h => some (.ok (.int x), h)) thr) (fun x2 h1 => some (.ok (.int x2), h1)) (fun e h1 => if e = 1 then some (.ok (.int ((-2003) : Int32)), h1) else if e = 2 then some (.ok (.int ((-2005) : Int32)), h1) else if e = 4 then some (.ok (.int ((-2004) : Int32)), h1) else some (.error e, h1)) := by
  rw [e192, p191_0, e191_44, k8]
  rfl
theorem deo0 (k8 : ckK h 31 8 = true) (x k a : Int32) {v : Int32} {g : Hp} (hc : CL 54 [.ref 31, .int (nI 0), .int (x), .int (k), .int (a)] h = some (.ok (.int v), g)) : CL 192 [.ref 31, .int (nI 0), .int x, .int k, .int a] h = some (.ok (.int v), g) := by
  rw [dd0 k8, cho155 k8 x k a hc]
  rfl
theorem dex0 (k8 : ckK h 31 8 = true) (x k a : Int32) {e : Nat} {g : Hp} (hc : CL 54 [.ref 31, .int (nI 0), .int (x), .int (k), .int (a)] h = some (.error e, g)) : CL 192 [.ref 31, .int (nI 0), .int x, .int k, .int a] h = (if e = 1 then some (.ok (.int ((-2003) : Int32)), g) else if e = 2 then some (.ok (.int ((-2005) : Int32)), g) else if e = 4 then some (.ok (.int ((-2004) : Int32)), g) else some (.error e, g)) := by
  rw [dd0 k8, chx155 k8 x k a hc]
  rfl
theorem deed0 (K : LK N xs h b y) (hy : y < 1000000000) (x k a : Int32) (hk0 : ∃ k0, k = nI k0 ∧ k0 < 100) : De N xs h y (CL 192 [.ref 31, .int (nI 0), .int x, .int k, .int a] h) := by
  refine De.of (K.any hy (j := 0) (by decide) (x) (k) (a) (fun _ => hk0) (fun s k0 hf => ?_)) (fun v g hc => deo0 K.k8 x k a hc) (fun e g hc he => ?_)
  · exact am0 hf
  · rw [dex0 K.k8 x k a hc]
    rcases he with rfl | rfl | rfl <;> exact ⟨_, rfl⟩
theorem cho184 (k8 : ckK h 31 8 = true) (x k a : Int32) {v : Int32} {g : Hp} (hc : CL 54 [.ref 31, .int (nI 1), .int (x), .int (k), .int (a)] h = some (.ok (.int v), g)) : CL 184 [.ref 31, .int x, .int k, .int a] h = some (.ok (.int v), g) := by
  rw [e184, k8]
  exact congrArg (fun q => bI q (fun x h => some (.ok (.int x), h)) thr) hc
theorem chx184 (k8 : ckK h 31 8 = true) (x k a : Int32) {e : Nat} {g : Hp} (hc : CL 54 [.ref 31, .int (nI 1), .int (x), .int (k), .int (a)] h = some (.error e, g)) : CL 184 [.ref 31, .int x, .int k, .int a] h = some (.error e, g) := by
  rw [e184, k8]
  exact congrArg (fun q => bI q (fun x h => some (.ok (.int x), h)) thr) hc
theorem dd1 (k8 : ckK h 31 8 = true) (x k a : Int32) : CL 192 [.ref 31, .int (nI 1), .int x, .int k, .int a] h = bI (bI (CL 184 [.ref 31, .int x, .int k, .int a] h) (fun x h => some (.ok (.int x), h)) thr) (fun x2 h1 => some (.ok (.int x2), h1)) (fun e h1 => if e = 1 then some (.ok (.int ((-2003) : Int32)), h1) else if e = 2 then some (.ok (.int ((-2005) : Int32)), h1) else if e = 4 then some (.ok (.int ((-2004) : Int32)), h1) else some (.error e, h1)) := by
  rw [e192, p191_1, e191_53, k8]
  rfl
theorem deo1 (k8 : ckK h 31 8 = true) (x k a : Int32) {v : Int32} {g : Hp} (hc : CL 54 [.ref 31, .int (nI 1), .int (x), .int (k), .int (a)] h = some (.ok (.int v), g)) : CL 192 [.ref 31, .int (nI 1), .int x, .int k, .int a] h = some (.ok (.int v), g) := by
  rw [dd1 k8, cho184 k8 x k a hc]
  rfl
theorem dex1 (k8 : ckK h 31 8 = true) (x k a : Int32) {e : Nat} {g : Hp} (hc : CL 54 [.ref 31, .int (nI 1), .int (x), .int (k), .int (a)] h = some (.error e, g)) : CL 192 [.ref 31, .int (nI 1), .int x, .int k, .int a] h = (if e = 1 then some (.ok (.int ((-2003) : Int32)), g) else if e = 2 then some (.ok (.int ((-2005) : Int32)), g) else if e = 4 then some (.ok (.int ((-2004) : Int32)), g) else some (.error e, g)) := by
  rw [dd1 k8, chx184 k8 x k a hc]
  rfl
theorem deed1 (K : LK N xs h b y) (hy : y < 1000000000) (x k a : Int32) : De N xs h y (CL 192 [.ref 31, .int (nI 1), .int x, .int k, .int a] h) := by
  refine De.of (K.any hy (j := 1) (by decide) (x) (k) (a) (fun z => absurd z (by decide)) (fun s k0 hf => ?_)) (fun v g hc => deo1 K.k8 x k a hc) (fun e g hc he => ?_)
  · exact am1 hf
  · rw [dex1 K.k8 x k a hc]
    rcases he with rfl | rfl | rfl <;> exact ⟨_, rfl⟩
theorem cho55 (k8 : ckK h 31 8 = true) {v : Int32} {g : Hp} (hc : CL 54 [.ref 31, .int (nI 2), .int (nI (97 + 0)), .int (nI 0), .int (nI 0)] h = some (.ok (.int v), g)) : CL 55 [.ref 31] h = some (.ok (.int v), g) := by
  rw [e55, k8]
  exact congrArg (fun q => bI q (fun x h => some (.ok (.int x), h)) thr) hc
theorem chx55 (k8 : ckK h 31 8 = true) {e : Nat} {g : Hp} (hc : CL 54 [.ref 31, .int (nI 2), .int (nI (97 + 0)), .int (nI 0), .int (nI 0)] h = some (.error e, g)) : CL 55 [.ref 31] h = some (.error e, g) := by
  rw [e55, k8]
  exact congrArg (fun q => bI q (fun x h => some (.ok (.int x), h)) thr) hc
theorem dd2 (k8 : ckK h 31 8 = true) (x k a : Int32) : CL 192 [.ref 31, .int (nI 2), .int x, .int k, .int a] h = bI (bI (CL 55 [.ref 31] h) (fun x h => some (.ok (.int x), h)) thr) (fun x2 h1 => some (.ok (.int x2), h1)) (fun e h1 => if e = 1 then some (.ok (.int ((-2003) : Int32)), h1) else if e = 2 then some (.ok (.int ((-2005) : Int32)), h1) else if e = 4 then some (.ok (.int ((-2004) : Int32)), h1) else some (.error e, h1)) := by
  rw [e192, p191_2, e191_62, k8]
  rfl
theorem deo2 (k8 : ckK h 31 8 = true) (x k a : Int32) {v : Int32} {g : Hp} (hc : CL 54 [.ref 31, .int (nI 2), .int (nI (97 + 0)), .int (nI 0), .int (nI 0)] h = some (.ok (.int v), g)) : CL 192 [.ref 31, .int (nI 2), .int x, .int k, .int a] h = some (.ok (.int v), g) := by
  rw [dd2 k8, cho55 k8 hc]
  rfl
theorem dex2 (k8 : ckK h 31 8 = true) (x k a : Int32) {e : Nat} {g : Hp} (hc : CL 54 [.ref 31, .int (nI 2), .int (nI (97 + 0)), .int (nI 0), .int (nI 0)] h = some (.error e, g)) : CL 192 [.ref 31, .int (nI 2), .int x, .int k, .int a] h = (if e = 1 then some (.ok (.int ((-2003) : Int32)), g) else if e = 2 then some (.ok (.int ((-2005) : Int32)), g) else if e = 4 then some (.ok (.int ((-2004) : Int32)), g) else some (.error e, g)) := by
  rw [dd2 k8, chx55 k8 hc]
  rfl
theorem deed2 (K : LK N xs h b y) (hy : y < 1000000000) (x k a : Int32) : De N xs h y (CL 192 [.ref 31, .int (nI 2), .int x, .int k, .int a] h) := by
  refine De.of (K.any hy (j := 2) (by decide) (nI (97 + 0)) (nI 0) (nI 0) (fun z => absurd z (by decide)) (fun s k0 hf => ?_)) (fun v g hc => deo2 K.k8 x k a hc) (fun e g hc he => ?_)
  · exact ⟨0, rfl, by decide⟩
  · rw [dex2 K.k8 x k a hc]
    rcases he with rfl | rfl | rfl <;> exact ⟨_, rfl⟩
theorem cho153 (k8 : ckK h 31 8 = true) {v : Int32} {g : Hp} (hc : CL 54 [.ref 31, .int (nI 3), .int (nI (97 + 0)), .int (nI 0), .int (nI 0)] h = some (.ok (.int v), g)) : CL 153 [.ref 31] h = some (.ok (.int v), g) := by
  rw [e153, k8]
  exact congrArg (fun q => bI q (fun x h => some (.ok (.int x), h)) thr) hc
theorem chx153 (k8 : ckK h 31 8 = true) {e : Nat} {g : Hp} (hc : CL 54 [.ref 31, .int (nI 3), .int (nI (97 + 0)), .int (nI 0), .int (nI 0)] h = some (.error e, g)) : CL 153 [.ref 31] h = some (.error e, g) := by
  rw [e153, k8]
  exact congrArg (fun q => bI q (fun x h => some (.ok (.int x), h)) thr) hc
theorem dd3 (k8 : ckK h 31 8 = true) (x k a : Int32) : CL 192 [.ref 31, .int (nI 3), .int x, .int k, .int a] h = bI (bI (CL 153 [.ref 31] h) (fun x h => some (.ok (.int x), h)) thr) (fun x2 h1 => some (.ok (.int x2), h1)) (fun e h1 => if e = 1 then some (.ok (.int ((-2003) : Int32)), h1) else if e = 2 then some (.ok (.int ((-2005) : Int32)), h1) else if e = 4 then some (.ok (.int ((-2004) : Int32)), h1) else some (.error e, h1)) := by
  rw [e192, p191_3, e191_67, k8]
  rfl
theorem deo3 (k8 : ckK h 31 8 = true) (x k a : Int32) {v : Int32} {g : Hp} (hc : CL 54 [.ref 31, .int (nI 3), .int (nI (97 + 0)), .int (nI 0), .int (nI 0)] h = some (.ok (.int v), g)) : CL 192 [.ref 31, .int (nI 3), .int x, .int k, .int a] h = some (.ok (.int v), g) := by
  rw [dd3 k8, cho153 k8 hc]
  rfl
theorem dex3 (k8 : ckK h 31 8 = true) (x k a : Int32) {e : Nat} {g : Hp} (hc : CL 54 [.ref 31, .int (nI 3), .int (nI (97 + 0)), .int (nI 0), .int (nI 0)] h = some (.error e, g)) : CL 192 [.ref 31, .int (nI 3), .int x, .int k, .int a] h = (if e = 1 then some (.ok (.int ((-2003) : Int32)), g) else if e = 2 then some (.ok (.int ((-2005) : Int32)), g) else if e = 4 then some (.ok (.int ((-2004) : Int32)), g) else some (.error e, g)) := by
  rw [dd3 k8, chx153 k8 hc]
  rfl
theorem deed3 (K : LK N xs h b y) (hy : y < 1000000000) (x k a : Int32) : De N xs h y (CL 192 [.ref 31, .int (nI 3), .int x, .int k, .int a] h) := by
  refine De.of (K.any hy (j := 3) (by decide) (nI (97 + 0)) (nI 0) (nI 0) (fun z => absurd z (by decide)) (fun s k0 hf => ?_)) (fun v g hc => deo3 K.k8 x k a hc) (fun e g hc he => ?_)
  · exact ⟨0, rfl, by decide⟩
  · rw [dex3 K.k8 x k a hc]
    rcases he with rfl | rfl | rfl <;> exact ⟨_, rfl⟩
theorem cho176 (k8 : ckK h 31 8 = true) (x k : Int32) {v : Int32} {g : Hp} (hc : CL 54 [.ref 31, .int (nI 4), .int (x), .int (k), .int (nI 0)] h = some (.ok (.int v), g)) : CL 176 [.ref 31, .int x, .int k] h = some (.ok (.int v), g) := by
  rw [e176, k8]
  exact congrArg (fun q => bI q (fun x h => some (.ok (.int x), h)) thr) hc
theorem chx176 (k8 : ckK h 31 8 = true) (x k : Int32) {e : Nat} {g : Hp} (hc : CL 54 [.ref 31, .int (nI 4), .int (x), .int (k), .int (nI 0)] h = some (.error e, g)) : CL 176 [.ref 31, .int x, .int k] h = some (.error e, g) := by
  rw [e176, k8]
  exact congrArg (fun q => bI q (fun x h => some (.ok (.int x), h)) thr) hc
theorem dd4 (k8 : ckK h 31 8 = true) (x k a : Int32) : CL 192 [.ref 31, .int (nI 4), .int x, .int k, .int a] h = bI (bI (CL 176 [.ref 31, .int x, .int k] h) (fun x h => some (.ok (.int x), h)) thr) (fun x2 h1 => some (.ok (.int x2), h1)) (fun e h1 => if e = 1 then some (.ok (.int ((-2003) : Int32)), h1) else if e = 2 then some (.ok (.int ((-2005) : Int32)), h1) else if e = 4 then some (.ok (.int ((-2004) : Int32)), h1) else some (.error e, h1)) := by
  rw [e192, p191_4, e191_72, k8]
  rfl
theorem deo4 (k8 : ckK h 31 8 = true) (x k a : Int32) {v : Int32} {g : Hp} (hc : CL 54 [.ref 31, .int (nI 4), .int (x), .int (k), .int (nI 0)] h = some (.ok (.int v), g)) : CL 192 [.ref 31, .int (nI 4), .int x, .int k, .int a] h = some (.ok (.int v), g) := by
  rw [dd4 k8, cho176 k8 x k hc]
  rfl
theorem dex4 (k8 : ckK h 31 8 = true) (x k a : Int32) {e : Nat} {g : Hp} (hc : CL 54 [.ref 31, .int (nI 4), .int (x), .int (k), .int (nI 0)] h = some (.error e, g)) : CL 192 [.ref 31, .int (nI 4), .int x, .int k, .int a] h = (if e = 1 then some (.ok (.int ((-2003) : Int32)), g) else if e = 2 then some (.ok (.int ((-2005) : Int32)), g) else if e = 4 then some (.ok (.int ((-2004) : Int32)), g) else some (.error e, g)) := by
  rw [dd4 k8, chx176 k8 x k hc]
  rfl
theorem deed4 (K : LK N xs h b y) (hy : y < 1000000000) (x k a : Int32) : De N xs h y (CL 192 [.ref 31, .int (nI 4), .int x, .int k, .int a] h) := by
  refine De.of (K.any hy (j := 4) (by decide) (x) (k) (nI 0) (fun z => absurd z (by decide)) (fun s k0 hf => ?_)) (fun v g hc => deo4 K.k8 x k a hc) (fun e g hc he => ?_)
  · exact ⟨0, rfl, by decide⟩
  · rw [dex4 K.k8 x k a hc]
    rcases he with rfl | rfl | rfl <;> exact ⟨_, rfl⟩
theorem cho66 (k8 : ckK h 31 8 = true) (x k : Int32) {v : Int32} {g : Hp} (hc : CL 54 [.ref 31, .int (nI 5), .int (x), .int (k), .int (nI 0)] h = some (.ok (.int v), g)) : CL 66 [.ref 31, .int x, .int k] h = some (.ok (.int v), g) := by
  rw [e66, k8]
  exact congrArg (fun q => bI q (fun x h => some (.ok (.int x), h)) thr) hc
theorem chx66 (k8 : ckK h 31 8 = true) (x k : Int32) {e : Nat} {g : Hp} (hc : CL 54 [.ref 31, .int (nI 5), .int (x), .int (k), .int (nI 0)] h = some (.error e, g)) : CL 66 [.ref 31, .int x, .int k] h = some (.error e, g) := by
  rw [e66, k8]
  exact congrArg (fun q => bI q (fun x h => some (.ok (.int x), h)) thr) hc
theorem dd5 (k8 : ckK h 31 8 = true) (x k a : Int32) : CL 192 [.ref 31, .int (nI 5), .int x, .int k, .int a] h = bI (bI (CL 66 [.ref 31, .int x, .int k] h) (fun x h => some (.ok (.int x), h)) thr) (fun x2 h1 => some (.ok (.int x2), h1)) (fun e h1 => if e = 1 then some (.ok (.int ((-2003) : Int32)), h1) else if e = 2 then some (.ok (.int ((-2005) : Int32)), h1) else if e = 4 then some (.ok (.int ((-2004) : Int32)), h1) else some (.error e, h1)) := by
  rw [e192, p191_5, e191_79, k8]
  rfl
theorem deo5 (k8 : ckK h 31 8 = true) (x k a : Int32) {v : Int32} {g : Hp} (hc : CL 54 [.ref 31, .int (nI 5), .int (x), .int (k), .int (nI 0)] h = some (.ok (.int v), g)) : CL 192 [.ref 31, .int (nI 5), .int x, .int k, .int a] h = some (.ok (.int v), g) := by
  rw [dd5 k8, cho66 k8 x k hc]
  rfl
theorem dex5 (k8 : ckK h 31 8 = true) (x k a : Int32) {e : Nat} {g : Hp} (hc : CL 54 [.ref 31, .int (nI 5), .int (x), .int (k), .int (nI 0)] h = some (.error e, g)) : CL 192 [.ref 31, .int (nI 5), .int x, .int k, .int a] h = (if e = 1 then some (.ok (.int ((-2003) : Int32)), g) else if e = 2 then some (.ok (.int ((-2005) : Int32)), g) else if e = 4 then some (.ok (.int ((-2004) : Int32)), g) else some (.error e, g)) := by
  rw [dd5 k8, chx66 k8 x k hc]
  rfl
theorem deed5 (K : LK N xs h b y) (hy : y < 1000000000) (x k a : Int32) : De N xs h y (CL 192 [.ref 31, .int (nI 5), .int x, .int k, .int a] h) := by
  refine De.of (K.any hy (j := 5) (by decide) (x) (k) (nI 0) (fun z => absurd z (by decide)) (fun s k0 hf => ?_)) (fun v g hc => deo5 K.k8 x k a hc) (fun e g hc he => ?_)
  · exact ⟨0, rfl, by decide⟩
  · rw [dex5 K.k8 x k a hc]
    rcases he with rfl | rfl | rfl <;> exact ⟨_, rfl⟩
theorem cho146 (k8 : ckK h 31 8 = true) (k : Int32) {v : Int32} {g : Hp} (hc : CL 54 [.ref 31, .int (nI 6), .int (nI (97 + 0)), .int (nI 0), .int (k)] h = some (.ok (.int v), g)) : CL 146 [.ref 31, .int k] h = some (.ok (.int v), g) := by
  rw [e146, k8]
  exact congrArg (fun q => bI q (fun x h => some (.ok (.int x), h)) thr) hc
theorem chx146 (k8 : ckK h 31 8 = true) (k : Int32) {e : Nat} {g : Hp} (hc : CL 54 [.ref 31, .int (nI 6), .int (nI (97 + 0)), .int (nI 0), .int (k)] h = some (.error e, g)) : CL 146 [.ref 31, .int k] h = some (.error e, g) := by
  rw [e146, k8]
  exact congrArg (fun q => bI q (fun x h => some (.ok (.int x), h)) thr) hc
theorem dd6 (k8 : ckK h 31 8 = true) (x k a : Int32) : CL 192 [.ref 31, .int (nI 6), .int x, .int k, .int a] h = bI (bI (CL 146 [.ref 31, .int k] h) (fun x h => some (.ok (.int x), h)) thr) (fun x2 h1 => some (.ok (.int x2), h1)) (fun e h1 => if e = 1 then some (.ok (.int ((-2003) : Int32)), h1) else if e = 2 then some (.ok (.int ((-2005) : Int32)), h1) else if e = 4 then some (.ok (.int ((-2004) : Int32)), h1) else some (.error e, h1)) := by
  rw [e192, p191_6, e191_86, k8]
  rfl
theorem deo6 (k8 : ckK h 31 8 = true) (x k a : Int32) {v : Int32} {g : Hp} (hc : CL 54 [.ref 31, .int (nI 6), .int (nI (97 + 0)), .int (nI 0), .int (k)] h = some (.ok (.int v), g)) : CL 192 [.ref 31, .int (nI 6), .int x, .int k, .int a] h = some (.ok (.int v), g) := by
  rw [dd6 k8, cho146 k8 k hc]
  rfl
theorem dex6 (k8 : ckK h 31 8 = true) (x k a : Int32) {e : Nat} {g : Hp} (hc : CL 54 [.ref 31, .int (nI 6), .int (nI (97 + 0)), .int (nI 0), .int (k)] h = some (.error e, g)) : CL 192 [.ref 31, .int (nI 6), .int x, .int k, .int a] h = (if e = 1 then some (.ok (.int ((-2003) : Int32)), g) else if e = 2 then some (.ok (.int ((-2005) : Int32)), g) else if e = 4 then some (.ok (.int ((-2004) : Int32)), g) else some (.error e, g)) := by
  rw [dd6 k8, chx146 k8 k hc]
  rfl
theorem deed6 (K : LK N xs h b y) (hy : y < 1000000000) (x k a : Int32) : De N xs h y (CL 192 [.ref 31, .int (nI 6), .int x, .int k, .int a] h) := by
  refine De.of (K.any hy (j := 6) (by decide) (nI (97 + 0)) (nI 0) (k) (fun z => absurd z (by decide)) (fun s k0 hf => ?_)) (fun v g hc => deo6 K.k8 x k a hc) (fun e g hc he => ?_)
  · exact am6 hf
  · rw [dex6 K.k8 x k a hc]
    rcases he with rfl | rfl | rfl <;> exact ⟨_, rfl⟩
end LAW3
