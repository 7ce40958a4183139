/-! HOW MANY BITS -/
theorem and_split {A B m M : Nat} (hA : A < 256) (hm : m < 256) : (A + 256 * B) &&& (m + 256 * M) = (A &&& m) + 256 * (B &&& M) := by
  apply Nat.eq_of_testBit_eq
  intro i
  have t : ∀ a b : Nat, a < 256 → (a + 256 * b).testBit i = if i < 8 then a.testBit i else b.testBit (i - 8) := fun a b ha => by
    have := Nat.testBit_two_pow_mul_add b (i := 8) (show a < 2 ^ 8 from ha) i
    rw [Nat.add_comm]
    exact this
  rw [Nat.testBit_and, t _ _ hA, t _ _ hm, t _ _ (Nat.lt_of_le_of_lt Nat.and_le_left hA)]
  split
  · rw [Nat.testBit_and]
  · rw [Nat.testBit_and]
def by4 (a b c d : Nat) : Nat := a + 256 * (b + 256 * (c + 256 * d))
theorem and4 {a b c d m : Nat} (ha : a < 256) (hb : b < 256) (hc : c < 256) (hd : d < 256) (hm : m < 256) : by4 a b c d &&& by4 m m m m = by4 (a &&& m) (b &&& m) (c &&& m) (d &&& m) := by
  unfold by4
  rw [and_split ha hm, and_split hb hm, and_split hc hm]
def v1b (b : Nat) : Nat := b - (b / 2 &&& 85)
def v2b (d : Nat) : Nat := (d &&& 51) + (d / 4 &&& 51)
def v3b (g : Nat) : Nat := (g + g / 16) &&& 15
def po8 (b : Nat) : Nat := sumN (fun i => b2n (b.testBit i)) 8
theorem bd1 : ∀ b, b < 256 → ∀ t, t < 2 → ((b / 2 + 128 * t) &&& 85) = (b / 2 &&& 85) ∧ (b / 2 &&& 85) ≤ b ∧ v1b b < 256 := by decide +kernel
theorem bd2 : ∀ b, b < 256 → ∀ t, t < 4 → ((b / 4 + 64 * t) &&& 51) = (b / 4 &&& 51) := by decide +kernel
theorem bd3 : ∀ b, b < 256 → v2b (v1b b) ≤ 68 ∧ v2b (v1b b) % 16 ≤ 4 ∧ v3b (v2b (v1b b)) = po8 b ∧ po8 b ≤ 8 ∧ (v1b b &&& 51) + (v1b b / 4 &&& 51) < 256 := by decide +kernel
theorem bd4 : ∀ g, g < 69 → ∀ t, t < 5 → ((g + g / 16 + 16 * t) &&& 15) = v3b g := by decide +kernel
theorem bc_nat {b0 b1 b2 b3 : Nat} (h0 : b0 < 256) (h1 : b1 < 256) (h2 : b2 < 256) (h3 : b3 < 256) : (by4 b0 b1 b2 b3 / 2 &&& 1431655765) = by4 (b0 / 2 &&& 85) (b1 / 2 &&& 85) (b2 / 2 &&& 85) (b3 / 2 &&& 85) ∧ by4 b0 b1 b2 b3 - by4 (b0 / 2 &&& 85) (b1 / 2 &&& 85) (b2 / 2 &&& 85) (b3 / 2 &&& 85) = by4 (v1b b0) (v1b b1) (v1b b2) (v1b b3) ∧ by4 (b0 / 2 &&& 85) (b1 / 2 &&& 85) (b2 / 2 &&& 85) (b3 / 2 &&& 85) ≤ by4 b0 b1 b2 b3 := by
  have e : by4 b0 b1 b2 b3 / 2 = by4 (b0 / 2 + 128 * (b1 % 2)) (b1 / 2 + 128 * (b2 % 2)) (b2 / 2 + 128 * (b3 % 2)) (b3 / 2 + 128 * 0) := by
    unfold by4
    omega
  have q0 := bd1 b0 h0 (b1 % 2) (by omega)
  have q1 := bd1 b1 h1 (b2 % 2) (by omega)
  have q2 := bd1 b2 h2 (b3 % 2) (by omega)
  have q3 := bd1 b3 h3 0 (by omega)
  refine ⟨?_, ?_, ?_⟩
  · rw [e, show (1431655765 : Nat) = by4 85 85 85 85 from rfl, and4 (by omega) (by omega) (by omega) (by omega) (by decide), q0.1, q1.1, q2.1, q3.1]
  · unfold by4 v1b
    omega
  · unfold by4
    omega
theorem bc_nat2 {d0 d1' d2' d3' : Nat} (h0 : d0 < 256) (h1 : d1' < 256) (h2 : d2' < 256) (h3 : d3' < 256) : (by4 d0 d1' d2' d3' &&& 858993459) + (by4 d0 d1' d2' d3' / 4 &&& 858993459) = by4 (v2b d0) (v2b d1') (v2b d2') (v2b d3') := by
  have e : by4 d0 d1' d2' d3' / 4 = by4 (d0 / 4 + 64 * (d1' % 4)) (d1' / 4 + 64 * (d2' % 4)) (d2' / 4 + 64 * (d3' % 4)) (d3' / 4 + 64 * 0) := by
    unfold by4
    omega
  have q0 := bd2 d0 h0 (d1' % 4) (by omega)
  have q1 := bd2 d1' h1 (d2' % 4) (by omega)
  have q2 := bd2 d2' h2 (d3' % 4) (by omega)
  have q3 := bd2 d3' h3 0 (by omega)
  rw [e, show (858993459 : Nat) = by4 51 51 51 51 from rfl, and4 h0 h1 h2 h3 (by decide), and4 (by omega) (by omega) (by omega) (by omega) (by decide), q0, q1, q2, q3]
  unfold by4 v2b
  omega
theorem bc_nat3 {g0 g1 g2 g3 : Nat} (h0 : g0 ≤ 68) (h1 : g1 ≤ 68 ∧ g1 % 16 ≤ 4) (h2 : g2 ≤ 68 ∧ g2 % 16 ≤ 4) (h3 : g3 ≤ 68 ∧ g3 % 16 ≤ 4) : ((by4 g0 g1 g2 g3 + by4 g0 g1 g2 g3 / 16) &&& 252645135) = by4 (v3b g0) (v3b g1) (v3b g2) (v3b g3) ∧ by4 g0 g1 g2 g3 + by4 g0 g1 g2 g3 / 16 < 4294967296 := by
  have e : by4 g0 g1 g2 g3 + by4 g0 g1 g2 g3 / 16 = by4 (g0 + g0 / 16 + 16 * (g1 % 16)) (g1 + g1 / 16 + 16 * (g2 % 16)) (g2 + g2 / 16 + 16 * (g3 % 16)) (g3 + g3 / 16 + 16 * 0) := by
    unfold by4
    omega
  have q0 := bd4 g0 (by omega) (g1 % 16) (by omega)
  have q1 := bd4 g1 (by omega) (g2 % 16) (by omega)
  have q2 := bd4 g2 (by omega) (g3 % 16) (by omega)
  have q3 := bd4 g3 (by omega) 0 (by omega)
  refine ⟨?_, by rw [e]; unfold by4; omega⟩
  rw [e, show (252645135 : Nat) = by4 15 15 15 15 from rfl, and4 (by omega) (by omega) (by omega) (by omega) (by decide), q0, q1, q2, q3]
def po (x : Int32) : Nat := sumN (fun i => b2n (bt x i)) 32
theorem po_by {b0 b1 b2 b3 : Nat} (h0 : b0 < 256) (h1 : b1 < 256) (h2 : b2 < 256) : sumN (fun i => b2n ((by4 b0 b1 b2 b3).testBit i)) (8 + (8 + (8 + 8))) = po8 b0 + (po8 b1 + (po8 b2 + po8 b3)) := by
  have t : ∀ a b i : Nat, a < 256 → (a + 256 * b).testBit i = if i < 8 then a.testBit i else b.testBit (i - 8) := fun a b i ha => by
    have := Nat.testBit_two_pow_mul_add b (i := 8) (show a < 2 ^ 8 from ha) i
    rw [Nat.add_comm]
    exact this
  have st : ∀ a b n : Nat, a < 256 → sumN (fun i => b2n ((a + 256 * b).testBit i)) (8 + n) = po8 a + sumN (fun i => b2n (b.testBit i)) n := fun a b n ha => by
    rw [sumN_cat]
    congr 1
    · exact sumN_eq (fun i hi => by rw [t a b i ha, if_pos hi])
    · exact sumN_eq (fun i hi => by rw [t a b (8 + i) ha, if_neg (by omega), show 8 + i - 8 = i by omega])
  unfold by4
  rw [st _ _ _ h0, st _ _ _ h1, st _ _ _ h2]
  rfl
def t32 (x : Int32) : Nat := x.toUInt32.toNat
theorem t32_lt (x : Int32) : t32 x < 4294967296 := x.toUInt32.toNat_lt
theorem t32_and (x : Int32) (c : Int32) : t32 (x &&& c) = t32 x &&& t32 c := by
  unfold t32
  rw [Int32.toUInt32_and, UInt32.toNat_and]
theorem t32_add {x y : Int32} (h : t32 x + t32 y < 4294967296) : t32 (x + y) = t32 x + t32 y := by
  unfold t32 at *
  rw [Int32.toUInt32_add, UInt32.toNat_add]
  exact Nat.mod_eq_of_lt h
theorem t32_sub {x y : Int32} (h : t32 y ≤ t32 x) : t32 (x - y) = t32 x - t32 y := by
  have hx := t32_lt x
  unfold t32 at *
  have hy := y.toUInt32.toNat_lt
  rw [Int32.toUInt32_sub, UInt32.toNat_sub]
  omega
theorem t32_sh (x : Int32) {k : Int32} {j : Nat} (hk : (k.toUInt32 &&& Int32.toUInt32 31) = UInt32.ofNat j) (hj : j < 32) : t32 ((x.toUInt32 >>> (k.toUInt32 &&& Int32.toUInt32 31)).toInt32) = t32 x / 2 ^ j := by
  unfold t32
  rw [UInt32.toUInt32_toInt32, hk, UInt32.toNat_shiftRight]
  have h2 : (UInt32.ofNat j).toNat = j := UInt32.toNat_ofNat_of_lt' (by show j < 4294967296; omega)
  rw [h2, Nat.mod_eq_of_lt hj, Nat.shiftRight_eq_div_pow]
theorem t32_inj {x y : Int32} (h : t32 x = t32 y) : x = y := by
  have h1 : x.toUInt32 = y.toUInt32 := UInt32.toNat_inj.mp h
  exact congrArg UInt32.toInt32 h1
section BC
variable {h : Hp}
def bw1 (x : Int32) : Int32 := x - (((x.toUInt32 >>> ((1 : Int32).toUInt32 &&& Int32.toUInt32 31)).toInt32) &&& (1431655765 : Int32))
def bw2 (x : Int32) : Int32 := (x &&& (858993459 : Int32)) + (((x.toUInt32 >>> ((2 : Int32).toUInt32 &&& Int32.toUInt32 31)).toInt32) &&& (858993459 : Int32))
def bw3 (x : Int32) : Int32 := (x + ((x.toUInt32 >>> ((4 : Int32).toUInt32 &&& Int32.toUInt32 31)).toInt32)) &&& (252645135 : Int32)
def bw4 (x : Int32) : Int32 := x + ((x.toUInt32 >>> ((8 : Int32).toUInt32 &&& Int32.toUInt32 31)).toInt32)
def bw5 (x : Int32) : Int32 := x + ((x.toUInt32 >>> ((16 : Int32).toUInt32 &&& Int32.toUInt32 31)).toInt32)
theorem bitCount_ok (x : Int32) : CL 147 [.int x] h = some (.ok (.int (nI (po x))), h) := by
  have hX := t32_lt x
  obtain ⟨b0, b1, b2, b3, h0, h1, h2, h3, hb⟩ : ∃ b0 b1 b2 b3, b0 < 256 ∧ b1 < 256 ∧ b2 < 256 ∧ b3 < 256 ∧ t32 x = by4 b0 b1 b2 b3 := ⟨t32 x % 256, t32 x / 256 % 256, t32 x / 65536 % 256, t32 x / 16777216, by omega, by omega, by omega, by omega, by unfold by4; omega⟩
  have hpo : po x = po8 b0 + (po8 b1 + (po8 b2 + po8 b3)) := by
    rw [← po_by h0 h1 h2]
    show sumN (fun i => b2n ((t32 x).testBit i)) 32 = _
    rw [hb]
  obtain ⟨c1, c2, c3⟩ := bc_nat h0 h1 h2 h3
  have e0 := bd3 b0 h0
  have e1 := bd3 b1 h1
  have e2 := bd3 b2 h2
  have e3 := bd3 b3 h3
  have f0 := (bd1 b0 h0 0 (by decide)).2.2
  have f1 := (bd1 b1 h1 0 (by decide)).2.2
  have f2 := (bd1 b2 h2 0 (by decide)).2.2
  have f3 := (bd1 b3 h3 0 (by decide)).2.2
  have k1 : t32 (bw1 x) = by4 (v1b b0) (v1b b1) (v1b b2) (v1b b3) := by
    have hs : t32 (((x.toUInt32 >>> ((1 : Int32).toUInt32 &&& Int32.toUInt32 31)).toInt32) &&& (1431655765 : Int32)) = by4 (b0 / 2 &&& 85) (b1 / 2 &&& 85) (b2 / 2 &&& 85) (b3 / 2 &&& 85) := by
      rw [t32_and, t32_sh x (j := 1) (by decide) (by decide), hb]
      exact c1
    unfold bw1
    rw [t32_sub (by rw [hs, hb]; exact c3), hs, hb]
    exact c2
  have c4 := bc_nat2 f0 f1 f2 f3
  have k2 : t32 (bw2 (bw1 x)) = by4 (v2b (v1b b0)) (v2b (v1b b1)) (v2b (v1b b2)) (v2b (v1b b3)) := by
    have hs : t32 (bw1 x &&& (858993459 : Int32)) + t32 ((((bw1 x).toUInt32 >>> ((2 : Int32).toUInt32 &&& Int32.toUInt32 31)).toInt32) &&& (858993459 : Int32)) = by4 (v2b (v1b b0)) (v2b (v1b b1)) (v2b (v1b b2)) (v2b (v1b b3)) := by
      rw [t32_and, t32_and, t32_sh (bw1 x) (j := 2) (by decide) (by decide), k1]
      exact c4
    show t32 ((bw1 x &&& (858993459 : Int32)) + ((((bw1 x).toUInt32 >>> ((2 : Int32).toUInt32 &&& Int32.toUInt32 31)).toInt32) &&& (858993459 : Int32))) = _
    rw [t32_add (by rw [hs]; unfold by4; omega)]
    exact hs
  obtain ⟨c5, c6⟩ := bc_nat3 (g0 := v2b (v1b b0)) (g1 := v2b (v1b b1)) (g2 := v2b (v1b b2)) (g3 := v2b (v1b b3)) e0.1 ⟨e1.1, e1.2.1⟩ ⟨e2.1, e2.2.1⟩ ⟨e3.1, e3.2.1⟩
  have k3 : t32 (bw3 (bw2 (bw1 x))) = by4 (po8 b0) (po8 b1) (po8 b2) (po8 b3) := by
    have hs : t32 (((bw2 (bw1 x)).toUInt32 >>> ((4 : Int32).toUInt32 &&& Int32.toUInt32 31)).toInt32) = by4 (v2b (v1b b0)) (v2b (v1b b1)) (v2b (v1b b2)) (v2b (v1b b3)) / 16 := by
      rw [t32_sh (bw2 (bw1 x)) (j := 4) (by decide) (by decide), k2]
    unfold bw3
    rw [t32_and, t32_add (by rw [hs, k2]; exact c6), hs, k2]
    refine c5.trans ?_
    rw [e0.2.2.1, e1.2.2.1, e2.2.2.1, e3.2.2.1]
  have p0 := e0.2.2.2.1
  have p1 := e1.2.2.2.1
  have p2 := e2.2.2.2.1
  have p3 := e3.2.2.2.1
  generalize po8 b0 = a at *
  generalize po8 b1 = b at *
  generalize po8 b2 = c at *
  generalize po8 b3 = d at *
  have k4 : t32 (bw4 (bw3 (bw2 (bw1 x)))) = by4 (a + b) (b + c) (c + d) d := by
    have hs : t32 (((bw3 (bw2 (bw1 x))).toUInt32 >>> ((8 : Int32).toUInt32 &&& Int32.toUInt32 31)).toInt32) = by4 b c d 0 := by
      rw [t32_sh (bw3 (bw2 (bw1 x))) (j := 8) (by decide) (by decide), k3]
      unfold by4
      omega
    unfold bw4
    rw [t32_add (by rw [hs, k3]; unfold by4; omega), hs, k3]
    unfold by4
    omega
  have k5 : t32 (bw5 (bw4 (bw3 (bw2 (bw1 x))))) = by4 (a + b + (c + d)) (b + c + d) (c + d) d := by
    have hs : t32 (((bw4 (bw3 (bw2 (bw1 x)))).toUInt32 >>> ((16 : Int32).toUInt32 &&& Int32.toUInt32 31)).toInt32) = by4 (c + d) d 0 0 := by
      rw [t32_sh (bw4 (bw3 (bw2 (bw1 x)))) (j := 16) (by decide) (by decide), k4]
      unfold by4
      omega
    unfold bw5
    rw [t32_add (by rw [hs, k4]; unfold by4; omega), hs, k4]
    unfold by4
    omega
  have k6 : bw5 (bw4 (bw3 (bw2 (bw1 x)))) &&& (63 : Int32) = nI (po x) := by
    apply t32_inj
    rw [t32_and, k5, hpo]
    have e63 : t32 (63 : Int32) = 2 ^ 6 - 1 := rfl
    rw [e63, Nat.and_two_pow_sub_one_eq_mod]
    have en : t32 (nI (a + (b + (c + d)))) = a + (b + (c + d)) := UInt32.toNat_ofNat_of_lt' (by show _ < 4294967296; omega)
    rw [en]
    unfold by4
    omega
  rw [e147, ← k6]
  rfl
end BC
