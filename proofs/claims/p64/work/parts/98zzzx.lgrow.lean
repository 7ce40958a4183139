/-! THE LAW: its search for pairs, as it runs -/
/-- the table; the mates and who is seen -/
def TbQ (h : Hp) (f : Nat → Nat → Int32) (a0 nL nR : Nat) (T : TF) : Prop := (HK h a0 = 108 ∧ HL h a0 = nL) ∧ ∀ i, i < nL → (HK h (HR h a0 i) = 103 ∧ HL h (HR h a0 i) = nR) ∧ ∀ j, j < nR → f (HR h a0 i) j = nI (b2n (T i j))
def MsQ (h : Hp) (f : Nat → Nat → Int32) (a2 a3 nR : Nat) (u : MF) (S : Nat → Bool) : Prop := (HK h a2 = 100 ∧ HL h a2 = nR) ∧ (HK h a3 = 103 ∧ HL h a3 = nR) ∧ ∀ j, j < nR → f a2 j = oI (u j) ∧ f a3 j = nI (b2n (S j))
def Fw (a2 a3 : Nat) (f f' : Nat → Nat → Int32) : Prop := ∀ a z, a ≠ a2 → a ≠ a3 → f' a z = f a z
def GRq (h : Hp) (f : Nat → Nat → Int32) (a2 a3 nL nR : Nat) (T : TF) (u : MF) (S : Nat → Bool) (i : Nat) (r : Res) : Prop := (∃ f' v S', r = some (.ok (.int (1 : Int32)), wI h f') ∧ Fw a2 a3 f f' ∧ MsQ h f' a2 a3 nR v S' ∧ KT T nL nR u S i v) ∨ ∃ f' S', r = some (.ok (.int (0 : Int32)), wI h f') ∧ Fw a2 a3 f f' ∧ MsQ h f' a2 a3 nR u S' ∧ KN T nR u S nR i S'
/-- what a copy of it does when at most q are unseen -/
def GSq (c q : Nat) : Prop := ∀ (h : Hp) (f : Nat → Nat → Int32) (a0 a2 a3 nL nR : Nat) (T : TF) (u : MF) (S : Nat → Bool) (i : Nat), nL ≤ 100 → nR ≤ 100 → TbQ h f a0 nL nR T → MsQ h f a2 a3 nR u S → (a2 ≠ a3 ∧ ∀ i, i < nL → HR h a0 i ≠ a2 ∧ HR h a0 i ≠ a3) → KE T nL nR u → (∀ j j' l, u j = some l → u j' = some l → j = j') → ¬KL u S i → i < nL → Uns S nR ≤ q → GRq h f a2 a3 nL nR T u S i (CL c [.ref a0, .int (nI i), .ref a2, .ref a3] (wI h f))
def g3 (R3 R51 Y : Int32 → Hp → Res) (a0 : Nat) (a1 : Int32) (a2 a3 : Nat) (a4 : Int32) (h : Hp) : Res := cond (Nat.ble 100 (HK h a2)) (if a4 < (Int32.ofNat (HL h a2)) then cond (chI h a0 108 a1) (cond (chI h (HR h a0 a1.toNatClampNeg) 103 a4) (if (HI h (HR h a0 a1.toNatClampNeg) a4.toNatClampNeg) = 0 then R3 (a4 + (1 : Int32)) h else cond (chI h a3 103 a4) (if (HI h a3 a4.toNatClampNeg) = 0 then cond (chI h a3 103 a4 && fitc 1 (1 : Int32)) (let h1 : Hp := sI h a3 a4.toNatClampNeg (1 : Int32); cond (chI h1 a2 100 a4) (if (HI h1 a2 a4.toNatClampNeg) < 0 then R51 a4 h1 else cond (chI h1 a2 100 a4) (Y a4 h1) none) none) none else R3 (a4 + (1 : Int32)) h) none) none) none else cond (fitc 1 (0 : Int32)) (some (.ok (.int (0 : Int32)), h)) none) none
def g51 (a2 : Nat) (a1 a4 : Int32) (h : Hp) : Res := cond (chI h a2 100 a4) (let h1 : Hp := sI h a2 a4.toNatClampNeg a1; cond (fitc 1 (1 : Int32)) (some (.ok (.int (1 : Int32)), h1)) none) none
section GW
variable {h : Hp} {f : Nat → Nat → Int32} {a0 a2 a3 nL nR : Nat} {T : TF} {u : MF} {S : Nat → Bool} {i c : Nat}
theorem TbQ.fw (B : TbQ h f a0 nL nR T) (D : a2 ≠ a3 ∧ ∀ i, i < nL → HR h a0 i ≠ a2 ∧ HR h a0 i ≠ a3) {f' : Nat → Nat → Int32} (F : Fw a2 a3 f f') : TbQ h f' a0 nL nR T := ⟨B.1, fun i hi => ⟨(B.2 i hi).1, fun j hj => (F _ j (D.2 i hi).1 (D.2 i hi).2).trans ((B.2 i hi).2 j hj)⟩⟩
theorem Fw.tr {f' g : Nat → Nat → Int32} (A : Fw a2 a3 f f') (B : Fw a2 a3 f' g) : Fw a2 a3 f g := fun a z h1 h2 => (B a z h1 h2).trans (A a z h1 h2)
theorem gw {q : Nat} (hE : ∀ a0 a1 a2 a3 h, CL c [.ref a0, .int a1, .ref a2, .ref a3] h = RF c 3 [.ref a0, .int a1, .ref a2, .ref a3, .int (0 : Int32)] [] h) (Y : Nat → Int32 → Nat → Nat → Int32 → Hp → Res) (h3 : ∀ a0 a1 a2 a3 a4 h, RF c 3 [.ref a0, .int a1, .ref a2, .ref a3, .int a4] [] h = g3 (fun x h => RF c 3 [.ref a0, .int a1, .ref a2, .ref a3, .int x] [] h) (fun x h => RF c 51 [.ref a0, .int a1, .ref a2, .ref a3, .int x] [] h) (Y a0 a1 a2 a3) a0 a1 a2 a3 a4 h) (h51 : ∀ a0 a1 a2 a3 a4 h, RF c 51 [.ref a0, .int a1, .ref a2, .ref a3, .int a4] [] h = g51 a2 a1 a4 h) (HY : ∀ q', q = q' + 1 → ∃ c', GSq c' q' ∧ ∀ a0 a1 a2 a3 a4 h1, Y a0 a1 a2 a3 a4 h1 = bI (CL c' [.ref a0, .int (HI h1 a2 a4.toNatClampNeg), .ref a2, .ref a3] h1) (fun x3 h2 => if x3 = 0 then RF c 3 [.ref a0, .int a1, .ref a2, .ref a3, .int (a4 + (1 : Int32))] [] h2 else RF c 51 [.ref a0, .int a1, .ref a2, .ref a3, .int a4] [] h2) thr) : GSq c q := by
  intro h f a0 a2 a3 nL nR T u S i nl nr B M D hK hj hn hi hq
  have lp : ∀ (d k : Nat) (Sc : Nat → Bool) (g : Nat → Nat → Int32), k + d = nR → Fw a2 a3 f g → MsQ h g a2 a3 nR u Sc → KN T nR u S k i Sc → GRq h f a2 a3 nL nR T u S i (RF c 3 [.ref a0, .int (nI i), .ref a2, .ref a3, .int (nI k)] [] (wI h g)) := by
    intro d
    induction d with
    | zero =>
      intro k Sc g hk F M H
      have e : k = nR := by omega
      subst e
      have M' := M
      obtain ⟨⟨m1, m2⟩, -, -⟩ := M'
      refine Or.inr ⟨g, Sc, ?_, F, M, H⟩
      rw [h3]
      unfold g3
      rw [show Nat.ble 100 (HK (wI h g) a2) = true by rw [HK_wI, m1]; rfl]
      simp only [cond_true, HL_wI, m2]
      rw [if_neg (show ¬(nI k < Int32.ofNat k) by show ¬(nI k < nI k); rw [lt_nI (by omega) (by omega)]; omega)]
      rfl
    | succ d ih =>
      intro k Sc g hk F M H
      have hk' : k < nR := by omega
      have Bg := B.fw D F
      obtain ⟨⟨b1, b2⟩, b3⟩ := Bg
      obtain ⟨⟨r1, r2⟩, r3⟩ := b3 i hi
      have M' := M
      obtain ⟨⟨m1, m2⟩, ⟨m3, m4⟩, m5⟩ := M'
      obtain ⟨v2, v3⟩ := m5 k hk'
      have ci : (nI i).toNatClampNeg = i := cl_nI (by omega)
      have ck : (nI k).toNatClampNeg = k := cl_nI (by omega)
      have ch0 : chI (wI h g) a0 108 (nI i) = true := chI_nI (h := wI h g) b1 b2 hi (by omega)
      have chr : chI (wI h g) (HR (wI h g) a0 i) 103 (nI k) = true := chI_nI (h := wI h g) r1 r2 hk' (by omega)
      have ch3 : ∀ f', chI (wI h f') a3 103 (nI k) = true := fun f' => chI_nI (h := wI h f') m3 m4 hk' (by omega)
      have ch2 : ∀ f', chI (wI h f') a2 100 (nI k) = true := fun f' => chI_nI (h := wI h f') m1 m2 hk' (by omega)
      have vr : HI (wI h g) (HR (wI h g) a0 i) k = nI (b2n (T i k)) := r3 k hk'
      have bl : Nat.ble 100 (HK (wI h g) a2) = true := by rw [HK_wI, m1]; rfl
      have lt : nI k < Int32.ofNat (HL (wI h g) a2) := by
        rw [HL_wI, m2]
        show nI k < nI nR
        rw [lt_nI (by omega) (by omega)]
        exact hk'
      have nx : (nI k + (1 : Int32)) = nI (k + 1) := add_nI k 1
      have go : (T i k = false ∨ Sc k = true) → GRq h f a2 a3 nL nR T u S i (RF c 3 [.ref a0, .int (nI i), .ref a2, .ref a3, .int (nI (k + 1))] [] (wI h g)) := fun z => ih (k + 1) Sc g (by omega) F M (k_skip H z)
      rw [h3]
      unfold g3
      rw [bl, if_pos lt, ch0]
      simp only [cond_true]
      rw [ci, chr, ck, vr]
      simp only [cond_true]
      cases hT : T i k with
      | false =>
        rw [if_pos (show nI (b2n false) = 0 from rfl), nx]
        exact go (Or.inl hT)
      | true =>
        rw [if_neg (show ¬(nI (b2n true) = 0) by decide), ch3 g, show HI (wI h g) a3 k = nI (b2n (Sc k)) from v3]
        simp only [cond_true]
        cases hs : Sc k with
        | true =>
          rw [if_neg (show ¬(nI (b2n true) = 0) by decide), nx]
          exact go (Or.inr hs)
        | false =>
          have e1 : sI (wI h g) a3 k (1 : Int32) = wI h (u2 g a3 k (1 : Int32)) := rfl
          rw [if_pos (show nI (b2n false) = 0 from rfl), show fitc 1 (1 : Int32) = true from rfl, e1, ch2]
          simp only [Bool.and_self, cond_true]
          have g2k : ∀ j, u2 g a3 k (1 : Int32) a2 j = g a2 j := fun j => w2_ne (fun w => D.1 w.1)
          have F1 : Fw a2 a3 f (u2 g a3 k (1 : Int32)) := F.tr (fun a z h1 h2 => w2_ne (fun w => h2 w.1))
          have M1 : MsQ h (u2 g a3 k (1 : Int32)) a2 a3 nR u (se Sc k) := by
            refine ⟨⟨m1, m2⟩, ⟨m3, m4⟩, fun j hj' => ⟨(g2k j).trans (m5 j hj').1, ?_⟩⟩
            by_cases e : j = k
            · subst e
              rw [w2_eq, se_t.mpr (Or.inr rfl)]
              rfl
            · rw [w2_ne (fun w => e w.2), (m5 j hj').2]
              unfold se
              rw [decide_eq_false e, Bool.or_false]
          have vm : HI (wI h (u2 g a3 k (1 : Int32))) a2 k = oI (u k) := (g2k k).trans v2
          -- the last step: k is given to i
          have give : ∀ (g' : Nat → Nat → Int32) (v : MF) (S' : Nat → Bool), Fw a2 a3 f g' → MsQ h g' a2 a3 nR v S' → KT T nL nR u S i (ud v k (some i)) → GRq h f a2 a3 nL nR T u S i (RF c 51 [.ref a0, .int (nI i), .ref a2, .ref a3, .int (nI k)] [] (wI h g')) := fun g' v S' F' M2 V => by
            refine Or.inl ⟨u2 g' a2 k (nI i), ud v k (some i), S', ?_, F'.tr (fun a z h1 h2 => w2_ne (fun w => h1 w.1)), ⟨M2.1, M2.2.1, fun j hj' => ⟨?_, ?_⟩⟩, V⟩
            · rw [h51]
              unfold g51
              rw [ch2 g', ck]
              rfl
            · by_cases e : j = k
              · subst e
                rw [w2_eq, ud_e]
                rfl
              · rw [w2_ne (fun w => e w.2), ud_n e]
                exact (M2.2.2 j hj').1
            · rw [w2_ne (fun w => D.1 w.1.symm)]
              exact (M2.2.2 j hj').2
          have un := uns_se (nR := nR) hk' hs
          have ul := uns_le (nR := nR) (S := S) (Sc := Sc) H.1
          obtain ⟨q', rfl⟩ : ∃ q', q = q' + 1 := ⟨q - 1, by omega⟩
          cases hu : u k with
          | none =>
            rw [vm, hu, if_pos (show oI none < 0 by decide)]
            exact give _ u _ F1 M1 (k_free hK hj hi hk' hT hn H hs hu)
          | some l =>
            obtain ⟨-, hl, -⟩ := hK k l hu
            rw [vm, hu, if_neg (show ¬(oI (some l) < 0) from nI_pos (by omega))]
            obtain ⟨c', G, hY⟩ := HY q' rfl
            rw [hY, ck, vm, hu]
            have R := G h (u2 g a3 k (1 : Int32)) a0 a2 a3 nL nR T u (se Sc k) l nl nr (B.fw D F1) M1 D hK hj (k_pre hj hu) hl (by omega)
            rcases R with ⟨f', v, S', e, F', M2, V⟩ | ⟨f', S', e, F', M2, V⟩
            · rw [show CL c' [.ref a0, .int (oI (some l)), .ref a2, .ref a3] (wI h (u2 g a3 k (1 : Int32))) = _ from e]
              simp only [bI_ok]
              rw [if_neg (show ¬((1 : Int32) = 0) by decide)]
              exact give f' v S' (F1.tr F') M2 (k_moved hj hi hk' hT hn H hs hu V)
            · rw [show CL c' [.ref a0, .int (oI (some l)), .ref a2, .ref a3] (wI h (u2 g a3 k (1 : Int32))) = _ from e]
              simp only [bI_ok, ↓reduceIte]
              rw [nx]
              exact ih (k + 1) S' f' (by omega) (F1.tr F') M2 (k_lost hk' H hu V)
  rw [hE]
  exact lp nR 0 S f (Nat.zero_add _) (fun _ _ _ _ => rfl) M (k_start T nR u S i)
end GW
