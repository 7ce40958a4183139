/-! WHAT EVERY CALL NEEDS -/
section LW1
variable {N : Nat} {xs : Nat → Int32} {s y : Nat} {h : Hp} {b : Bk} {m : Nat} {H : HF} {sv : Option Bk} {oe oq : Option Nat} {x : Nat → Nat} {n : Nat} {L : List Nat}
theorem LWc.rr (K : LWc N xs s y h b m H sv oe oq x n L) : RrS h := K.1.1
theorem LWc.mg (K : LWc N xs s y h b m H sv oe oq x n L) : MgS h := K.1.2.1
theorem LWc.gr (K : LWc N xs s y h b m H sv oe oq x n L) : GrS h := K.1.2.2.1
theorem LWc.pg (K : LWc N xs s y h b m H sv oe oq x n L) : PgS h := K.1.2.2.2.1
theorem LWc.ks (K : LWc N xs s y h b m H sv oe oq x n L) : KoS h := K.1.2.2.2.2.1
theorem LWc.md (K : LWc N xs s y h b m H sv oe oq x n L) : MdS h := K.1.2.2.2.2.2.1
theorem LWc.sc (K : LWc N xs s y h b m H sv oe oq x n L) : HK h 30 = 200 ∧ HL h 30 = N := K.1.2.2.2.2.2.2.1
theorem LWc.ou (K : LWc N xs s y h b m H sv oe oq x n L) : HK h 253 = 104 ∧ HL h 253 = 1 := K.1.2.2.2.2.2.2.2.1
theorem LWc.od (K : LWc N xs s y h b m H sv oe oq x n L) : HK h 254 = 105 ∧ HL h 254 = 1 := K.1.2.2.2.2.2.2.2.2
theorem LWc.ko (K : LWc N xs s y h b m H sv oe oq x n L) : Ko (HI h) := K.2.1.1
theorem LWc.c (K : LWc N xs s y h b m H sv oe oq x n L) : ClS (HI h) b m H sv oe oq x n := K.2.2.1
theorem LWc.mm (K : LWc N xs s y h b m H sv oe oq x n L) : MlS (HI h) b m H sv oe oq x n L := K.2.2.2.1
theorem LWc.ln (K : LWc N xs s y h b m H sv oe oq x n L) : LN h (HI h) L s := K.2.2.2.2.1
theorem LWc.ok (K : LWc N xs s y h b m H sv oe oq x n L) : OKs b m H sv oe oq L y := K.2.2.2.2.2
theorem LWc.k8 (K : LWc N xs s y h b m H sv oe oq x n L) : HK h 31 = 8 := K.1.1.1
theorem LWc.k9 (K : LWc N xs s y h b m H sv oe oq x n L) : HK h 241 = 9 := K.1.2.2.2.2.2.1.1
theorem LWc.q (K : LWc N xs s y h b m H sv oe oq x n L) : QS h 32 := K.rr.qs
theorem LWc.rk (K : LWc N xs s y h b m H sv oe oq x n L) : RK (HI h) 32 b := K.c.1
theorem LWc.rn (K : LWc N xs s y h b m H sv oe oq x n L) : RN (HI h 242) b := K.mm.1
theorem LWc.rm (K : LWc N xs s y h b m H sv oe oq x n L) : RM (HI h 242) (kA b) (kD b) := K.mm.1.1
/-- after a call -/
theorem LWc.fin (K : LWc N xs s y h b m H sv oe oq x n L) {g : Hp} (E : Se h g) (F : ∀ a y, ¬(31 ≤ a ∧ a < 239) → ¬(241 ≤ a ∧ a < 253) → HI g a y = HI h a y) {b' : Bk} {m' : Nat} {H' : HF} {sv' : Option Bk} {oe' oq' : Option Nat} {x' : Nat → Nat} {n' : Nat} (C : ClS (HI g) b' m' H' sv' oe' oq' x' n') (M : MlS (HI g) b' m' H' sv' oe' oq' x' n' L) (O : OKs b' m' H' sv' oe' oq' L (y + 6000)) : LW N xs (s + 1) (y + 6000) g := ⟨b', m', H', sv', oe', oq', x', n', L, K.1.se E, K.2.1.fr (fun a z q => F a z (by omega) (by omega)), C, M, K.ln.se E (fun a z q => F a z (by omega) (by omega)), O⟩
/-- after a call that changed nothing but what is scratch -/
theorem LWc.scr (K : LWc N xs s y h b m H sv oe oq x n L) {g : Hp} (E : Se h g) (F : ∀ a y, ¬(227 ≤ a ∧ a < 239) → ¬(a = 243 ∨ 246 ≤ a ∧ a < 250 ∨ a = 252 ∨ a = 241 ∧ 16 ≤ y) → HI g a y = HI h a y) : LW N xs (s + 1) (y + 6000) g := K.fin E (fun a z q1 q2 => F a z (by omega) (by omega)) (K.c.fr (fun a z q1 q2 => F a z (by omega) (by omega))) (K.mm.fr (fun a z q => F a z (by omega) (by omega))) (K.ok.up (by omega))
theorem tH_at (g : Hp) (t : Nat) : HI (tH g t) 241 16 = nI t := by
  unfold tH
  rw [HI_wI]
  exact u2_at _ _ _ _
theorem tH_ne (g : Hp) (t : Nat) {a k : Nat} (q : ¬(a = 241 ∧ k = 16)) : HI (tH g t) a k = HI g a k := by
  unfold tH
  rw [HI_wI]
  exact u2_no q
theorem HJ_wI (g : Hp) (f : Nat → Nat → Int32) : HJ (wI g f) = HJ g := rfl
theorem HD_wI (g : Hp) (f : Nat → Nat → Int32) : HD (wI g f) = HD g := rfl
theorem HJ_sJ (g : Hp) (a k : Nat) (v : Int64) : HJ (sJ g a k v) a k = v := by
  show (if a = a ∧ k = k then v else HJ g a k) = v
  exact if_pos ⟨rfl, rfl⟩
theorem HD_sD (g : Hp) (a k : Nat) (v : UInt64) : HD (sD g a k v) a k = v := by
  show (if a = a ∧ k = k then v else HD g a k) = v
  exact if_pos ⟨rfl, rfl⟩
theorem wJ_at (g : Hp) (v : Int64) (f : Nat → Nat → Int32) : HJ (wI (sJ g 253 0 v) f) 253 0 = v := by
  rw [HJ_wI]
  exact HJ_sJ _ _ _ _
theorem tJ_at (g : Hp) (v : Int64) (t : Nat) : HJ (tH (sJ g 253 0 v) t) 253 0 = v := by
  unfold tH
  exact wJ_at _ _ _
theorem tD_at (g : Hp) (v : UInt64) (t : Nat) : HD (tH (sD g 254 0 v) t) 254 0 = v := by
  unfold tH
  rw [HD_wI]
  exact HD_sD _ _ _ _
/-- both sides answer, nothing changes -/
theorem LWc.qA (K : LWc N xs s y h b m H sv oe oq x n L) {C M : Hp → Res} {v : Int32} (hc : C h = some (.ok (.int v), h)) (hm : M h = some (.ok (.int v), tH h 0)) : SA N xs s y h C M := ⟨v, h, tH h 0, hc, K.k9, hm, K.scr (Se.refl h) (fun a z q1 q2 => tH_ne h 0 (by omega))⟩
theorem LWc.qB (K : LWc N xs s y h b m H sv oe oq x n L) {W M : Hp → Res} {v : Int32} (hw : W h = some (.ok (.int (nI 0)), sJ h 253 0 v.toInt64)) (hm : M (sJ h 253 0 v.toInt64) = some (.ok (.int v), tH (sJ h 253 0 v.toInt64) 0)) : SB N xs s y h W M := ⟨0, v, _, _, hw, ⟨K.k9, K.sc.1, K.sc.2, fun _ => rfl⟩, hm, by decide, tH_at _ 0, fun _ => tJ_at _ _ _, K.scr (Se.refl h) (fun a z q1 q2 => tH_ne _ 0 (by omega))⟩
theorem LWc.qE (K : LWc N xs s y h b m H sv oe oq x n L) {W M : Hp → Res} {t : Nat} {w : Int32} (hw : W h = some (.ok (.int (nI t)), hthr h)) (ht : t < 4) (h0 : t ≠ 0) (hm : M (hthr h) = some (.ok (.int w), tH (hthr h) t)) : SB N xs s y h W M := ⟨t, w, _, _, hw, ⟨K.k9, K.sc.1, K.sc.2, fun _ => rfl⟩, hm, ht, tH_at _ t, fun e => absurd e h0, K.scr (Se.thr h) (fun a z q1 q2 => tH_ne _ t (by omega))⟩
/-- a call of form B that answers yes or no -/
def SBb (N : Nat) (xs : Nat → Int32) (s y : Nat) (h : Hp) (W M : Hp → Res) : Prop := ∃ t w h1 h3, W h = some (.ok (.int (nI t)), h1) ∧ (HK h1 241 = 9 ∧ HK h1 30 = 200 ∧ HL h1 30 = N ∧ ∀ k, HI h1 30 k = HI h 30 k) ∧ M h1 = some (.ok (.int w), h3) ∧ t < 4 ∧ HI h3 241 16 = nI t ∧ (t = 0 → HJ h3 253 0 = w.toInt64 ∧ (w = nI 0 ∨ w = nI 1)) ∧ LW N xs (s + 1) (y + 6000) h3
theorem b2n_or (p : Bool) : nI (b2n p) = nI 0 ∨ nI (b2n p) = nI 1 := by
  cases p with
  | false => exact Or.inl rfl
  | true => exact Or.inr rfl
theorem LWc.qBb (K : LWc N xs s y h b m H sv oe oq x n L) {W M : Hp → Res} {p : Bool} (hw : W h = some (.ok (.int (nI 0)), sJ h 253 0 (nI (b2n p)).toInt64)) (hm : M (sJ h 253 0 (nI (b2n p)).toInt64) = some (.ok (.int (nI (b2n p))), tH (sJ h 253 0 (nI (b2n p)).toInt64) 0)) : SBb N xs s y h W M := ⟨0, nI (b2n p), _, _, hw, ⟨K.k9, K.sc.1, K.sc.2, fun _ => rfl⟩, hm, by decide, tH_at _ 0, fun _ => ⟨tJ_at _ _ _, b2n_or p⟩, K.scr (Se.refl h) (fun a z q1 q2 => tH_ne _ 0 (by omega))⟩
theorem LWc.qEb (K : LWc N xs s y h b m H sv oe oq x n L) {W M : Hp → Res} {t : Nat} {w : Int32} (hw : W h = some (.ok (.int (nI t)), hthr h)) (ht : t < 4) (h0 : t ≠ 0) (hm : M (hthr h) = some (.ok (.int w), tH (hthr h) t)) : SBb N xs s y h W M := ⟨t, w, _, _, hw, ⟨K.k9, K.sc.1, K.sc.2, fun _ => rfl⟩, hm, ht, tH_at _ t, fun e => absurd e h0, K.scr (Se.thr h) (fun a z q1 q2 => tH_ne _ t (by omega))⟩
end LW1
theorem chz {h : Hp} (k : HK h 253 = 104) (l : HL h 253 = 1) : chI h 253 104 (0 : Int32) = true := chI_nI k l (by decide) (by decide)
theorem w_fin {h : Hp} {v : Int32} (k : HK h 253 = 104) (l : HL h 253 = 1) : cond (chI h 253 104 (0 : Int32)) (let h3 : Hp := sJ h 253 (0 : Int32).toNatClampNeg v.toInt64; some (.ok (.int (0 : Int32)), h3)) none = (some (.ok (.int (nI 0)), sJ h 253 0 v.toInt64) : Res) := by
  rw [chz k l]
  rfl
theorem w_finb {h : Hp} {p : Bool} (k : HK h 253 = 104) (l : HL h 253 = 1) : (if nI (b2n p) = 0 then cond (chI h 253 104 (0 : Int32)) (let h3 : Hp := sJ h 253 (0 : Int32).toNatClampNeg (0 : Int64); some (.ok (.int (0 : Int32)), h3)) none else cond (chI h 253 104 (0 : Int32)) (let h4 : Hp := sJ h 253 (0 : Int32).toNatClampNeg (1 : Int64); some (.ok (.int (0 : Int32)), h4)) none) = (some (.ok (.int (nI 0)), sJ h 253 0 (nI (b2n p)).toInt64) : Res) := by
  rw [chz k l]
  cases p with
  | false => rfl
  | true => rfl
