/-! THE TWO SIDES TOGETHER -/
/-- the class holds: book, history, saved book, error, failed command, program -/
def ClS (f : Nat → Nat → Int32) (b : Bk) (m : Nat) (H : HF) (sv : Option Bk) (oe oq : Option Nat) (x : Nat → Nat) (n : Nat) : Prop := RK f 32 b ∧ RH f m H ∧ RSC f sv ∧ f 31 9 = oI oe ∧ f 31 10 = oI oq ∧ TX f x n
/-- the reference holds the same, and a line -/
def MlS (f : Nat → Nat → Int32) (b : Bk) (m : Nat) (H : HF) (sv : Option Bk) (oe oq : Option Nat) (x : Nat → Nat) (n : Nat) (L : List Nat) : Prop := RN (f 242) b ∧ RG f m H ∧ RS f sv ∧ f 241 6 = oI oe ∧ f 241 7 = oI oq ∧ TY f x n ∧ LI f L
/-- what is true of all that is held -/
def OKs (b : Bk) (m : Nat) (H : HF) (sv : Option Bk) (oe oq : Option Nat) (L : List Nat) (y : Nat) : Prop := (Cns b ∧ Bd b y) ∧ (∀ i, i < m → Cns (H i) ∧ Bd (H i) y) ∧ (∀ s, sv = some s → Cns s ∧ Bd s y) ∧ (∀ k, oe = some k → k < 100) ∧ (∀ k, oq = some k → k < 100) ∧ Lo L
/-- kinds, lengths and references of all -/
def SH (N : Nat) (h : Hp) : Prop := RrS h ∧ MgS h ∧ GrS h ∧ PgS h ∧ KoS h ∧ MdS h ∧ (HK h 30 = 200 ∧ HL h 30 = N) ∧ (HK h 253 = 104 ∧ HL h 253 = 1) ∧ (HK h 254 = 105 ∧ HL h 254 = 1)
/-- what never changes: the texts and the script -/
def FxS (xs : Nat → Int32) (f : Nat → Nat → Int32) : Prop := Ko f ∧ ∀ k, f 30 k = xs k
/-- the class's line, and the room used after s calls -/
def LN (h : Hp) (f : Nat → Nat → Int32) (L : List Nat) (s : Nat) : Prop := ∃ c A, LnS h f L c A ∧ HC h ≤ 400 + s + c ∧ HS h ≤ 8000 + 6 * s + capt c
def LWc (N : Nat) (xs : Nat → Int32) (s y : Nat) (h : Hp) (b : Bk) (m : Nat) (H : HF) (sv : Option Bk) (oe oq : Option Nat) (x : Nat → Nat) (n : Nat) (L : List Nat) : Prop := SH N h ∧ FxS xs (HI h) ∧ ClS (HI h) b m H sv oe oq x n ∧ MlS (HI h) b m H sv oe oq x n L ∧ LN h (HI h) L s ∧ OKs b m H sv oe oq L y
/-- between two calls -/
def LW (N : Nat) (xs : Nat → Int32) (s y : Nat) (h : Hp) : Prop := ∃ b m H sv oe oq x n L, LWc N xs s y h b m H sv oe oq x n L
/-- the same shape, at most one exception more -/
def Se (h g : Hp) : Prop := HN g = HN h ∧ g.2.1 = h.2.1 ∧ HR g = HR h ∧ HC g ≤ HC h + 1 ∧ HS g ≤ HS h + 6
section SEC
variable {h g : Hp} {N : Nat} {xs : Nat → Int32}
theorem Se.refl (h : Hp) : Se h h := ⟨rfl, rfl, rfl, Nat.le_succ _, Nat.le_add_right _ _⟩
theorem Se.thr (h : Hp) : Se h (hthr h) := ⟨rfl, rfl, rfl, Nat.le_refl _, Nat.le_refl _⟩
theorem Se.wI (E : Se h g) (f : Nat → Nat → Int32) : Se h (wI g f) := E
theorem Se.sJ (E : Se h g) (a k : Nat) (v : Int64) : Se h (sJ g a k v) := E
theorem Se.sD (E : Se h g) (a k : Nat) (v : UInt64) : Se h (sD g a k v) := E
theorem SH.se (S : SH N h) (E : Se h g) : SH N g := by
  obtain ⟨⟨a1, a2, a3⟩, k, i, r, j, d⟩ := h
  obtain ⟨⟨b1, b2, b3⟩, k', i', r', j', d'⟩ := g
  obtain ⟨e1, e2, e3, -, -⟩ := E
  have e2' : k' = k := e2
  have e3' : r' = r := e3
  subst e2' e3'
  exact S
theorem LnS.se {f f' : Nat → Nat → Int32} {L : List Nat} {c A : Nat} (S : LnS h f L c A) (E : Se h g) (F : ∀ a y, a = 239 ∨ a = 240 ∨ 255 ≤ a → f' a y = f a y) : LnS g f' L c A := by
  obtain ⟨⟨a1, a2, a3⟩, k, i, r, j, d⟩ := h
  obtain ⟨⟨b1, b2, b3⟩, k', i', r', j', d'⟩ := g
  obtain ⟨e1, e2, e3, -, -⟩ := E
  have e1' : b1 = a1 := e1
  have e2' : k' = k := e2
  have e3' : r' = r := e3
  subst e1' e2' e3'
  obtain ⟨s1, s2, s3, s4, s5, s6, s7, s8, s9, s10, s11, s12, s13⟩ := S
  have fA : ∀ i, f' A i = f A i := fun i => F A i (by omega)
  exact ⟨s1, s2, s3, s4, s5, s6, s7, (F 239 1 (by omega)).trans s8, (F 239 3 (by omega)).trans s9, s10, s11, fun i hi => by rw [fA]; exact s12 i hi, fun i hi => by rw [fA]; exact s13 i hi⟩
theorem LN.se {f f' : Nat → Nat → Int32} {L : List Nat} {s : Nat} (S : LN h f L s) (E : Se h g) (F : ∀ a y, a = 239 ∨ a = 240 ∨ 255 ≤ a → f' a y = f a y) : LN g f' L (s + 1) := by
  obtain ⟨c, A, s1, s2, s3⟩ := S
  have e4 := E.2.2.2.1
  have e5 := E.2.2.2.2
  exact ⟨c, A, s1.se E F, by omega, by omega⟩
theorem FxS.fr {f f' : Nat → Nat → Int32} (X : FxS xs f) (F : ∀ a y, a < 31 → f' a y = f a y) : FxS xs f' := ⟨fun a h1 h2 k => (F a k (by omega)).trans (X.1 a h1 h2 k), fun k => (F 30 k (by omega)).trans (X.2 k)⟩
theorem RSC.fr {f f' : Nat → Nat → Int32} {sv : Option Bk} (R : RSC f sv) (F : ∀ a y, (66 ≤ a ∧ a < 83) ∨ (a = 31 ∧ y = 8) → f' a y = f a y) : RSC f' sv := by
  cases sv with
  | none => exact (F 31 8 (by omega)).trans R
  | some b => exact ⟨(F 31 8 (by omega)).trans R.1, ⟨R.2.t.cong (fun i z hi => F _ z (by omega)), R.2.q.cong (fun i z hi => F _ z (by omega)), fun s hs => by rw [F (66 + 15) s (by omega)]; exact R.2.tr hs, fun i hi => by rw [F (66 + 16) i (by omega)]; exact R.2.tt hi, by rw [F 66 4 (by omega)]; exact R.2.y⟩⟩
theorem RK.bt {f f' : Nat → Nat → Int32} {B : Nat} {b : Bk} (R : RK f B b) (F : ∀ a y, B ≤ a → a < B + 17 → f' a y = f a y) : RK f' B b := ⟨R.t.cong (fun i z hi => F _ z (by omega) (by omega)), R.q.cong (fun i z hi => F _ z (by omega) (by omega)), fun s hs => by rw [F (B + 15) s (by omega) (by omega)]; exact R.tr hs, fun i hi => by rw [F (B + 16) i (by omega) (by omega)]; exact R.tt hi, by rw [F B 4 (by omega) (by omega)]; exact R.y⟩
theorem TX.fr {f f' : Nat → Nat → Int32} {x : Nat → Nat} {n : Nat} (T : TX f x n) (F : ∀ a y, (221 ≤ a ∧ a < 223) → f' a y = f a y) : TX f' x n := ⟨(F 221 1 (by omega)).trans T.1, T.2.1, fun i hi => by rw [F 222 i (by omega)]; exact T.2.2 i hi⟩
theorem TY.fr {f f' : Nat → Nat → Int32} {x : Nat → Nat} {n : Nat} (T : TY f x n) (F : ∀ a y, a = 250 ∨ (a = 241 ∧ y = 13) → f' a y = f a y) : TY f' x n := ⟨(F 241 13 (by omega)).trans T.1, T.2.1, fun i hi => by rw [F 250 i (by omega)]; exact T.2.2 i hi⟩
theorem RG.fr {f f' : Nat → Nat → Int32} {m : Nat} {H : HF} (R : RG f m H) (F : ∀ a y, a = 245 ∨ (a = 241 ∧ y = 5) → f' a y = f a y) : RG f' m H := ⟨R.1, (F 241 5 (by omega)).trans R.2.1, fun i hi => (R.2.2 i hi).cong (fun k hk => F 245 _ (by omega))⟩
theorem RS.fr {f f' : Nat → Nat → Int32} {sv : Option Bk} (R : RS f sv) (F : ∀ a y, a = 244 ∨ (a = 241 ∧ y = 4) → f' a y = f a y) : RS f' sv := by
  cases sv with
  | none => exact (F 241 4 (by omega)).trans R
  | some b => exact ⟨(F 241 4 (by omega)).trans R.1, R.2.cong (fun k hk => F 244 k (by omega))⟩
theorem LI.fr {f f' : Nat → Nat → Int32} {L : List Nat} (R : LI f L) (F : ∀ a y, a = 251 ∨ (a = 241 ∧ y = 15) → f' a y = f a y) : LI f' L := ⟨⟨R.1.1, fun i hi => (F 251 i (by omega)).trans (R.1.2 i hi)⟩, (F 241 15 (by omega)).trans R.2⟩
section PP
variable {b : Bk} {m : Nat} {H : HF} {sv : Option Bk} {oe oq : Option Nat} {x : Nat → Nat} {n : Nat} {L : List Nat} {f f' : Nat → Nat → Int32}
theorem ClS.fr (C : ClS f b m H sv oe oq x n) (F : ∀ a y, 31 ≤ a → a < 227 → f' a y = f a y) : ClS f' b m H sv oe oq x n := ⟨C.1.bt (fun a y h1 h2 => F a y (by omega) (by omega)), C.2.1.fr (fun a y h1 h2 => F a y (by omega) (by omega)), C.2.2.1.fr (fun a y h1 => F a y (by omega) (by omega)), (F 31 9 (by omega) (by omega)).trans C.2.2.2.1, (F 31 10 (by omega) (by omega)).trans C.2.2.2.2.1, C.2.2.2.2.2.fr (fun a y h1 => F a y (by omega) (by omega))⟩
theorem MlS.fr (C : MlS f b m H sv oe oq x n L) (F : ∀ a y, a = 242 ∨ a = 244 ∨ a = 245 ∨ a = 250 ∨ a = 251 ∨ (a = 241 ∧ y < 16) → f' a y = f a y) : MlS f' b m H sv oe oq x n L := ⟨C.1.cong (fun k hk => F 242 k (by omega)), C.2.1.fr (fun a y h1 => F a y (by omega)), C.2.2.1.fr (fun a y h1 => F a y (by omega)), (F 241 6 (by omega)).trans C.2.2.2.1, (F 241 7 (by omega)).trans C.2.2.2.2.1, C.2.2.2.2.2.1.fr (fun a y h1 => F a y (by omega)), C.2.2.2.2.2.2.fr (fun a y h1 => F a y (by omega))⟩
theorem Bd.up {y y' : Nat} (B : Bd b y) (q : y ≤ y') : Bd b y' := ⟨fun i hi => Nat.le_trans (B.1 i hi) q, Nat.le_trans B.2 q⟩
theorem OKs.up {y y' : Nat} (O : OKs b m H sv oe oq L y) (q : y ≤ y') : OKs b m H sv oe oq L y' := ⟨⟨O.1.1, O.1.2.up q⟩, fun i hi => ⟨(O.2.1 i hi).1, (O.2.1 i hi).2.up q⟩, fun s hs => ⟨(O.2.2.1 s hs).1, (O.2.2.1 s hs).2.up q⟩, O.2.2.2⟩
end PP
end SEC
/-- a call of the form A: both answer the same number -/
def SA (N : Nat) (xs : Nat → Int32) (s y : Nat) (h : Hp) (C M : Hp → Res) : Prop := ∃ v h1 h3, C h = some (.ok (.int v), h1) ∧ HK h1 241 = 9 ∧ M h1 = some (.ok (.int v), h3) ∧ LW N xs (s + 1) (y + 6000) h3
/-- a call of the form B: what is thrown, or what is answered, is the same -/
def SB (N : Nat) (xs : Nat → Int32) (s y : Nat) (h : Hp) (W M : Hp → Res) : Prop := ∃ t w h1 h3, W h = some (.ok (.int (nI t)), h1) ∧ (HK h1 241 = 9 ∧ HK h1 30 = 200 ∧ HL h1 30 = N ∧ ∀ k, HI h1 30 k = HI h 30 k) ∧ M h1 = some (.ok (.int w), h3) ∧ t < 4 ∧ HI h3 241 16 = nI t ∧ (t = 0 → HJ h3 253 0 = w.toInt64) ∧ LW N xs (s + 1) (y + 6000) h3
