/-! THE OBJECTS MADE: what stays; a book -/
/-- the cells from lo to hi are the same -/
def Sm (h h' : Hp) (lo hi : Nat) : Prop := ∀ a, lo ≤ a → a < hi → h'.2.1 a = h.2.1 a ∧ ∀ k, HI h' a k = HI h a k ∧ HR h' a k = HR h a k
section SM
variable {h h' : Hp} {lo hi : Nat}
theorem Sm.refl (h : Hp) (lo hi : Nat) : Sm h h lo hi := fun _ _ _ => ⟨rfl, fun _ => ⟨rfl, rfl⟩⟩
theorem Sm.trans {h'' : Hp} (A : Sm h h' lo hi) (B : Sm h' h'' lo hi) : Sm h h'' lo hi := fun a x y => ⟨(B a x y).1.trans (A a x y).1, fun k => ⟨((B a x y).2 k).1.trans ((A a x y).2 k).1, ((B a x y).2 k).2.trans ((A a x y).2 k).2⟩⟩
theorem Sm.mono (A : Sm h h' lo hi) {l u : Nat} (x : lo ≤ l) (y : u ≤ hi) : Sm h h' l u := fun a p q => A a (by omega) (by omega)
theorem Sm.hk (A : Sm h h' lo hi) {a : Nat} (x : lo ≤ a) (y : a < hi) : HK h' a = HK h a := congrArg Prod.fst (A a x y).1
theorem Sm.hl (A : Sm h h' lo hi) {a : Nat} (x : lo ≤ a) (y : a < hi) : HL h' a = HL h a := congrArg Prod.snd (A a x y).1
theorem Sm.hr (A : Sm h h' lo hi) {a : Nat} (x : lo ≤ a) (y : a < hi) (k : Nat) : HR h' a k = HR h a k := ((A a x y).2 k).2
theorem Sm.ii (A : Sm h h' lo hi) {a : Nat} (x : lo ≤ a) (y : a < hi) (k : Nat) : HI h' a k = HI h a k := ((A a x y).2 k).1
theorem Sm.new (h : Hp) (k l : Nat) {lo hi : Nat} (q : hi ≤ HN h) : Sm h (hnew h k l) lo hi := fun a _ y => ⟨if_neg (show ¬a = HN h by omega), fun _ => ⟨if_neg (show ¬a = HN h by omega), if_neg (show ¬a = HN h by omega)⟩⟩
theorem Sm.sR (h : Hp) (t k v : Nat) {lo hi : Nat} (q : t < lo ∨ hi ≤ t) : Sm h (sR h t k v) lo hi := fun a _ _ => ⟨rfl, fun i => ⟨rfl, if_neg (show ¬(a = t ∧ i = k) by omega)⟩⟩
theorem Sm.sI (h : Hp) (t k : Nat) (v : Int32) {lo hi : Nat} (q : t < lo ∨ hi ≤ t) : Sm h (sI h t k v) lo hi := fun a _ _ => ⟨rfl, fun i => ⟨if_neg (show ¬(a = t ∧ i = k) by omega), rfl⟩⟩
theorem Sm.wI (h : Hp) {f : Nat → Nat → Int32} {lo hi : Nat} (q : ∀ a k, lo ≤ a → a < hi → f a k = HI h a k) : Sm h (wI h f) lo hi := fun a x y => ⟨rfl, fun k => ⟨q a k x y, rfl⟩⟩
theorem Sm.nw {t n s : Nat} (W : Nw h h' t n s) {lo hi : Nat} (q : hi ≤ HN h) (q2 : t < lo ∨ hi ≤ t) : Sm h h' lo hi := fun a _ _ => ⟨(W.2.2.2 a (by omega)).1, fun k => (W.2.2.2 a (by omega)).2 (by omega) k⟩
theorem TbS.sm {t : Nat} (S : TbS h t) (G : Sm h h' lo hi) (h1 : lo ≤ t) (h2 : t + 10 ≤ hi) : TbS h' t := by
  obtain ⟨a1, a2, a3, a4, ⟨b1, b2⟩, ⟨c1, c2⟩, ⟨d1, d2⟩, e⟩ := S
  refine ⟨(G.hk (by omega) (by omega)).trans a1, (G.hr (by omega) (by omega) _).trans a2, (G.hr (by omega) (by omega) _).trans a3, (G.hr (by omega) (by omega) _).trans a4, ⟨(G.hk (by omega) (by omega)).trans b1, (G.hl (by omega) (by omega)).trans b2⟩, ⟨(G.hk (by omega) (by omega)).trans c1, (G.hl (by omega) (by omega)).trans c2⟩, ⟨(G.hk (by omega) (by omega)).trans d1, (G.hl (by omega) (by omega)).trans d2⟩, fun s hs => ?_⟩
  obtain ⟨x1, x2, ⟨y1, y2⟩, z1, z2⟩ := e s hs
  exact ⟨(G.hr (by omega) (by omega) _).trans x1, (G.hr (by omega) (by omega) _).trans x2, ⟨(G.hk (by omega) (by omega)).trans y1, (G.hl (by omega) (by omega)).trans y2⟩, (G.hk (by omega) (by omega)).trans z1, (G.hl (by omega) (by omega)).trans z2⟩
theorem BtS.sm {t : Nat} (S : BtS h t) (G : Sm h h' lo hi) (h1 : lo ≤ t) (h2 : t + 4 ≤ hi) : BtS h' t := by
  obtain ⟨a1, a2, a3, a4, ⟨b1, b2⟩, ⟨c1, c2⟩, ⟨d1, d2⟩⟩ := S
  exact ⟨(G.hk (by omega) (by omega)).trans a1, (G.hr (by omega) (by omega) _).trans a2, (G.hr (by omega) (by omega) _).trans a3, (G.hr (by omega) (by omega) _).trans a4, ⟨(G.hk (by omega) (by omega)).trans b1, (G.hl (by omega) (by omega)).trans b2⟩, ⟨(G.hk (by omega) (by omega)).trans c1, (G.hl (by omega) (by omega)).trans c2⟩, ⟨(G.hk (by omega) (by omega)).trans d1, (G.hl (by omega) (by omega)).trans d2⟩⟩
theorem BkS.sm {B : Nat} (S : BkS h B) (G : Sm h h' lo hi) (h1 : lo ≤ B) (h2 : B + 17 ≤ hi) : BkS h' B := by
  obtain ⟨a1, a2, a3, a4, a5, t, q, ⟨b1, b2⟩, ⟨c1, c2⟩⟩ := S
  exact ⟨(G.hk (by omega) (by omega)).trans a1, (G.hr (by omega) (by omega) _).trans a2, (G.hr (by omega) (by omega) _).trans a3, (G.hr (by omega) (by omega) _).trans a4, (G.hr (by omega) (by omega) _).trans a5, t.sm G (by omega) (by omega), q.sm G (by omega) (by omega), ⟨(G.hk (by omega) (by omega)).trans b1, (G.hl (by omega) (by omega)).trans b2⟩, ⟨(G.hk (by omega) (by omega)).trans c1, (G.hl (by omega) (by omega)).trans c2⟩⟩
theorem RK.sm {B : Nat} {b : Bk} (R : RK (HI h) B b) (G : Sm h h' lo hi) (h1 : lo ≤ B) (h2 : B + 17 ≤ hi) : RK (HI h') B b := ⟨R.t.cong (fun i z hi => G.ii (by omega) (by omega) z), R.q.cong (fun i z hi => G.ii (by omega) (by omega) z), fun s hs => by rw [G.ii (by omega) (by omega) s]; exact R.tr hs, fun i hi => by rw [G.ii (by omega) (by omega) i]; exact R.tt hi, by rw [G.ii (by omega) (by omega) 4]; exact R.y⟩
end SM
theorem new_k (h : Hp) (k l : Nat) {t : Nat} (e : HN h = t) : HK (hnew h k l) t = k := by
  subst e
  exact congrArg Prod.fst (hnew_e h k l)
theorem new_l (h : Hp) (k l : Nat) {t : Nat} (e : HN h = t) : HL (hnew h k l) t = l := by
  subst e
  exact congrArg Prod.snd (hnew_e h k l)
theorem new_i (h : Hp) (k l : Nat) {t : Nat} (e : HN h = t) (x : Nat) : HI (hnew h k l) t x = nI 0 := by
  subst e
  exact if_pos rfl
theorem sR_at (h : Hp) (a k v : Nat) : HR (sR h a k v) a k = v := if_pos ⟨rfl, rfl⟩
theorem sR_ot (h : Hp) (a k v : Nat) {i : Nat} (q : i ≠ k) : HR (sR h a k v) a i = HR h a i := if_neg (fun e => q e.2)
theorem sz3 : (decide ((0 : Int32) ≤ (3 : Int32)) && decide ((3 : Int32) ≤ 100000)) = true := by decide
theorem nz3 : (3 : Int32).toNatClampNeg = 3 := by decide
theorem sz7 : (decide ((0 : Int32) ≤ (7 : Int32)) && decide ((7 : Int32) ≤ 100000)) = true := by decide
theorem nz7 : (7 : Int32).toNatClampNeg = 7 := by decide
def gb2 (h : Hp) (t : Nat) : Hp := sR (mkT (hnew h 5 5) (t + 1)) t 0 (t + 1)
def gb4 (h : Hp) (t : Nat) : Hp := sR (mkB (hnew (gb2 h t) 1 4) (t + 11)) t 1 (t + 11)
def gb5 (h : Hp) (t : Nat) : Hp := sR (hnew (gb4 h t) 100 3) t 2 (t + 15)
def gb6 (h : Hp) (t : Nat) : Hp := sR (hnew (gb5 h t) 100 7) t 3 (t + 16)
def gb7 (h : Hp) (t : Nat) : Hp := sI (gb6 h t) t 4 (nI 0)
def mkK (h : Hp) (t : Nat) : Hp := wI (gb7 h t) (u2 (u2 (u2 (HI (gb7 h t)) (t + 15) 0 (nI 5)) (t + 15) 1 (nI 5)) (t + 15) 2 (nI 5))
section GB
variable {h : Hp} {t : Nat}
theorem gb2_n (hN : HN h = t + 1) : HN (gb2 h t) = t + 11 := by
  unfold gb2
  rw [HN_sR, (mkT_w (h := hnew h 5 5) (t := t + 1) (by rw [HN_hnew, hN])).1, HN_hnew, hN]
theorem gb4_n (hN : HN h = t + 1) : HN (gb4 h t) = t + 15 := by
  unfold gb4
  rw [HN_sR, (mkB_w (h := hnew (gb2 h t) 1 4) (t := t + 11) (by rw [HN_hnew, gb2_n hN])).1, HN_hnew, gb2_n hN]
theorem gb5_n (hN : HN h = t + 1) : HN (gb5 h t) = t + 16 := by
  unfold gb5
  rw [HN_sR, HN_hnew, gb4_n hN]
theorem gb6_n (hN : HN h = t + 1) : HN (gb6 h t) = t + 17 := by
  unfold gb6
  rw [HN_sR, HN_hnew, gb5_n hN]
theorem gb2_m (hN : HN h = t + 1) : Sm h (gb2 h t) 0 t := (Sm.new h 5 5 (by omega)).trans ((Sm.nw (mkT_w (h := hnew h 5 5) (t := t + 1) (by rw [HN_hnew, hN])) (by rw [HN_hnew]; omega) (by omega)).trans (Sm.sR _ t 0 _ (by omega)))
theorem gb4_m (hN : HN h = t + 1) {lo hi : Nat} (q : hi ≤ t + 11) (q2 : t < lo ∨ hi ≤ t) : Sm (gb2 h t) (gb4 h t) lo hi := (Sm.new _ 1 4 (by rw [gb2_n hN]; omega)).trans ((Sm.nw (mkB_w (h := hnew (gb2 h t) 1 4) (t := t + 11) (by rw [HN_hnew, gb2_n hN])) (by rw [HN_hnew, gb2_n hN]; omega) (by omega)).trans (Sm.sR _ t 1 _ (by omega)))
theorem gb5_m (hN : HN h = t + 1) {lo hi : Nat} (q : hi ≤ t + 15) (q2 : t < lo ∨ hi ≤ t) : Sm (gb4 h t) (gb5 h t) lo hi := (Sm.new _ 100 3 (by rw [gb4_n hN]; omega)).trans (Sm.sR _ t 2 _ (by omega))
theorem gb6_m (hN : HN h = t + 1) {lo hi : Nat} (q : hi ≤ t + 16) (q2 : t < lo ∨ hi ≤ t) : Sm (gb5 h t) (gb6 h t) lo hi := (Sm.new _ 100 7 (by rw [gb5_n hN]; omega)).trans (Sm.sR _ t 3 _ (by omega))
theorem gb7_m {lo hi : Nat} (q2 : t < lo ∨ hi ≤ t) : Sm (gb6 h t) (gb7 h t) lo hi := Sm.sI _ t 4 _ (by omega)
theorem gb8_m {lo hi : Nat} (q2 : t + 15 < lo ∨ hi ≤ t + 15) : Sm (gb7 h t) (mkK h t) lo hi := Sm.wI _ (fun a k x y => (if_neg (by omega)).trans ((if_neg (by omega)).trans (if_neg (by omega))))
/-- from the table on -/
theorem gbT_m (hN : HN h = t + 1) : Sm (mkT (hnew h 5 5) (t + 1)) (mkK h t) (t + 1) (t + 11) := (Sm.sR _ t 0 _ (by omega)).trans ((gb4_m hN (by omega) (by omega)).trans ((gb5_m hN (by omega) (by omega)).trans ((gb6_m hN (by omega) (by omega)).trans ((gb7_m (by omega)).trans (gb8_m (by omega))))))
theorem gbB_m (hN : HN h = t + 1) : Sm (mkB (hnew (gb2 h t) 1 4) (t + 11)) (mkK h t) (t + 11) (t + 15) := (Sm.sR _ t 1 _ (by omega)).trans ((gb5_m hN (by omega) (by omega)).trans ((gb6_m hN (by omega) (by omega)).trans ((gb7_m (by omega)).trans (gb8_m (by omega)))))
theorem gb0_m (hN : HN h = t + 1) : Sm h (mkK h t) 0 t := (gb2_m hN).trans ((gb4_m hN (by omega) (by omega)).trans ((gb5_m hN (by omega) (by omega)).trans ((gb6_m hN (by omega) (by omega)).trans ((gb7_m (by omega)).trans (gb8_m (by omega))))))
theorem gb2_p (hN : HN h = t + 1) : (gb2 h t).2.1 t = h.2.1 t := ((mkT_w (h := hnew h 5 5) (t := t + 1) (by rw [HN_hnew, hN])).2.2.2 t (by rw [HN_hnew]; omega)).1.trans ((Sm.new h 5 5 (lo := 0) (hi := t + 1) (by omega)) t (by omega) (by omega)).1
theorem gb4_p (hN : HN h = t + 1) : (gb4 h t).2.1 t = h.2.1 t := ((mkB_w (h := hnew (gb2 h t) 1 4) (t := t + 11) (by rw [HN_hnew, gb2_n hN])).2.2.2 t (by rw [HN_hnew, gb2_n hN]; omega)).1.trans (((Sm.new (gb2 h t) 1 4 (lo := 0) (hi := t + 1) (by rw [gb2_n hN]; omega)) t (by omega) (by omega)).1.trans (gb2_p hN))
theorem gb5_p (hN : HN h = t + 1) : (gb5 h t).2.1 t = h.2.1 t := ((Sm.new (gb4 h t) 100 3 (lo := 0) (hi := t + 1) (by rw [gb4_n hN]; omega)) t (by omega) (by omega)).1.trans (gb4_p hN)
theorem gb6_p (hN : HN h = t + 1) : (gb6 h t).2.1 t = h.2.1 t := ((Sm.new (gb5 h t) 100 7 (lo := 0) (hi := t + 1) (by rw [gb5_n hN]; omega)) t (by omega) (by omega)).1.trans (gb5_p hN)
theorem gb2_k (hN : HN h = t + 1) : HK (gb2 h t) t = HK h t := congrArg Prod.fst (gb2_p hN)
theorem gb4_k (hN : HN h = t + 1) : HK (gb4 h t) t = HK h t := congrArg Prod.fst (gb4_p hN)
theorem gb5_k (hN : HN h = t + 1) : HK (gb5 h t) t = HK h t := congrArg Prod.fst (gb5_p hN)
theorem gb6_k (hN : HN h = t + 1) : HK (gb6 h t) t = HK h t := congrArg Prod.fst (gb6_p hN)
theorem gb4_r (hN : HN h = t + 1) {i : Nat} (hi : i ≠ 1) : HR (gb4 h t) t i = HR (gb2 h t) t i := (sR_ot _ t 1 _ hi).trans (((mkB_w (h := hnew (gb2 h t) 1 4) (t := t + 11) (by rw [HN_hnew, gb2_n hN])).2.2.2 t (by rw [HN_hnew, gb2_n hN]; omega)).2 (by omega) i |>.2.trans ((Sm.new (gb2 h t) 1 4 (lo := 0) (hi := t + 1) (by rw [gb2_n hN]; omega)).hr (by omega) (by omega) i))
theorem gb5_r (hN : HN h = t + 1) {i : Nat} (hi : i ≠ 2) : HR (gb5 h t) t i = HR (gb4 h t) t i := (sR_ot _ t 2 _ hi).trans ((Sm.new (gb4 h t) 100 3 (lo := 0) (hi := t + 1) (by rw [gb4_n hN]; omega)).hr (by omega) (by omega) i)
theorem gb6_r (hN : HN h = t + 1) {i : Nat} (hi : i ≠ 3) : HR (gb6 h t) t i = HR (gb5 h t) t i := (sR_ot _ t 3 _ hi).trans ((Sm.new (gb5 h t) 100 7 (lo := 0) (hi := t + 1) (by rw [gb5_n hN]; omega)).hr (by omega) (by omega) i)
end GB
