/-! THE CLASS: what stays while its line grows; the line of a record -/
section GW
variable {h h' : Hp} {c c' : Nat}
theorem Gw.hk (G : Gw h h' c c') (hn : 241 ≤ HN h) {a : Nat} (ha : a < 241) : HK h' a = HK h a := congrArg Prod.fst (G.k a (by omega))
theorem Gw.hl (G : Gw h h' c c') (hn : 241 ≤ HN h) {a : Nat} (ha : a < 241) : HL h' a = HL h a := congrArg Prod.snd (G.k a (by omega))
theorem Gw.hr (G : Gw h h' c c') (hn : 241 ≤ HN h) {a : Nat} (ha : a < 241) (h9 : a ≠ 239) (i : Nat) : HR h' a i = HR h a i := G.r a (by omega) i (by omega)
theorem TbS.gw {t : Nat} (S : TbS h t) (G : Gw h h' c c') (hn : 241 ≤ HN h) (ht : t + 10 ≤ 239) : TbS h' t := by
  obtain ⟨a1, a2, a3, a4, ⟨b1, b2⟩, ⟨c1, c2⟩, ⟨d1, d2⟩, e⟩ := S
  refine ⟨(G.hk hn (by omega)).trans a1, (G.hr hn (by omega) (by omega) _).trans a2, (G.hr hn (by omega) (by omega) _).trans a3, (G.hr hn (by omega) (by omega) _).trans a4, ⟨(G.hk hn (by omega)).trans b1, (G.hl hn (by omega)).trans b2⟩, ⟨(G.hk hn (by omega)).trans c1, (G.hl hn (by omega)).trans c2⟩, ⟨(G.hk hn (by omega)).trans d1, (G.hl hn (by omega)).trans d2⟩, fun s hs => ?_⟩
  obtain ⟨x1, x2, ⟨y1, y2⟩, z1, z2⟩ := e s hs
  exact ⟨(G.hr hn (by omega) (by omega) _).trans x1, (G.hr hn (by omega) (by omega) _).trans x2, ⟨(G.hk hn (by omega)).trans y1, (G.hl hn (by omega)).trans y2⟩, (G.hk hn (by omega)).trans z1, (G.hl hn (by omega)).trans z2⟩
theorem BtS.gw {t : Nat} (S : BtS h t) (G : Gw h h' c c') (hn : 241 ≤ HN h) (ht : t + 4 ≤ 239) : BtS h' t := by
  obtain ⟨a1, a2, a3, a4, ⟨b1, b2⟩, ⟨c1, c2⟩, ⟨d1, d2⟩⟩ := S
  exact ⟨(G.hk hn (by omega)).trans a1, (G.hr hn (by omega) (by omega) _).trans a2, (G.hr hn (by omega) (by omega) _).trans a3, (G.hr hn (by omega) (by omega) _).trans a4, ⟨(G.hk hn (by omega)).trans b1, (G.hl hn (by omega)).trans b2⟩, ⟨(G.hk hn (by omega)).trans c1, (G.hl hn (by omega)).trans c2⟩, ⟨(G.hk hn (by omega)).trans d1, (G.hl hn (by omega)).trans d2⟩⟩
theorem BkS.gw {B : Nat} (S : BkS h B) (G : Gw h h' c c') (hn : 241 ≤ HN h) (hB : B + 17 ≤ 239) : BkS h' B := by
  obtain ⟨a1, a2, a3, a4, a5, t, q, ⟨b1, b2⟩, ⟨c1, c2⟩⟩ := S
  exact ⟨(G.hk hn (by omega)).trans a1, (G.hr hn (by omega) (by omega) _).trans a2, (G.hr hn (by omega) (by omega) _).trans a3, (G.hr hn (by omega) (by omega) _).trans a4, (G.hr hn (by omega) (by omega) _).trans a5, t.gw G hn (by omega), q.gw G hn (by omega), ⟨(G.hk hn (by omega)).trans b1, (G.hl hn (by omega)).trans b2⟩, ⟨(G.hk hn (by omega)).trans c1, (G.hl hn (by omega)).trans c2⟩⟩
theorem RrS.gw (S : RrS h) (G : Gw h h' c c') (hn : 241 ≤ HN h) : RrS h' := by
  obtain ⟨a1, a2, a3, a4, a5, a6, a7, a8, a9, b1, b2, b3, ⟨c1, c2⟩, ⟨d1, d2⟩, e⟩ := S
  refine ⟨(G.hk hn (by omega)).trans a1, (G.hr hn (by omega) (by omega) _).trans a2, (G.hr hn (by omega) (by omega) _).trans a3, (G.hr hn (by omega) (by omega) _).trans a4, (G.hr hn (by omega) (by omega) _).trans a5, (G.hr hn (by omega) (by omega) _).trans a6, (G.hr hn (by omega) (by omega) _).trans a7, (G.hr hn (by omega) (by omega) _).trans a8, (G.hr hn (by omega) (by omega) _).trans a9, b1.gw G hn (by omega), b2.gw G hn (by omega), b3.gw G hn (by omega), ⟨(G.hk hn (by omega)).trans c1, (G.hr hn (by omega) (by omega) _).trans c2⟩, ⟨?_, (G.hl hn (by omega)).trans d2⟩, fun i hi => ⟨(G.hr hn (by omega) (by omega) _).trans (e i hi).1, (e i hi).2.gw G hn (by omega)⟩⟩
  rw [G.hk hn (by omega)]
  exact d1
theorem PgS.gw (S : PgS h) (G : Gw h h' c c') (hn : 241 ≤ HN h) : PgS h' := by
  obtain ⟨a, ⟨b1, b2, b3, b4, b5⟩, ⟨c1, c2⟩, ⟨d1, d2⟩, ⟨e1, e2⟩, ⟨f1, f2⟩, g1, g2⟩ := S
  exact ⟨(G.hk hn (by omega)).trans a, ⟨(G.hr hn (by omega) (by omega) _).trans b1, (G.hr hn (by omega) (by omega) _).trans b2, (G.hr hn (by omega) (by omega) _).trans b3, (G.hr hn (by omega) (by omega) _).trans b4, (G.hr hn (by omega) (by omega) _).trans b5⟩, ⟨(G.hk hn (by omega)).trans c1, (G.hl hn (by omega)).trans c2⟩, ⟨(G.hk hn (by omega)).trans d1, (G.hl hn (by omega)).trans d2⟩, ⟨(G.hk hn (by omega)).trans e1, (G.hl hn (by omega)).trans e2⟩, ⟨(G.hk hn (by omega)).trans f1, (G.hl hn (by omega)).trans f2⟩, (G.hk hn (by omega)).trans g1, (G.hl hn (by omega)).trans g2⟩
theorem MgS.gw (S : MgS h) (G : Gw h h' c c') (hn : 241 ≤ HN h) : MgS h' := by
  obtain ⟨a, ⟨b1, b2, b3, b4, b5, b6, b7⟩, e⟩ := S
  exact ⟨(G.hk hn (by omega)).trans a, ⟨(G.hr hn (by omega) (by omega) _).trans b1, (G.hr hn (by omega) (by omega) _).trans b2, (G.hr hn (by omega) (by omega) _).trans b3, (G.hr hn (by omega) (by omega) _).trans b4, (G.hr hn (by omega) (by omega) _).trans b5, (G.hr hn (by omega) (by omega) _).trans b6, (G.hr hn (by omega) (by omega) _).trans b7⟩, fun i hi => ⟨(G.hk hn (by omega)).trans (e i hi).1, (G.hl hn (by omega)).trans (e i hi).2⟩⟩
theorem GrS.gw (S : GrS h) (G : Gw h h' c c') (hn : 241 ≤ HN h) : GrS h' := by
  obtain ⟨a, ⟨b1, b2, b3⟩, e⟩ := S
  exact ⟨(G.hk hn (by omega)).trans a, ⟨(G.hr hn (by omega) (by omega) _).trans b1, (G.hr hn (by omega) (by omega) _).trans b2, (G.hr hn (by omega) (by omega) _).trans b3⟩, fun i hi => ⟨(G.hk hn (by omega)).trans (e i hi).1, (G.hl hn (by omega)).trans (e i hi).2⟩⟩
end GW
theorem RK.fl {f f' : Nat → Nat → Int32} {B : Nat} {b : Bk} (R : RK f B b) (H : FLc f f') (hB : B + 17 ≤ 239) : RK f' B b := ⟨R.t.cong (fun i z hi => H _ z (by omega) (by omega) (by omega)), R.q.cong (fun i z hi => H _ z (by omega) (by omega) (by omega)), fun s hs => by rw [H _ s (by omega) (by omega) (by omega)]; exact R.tr hs, fun i hi => by rw [H _ i (by omega) (by omega) (by omega)]; exact R.tt hi, by rw [H _ 4 (by omega) (by omega) (by omega)]; exact R.y⟩
/-- all that writing a line needs -/
def CI (h : Hp) (f : Nat → Nat → Int32) (L : List Nat) (c A B : Nat) (b : Bk) : Prop := QS h B ∧ HR h 31 7 = 239 ∧ (32 ≤ B ∧ B + 17 ≤ 239) ∧ KoS h ∧ Ko f ∧ RK f B b ∧ LnS h f L c A
section CL1
variable {h : Hp} {f : Nat → Nat → Int32} {L : List Nat} {c A B : Nat} {b : Bk}
theorem CI.q (C : CI h f L c A B b) : QS h B := C.1
theorem CI.l (C : CI h f L c A B b) : HR h 31 7 = 239 := C.2.1
theorem CI.k (C : CI h f L c A B b) : KoS h := C.2.2.2.1
theorem CI.o (C : CI h f L c A B b) : Ko f := C.2.2.2.2.1
theorem CI.r (C : CI h f L c A B b) : RK f B b := C.2.2.2.2.2.1
theorem CI.s (C : CI h f L c A B b) : LnS h f L c A := C.2.2.2.2.2.2
theorem CI.step (C : CI h f L c A B b) {h' : Hp} {f' : Nat → Nat → Int32} {M : List Nat} {c' A' : Nat} (S : LnS h' f' M c' A') (G : Gw h h' c c') (H : FLc f f') : CI h' f' M c' A' B b := by
  obtain ⟨⟨q1, q2, q3⟩, l, ⟨b1, b2⟩, k, o, r, s⟩ := C
  have hn := s.hn
  refine ⟨⟨?_, (G.hr hn (by omega) (by omega) _).trans q2, q3.gw G hn b2⟩, (G.hr hn (by omega) (by omega) _).trans l, ⟨b1, b2⟩, k.gw G hn, H.ko o, r.fl H b2, S⟩
  unfold ckK at q1 ⊢
  rw [G.hk hn (by omega)]
  exact q1
/-- one step of writing -/
def ST (op : Hp → Res) (v : Value) (h : Hp) (f : Nat → Nat → Int32) (c B : Nat) (b : Bk) (M : List Nat) : Prop := ∃ h' f' c' A', op (wI h f) = some (.ok v, wI h' f') ∧ CI h' f' M c' A' B b ∧ Gw h h' c c' ∧ FLc f f'
theorem sC (C : CI h f L c A B b) {ch : Nat} (hc : ch < 128) (hl : L.length < 142) : ST (CL 81 [.ref 239, .int (nI ch)]) (.ref 239) h f c B b (L ++ [ch]) := by
  obtain ⟨h', f', c', A', k1, k2, k3, k4⟩ := apC_ok C.s hc hl
  exact ⟨h', f', c', A', k1, C.step k2 k3 k4, k3, k4⟩
theorem sI' (C : CI h f L c A B b) {v : Nat} (hv : v < 1073741824) (hl : L.length + 10 ≤ 142) : ST (CL 86 [.ref 239, .int (nI v)]) (.ref 239) h f c B b (L ++ dig v) := by
  obtain ⟨h', f', c', A', k1, k2, k3, k4⟩ := apI_ok C.s C.k C.o hv hl
  exact ⟨h', f', c', A', k1, C.step k2 k3 k4, k3, k4⟩
theorem sS (C : CI h f L c A B b) {a : Nat} (h1 : 4 ≤ a) (h2 : a < 30) (h3 : a % 2 = 0) (hl12 : lln a ≤ 12) (hl : L.length + 12 ≤ 142) : ST (CL 96 [.ref 239, .ref a]) (.ref 239) h f c B b (L ++ lws a 0 (lln a)) := by
  obtain ⟨h', f', c', A', k1, k2, k3, k4⟩ := apS_ok C.s C.k C.o h1 h2 h3 hl12 hl
  exact ⟨h', f', c', A', k1, C.step k2 k3 k4, k3, k4⟩
theorem sE (C : CI h f L c A B b) : ST (CL 78 [.ref 239, .int (nI 0)]) .null h f c B b [] := by
  obtain ⟨f', k1, k2, k3⟩ := setLen_ok C.s
  exact ⟨h, f', c, A, k1, C.step k2 (Gw.refl h c) k3, Gw.refl h c, k3⟩
end CL1
