/-! THE LAW: what holds of the class between its steps -/
def WF (h : Hp) : Prop := ZI (fun _ => False) h
/-- the law's keys are small -/
def Kb (b : Bk) : Prop := (∀ s k, 100 ≤ k → kA b s k = 0) ∧ ∀ i, i < kN b → (kQ b i).2.1 < 100
theorem prA_kb {A : AF} {Q : QF} {n : Nat} (hA : ∀ s k, 100 ≤ k → A s k = 0) (hQ : ∀ i, i < n → (Q i).2.1 < 100) : ∀ i, i ≤ n → ∀ s k, 100 ≤ k → prA A Q i s k = 0
  | 0, _ => hA
  | i + 1, hi => fun s k hk => by
    show sA (prA A Q i) (Q i).1 (Q i).2.1 (Q i).2.2 s k = 0
    have := hQ i (by omega)
    rw [sA_ne (by omega)]
    exact prA_kb hA hQ i (by omega) s k hk
theorem Kb.eff {b : Bk} (V : Kb b) {j s k a : Nat} (hk : j = 0 → k < 100) : Kb (effB b j s k a) := by
  match j with
  | 0 =>
    refine ⟨V.1, fun i hi => ?_⟩
    have hi' : i < kN b + 1 := hi
    show (adQ (kQ b) (kN b) s k a i).2.1 < 100
    unfold adQ
    split
    · exact hk rfl
    · exact V.2 i (by omega)
  | 1 =>
    refine ⟨V.1, fun i hi => ?_⟩
    have hi' : i < kN b - 1 := hi
    show (rmQ (kQ b) _ i).2.1 < 100
    unfold rmQ
    split
    · exact V.2 (i + 1) (by omega)
    · exact V.2 i (by omega)
  | 2 => exact ⟨prA_kb V.1 V.2 _ (Nat.le_refl _), fun i hi => absurd hi (Nat.not_lt_zero i)⟩
  | 3 => exact ⟨V.1, fun i hi => absurd hi (Nat.not_lt_zero i)⟩
  | 4 =>
    refine ⟨fun s' k' h' => ?_, V.2⟩
    show (if k' = k ∧ 0 < kA b s' k' then kA b s k else kA b s' k') = 0
    rw [if_neg (by rw [V.1 s' k' h']; omega)]
    exact V.1 s' k' h'
  | 5 =>
    refine ⟨fun s' k' h' => ?_, V.2⟩
    show (if s' = s ∧ k' = k then 0 else kA b s' k') = 0
    split
    · rfl
    · exact V.1 s' k' h'
  | j + 6 => exact V
/-- the class with its book; the script -/
def LK (N : Nat) (xs : Nat → Int32) (h : Hp) (b : Bk) (y : Nat) : Prop := WF h ∧ 241 ≤ HN h ∧ (RrS h ∧ MgS h ∧ GrS h) ∧ (KoS h ∧ Ko (HI h)) ∧ ((HK h 30 = 200 ∧ HL h 30 = N) ∧ ∀ k, HI h 30 k = xs k) ∧ RK (HI h) 32 b ∧ (∃ m H, RH (HI h) m H) ∧ (∃ L c A, LnS h (HI h) L c A ∧ Lo L) ∧ (Cns b ∧ Bd b y ∧ Qv b ∧ Kb b)
/-- the room that a step takes -/
def Rm (h h' : Hp) (dc ds : Nat) : Prop := HC h' ≤ HC h + dc ∧ HS h' ≤ HS h + ds
section LAW1
variable {N : Nat} {xs : Nat → Int32} {h h' g : Hp} {b b' : Bk} {y y' dc ds : Nat}
theorem Rm.tr {a c d e : Nat} (R : Rm h h' a c) (S : Rm h' g d e) : Rm h g (a + d) (c + e) := by
  have := R.1
  have := R.2
  have := S.1
  have := S.2
  exact ⟨by omega, by omega⟩
theorem Rm.up {a c d e : Nat} (R : Rm h h' a c) (h1 : a ≤ d) (h2 : c ≤ e) : Rm h h' d e := ⟨Nat.le_trans R.1 (Nat.add_le_add_left h1 _), Nat.le_trans R.2 (Nat.add_le_add_left h2 _)⟩
theorem Rm.rf (h : Hp) : Rm h h 0 0 := ⟨Nat.le_refl _, Nat.le_refl _⟩
theorem Rm.thr (h : Hp) : Rm h (hthr h) 1 6 := ⟨Nat.le_refl _, Nat.le_refl _⟩
theorem Nh.rm (n : Nh h h' dc ds) : Rm h h' dc ds := ⟨n.2.2.2.2.1, n.2.2.2.2.2⟩
theorem LK.wf (K : LK N xs h b y) : WF h := K.1
theorem LK.hn (K : LK N xs h b y) : 241 ≤ HN h := K.2.1
theorem LK.rr (K : LK N xs h b y) : RrS h := K.2.2.1.1
theorem LK.mg (K : LK N xs h b y) : MgS h := K.2.2.1.2.1
theorem LK.gr (K : LK N xs h b y) : GrS h := K.2.2.1.2.2
theorem LK.ks (K : LK N xs h b y) : KoS h := K.2.2.2.1.1
theorem LK.ko (K : LK N xs h b y) : Ko (HI h) := K.2.2.2.1.2
theorem LK.sc (K : LK N xs h b y) : HK h 30 = 200 ∧ HL h 30 = N := K.2.2.2.2.1.1
theorem LK.xx (K : LK N xs h b y) : ∀ k, HI h 30 k = xs k := K.2.2.2.2.1.2
theorem LK.rk (K : LK N xs h b y) : RK (HI h) 32 b := K.2.2.2.2.2.1
theorem LK.rh (K : LK N xs h b y) : ∃ m H, RH (HI h) m H := K.2.2.2.2.2.2.1
theorem LK.ln (K : LK N xs h b y) : ∃ L c A, LnS h (HI h) L c A ∧ Lo L := K.2.2.2.2.2.2.2.1
theorem LK.cn (K : LK N xs h b y) : Cns b := K.2.2.2.2.2.2.2.2.1
theorem LK.bd (K : LK N xs h b y) : Bd b y := K.2.2.2.2.2.2.2.2.2.1
theorem LK.qv (K : LK N xs h b y) : Qv b := K.2.2.2.2.2.2.2.2.2.2.1
theorem LK.kb (K : LK N xs h b y) : Kb b := K.2.2.2.2.2.2.2.2.2.2.2
theorem LK.q (K : LK N xs h b y) : QS h 32 := K.rr.qs
theorem LK.k8 (K : LK N xs h b y) : ckK h 31 8 = true := K.q.f.1
theorem LK.up (K : LK N xs h b y) (q : y ≤ y') : LK N xs h b y' := ⟨K.wf, K.hn, K.2.2.1, K.2.2.2.1, K.2.2.2.2.1, K.rk, K.rh, K.ln, K.cn, ⟨fun i hi => Nat.le_trans (K.bd.1 i hi) q, Nat.le_trans K.bd.2 q⟩, K.qv, K.kb⟩
/-- a call keeps what can't be reached; all refer to what is there -/
theorem LK.nz {Z : Nat → Prop} (K : LK N xs h b y) (h31 : ¬ Z 31) : 31 < HN h ∧ ¬ Z 31 := ⟨by have := K.hn; omega, h31⟩
theorem wf_CL {m : Nat} {as : List Value} {r : Except Nat Value} (hm : m < 344) (hr : CL m as h = some (r, h')) (W : WF h) (ha : NzL (fun _ => False) (HN h) as) : WF h' := (CL_z hm hr W ha).1.1
/-- only scratch of the class was written -/
theorem LK.wr (K : LK N xs h b y) {f : Nat → Nat → Int32} (F : ∀ a z, ¬(227 ≤ a ∧ a < 239) → f a z = HI h a z) : LK N xs (wI h f) b y := by
  obtain ⟨m, H, R⟩ := K.rh
  obtain ⟨L, c, A, S, lo⟩ := K.ln
  have ap := S.ap
  refine ⟨K.wf, K.hn, K.2.2.1, ⟨K.ks, K.ko.fr (fun a z ha => F a z (by omega))⟩, ⟨K.sc, fun k => (F 30 k (by omega)).trans (K.xx k)⟩, ?_, ⟨m, H, R.fr (fun a z h1 h2 => F a z (by omega))⟩, ⟨L, c, A, ?_, lo⟩, K.cn, K.bd, K.qv, K.kb⟩
  · have R := K.rk
    exact ⟨R.t.cong (fun i z hi => F _ z (by omega)), R.q.cong (fun i z hi => F _ z (by omega)), fun s hs => by rw [show HI (wI h f) (32 + 15) s = HI h (32 + 15) s from F (32 + 15) s (by omega)]; exact R.tr hs, fun i hi => by rw [show HI (wI h f) (32 + 16) i = HI h (32 + 16) i from F (32 + 16) i (by omega)]; exact R.tt hi, by rw [show HI (wI h f) 32 4 = HI h 32 4 from F 32 4 (by omega)]; exact R.y⟩
  · exact ⟨S.k, S.r, S.ka, S.la, S.an, S.ap, S.hn, (F 239 1 (by omega)).trans S.c0, (F 239 3 (by omega)).trans S.n, S.le, S.c3, fun i hi => by rw [show HI (wI h f) A i = HI h A i from F A i (by omega)]; exact S.z i hi, fun i hi => by rw [show HI (wI h f) A i = HI h A i from F A i (by omega)]; exact S.x i hi⟩
/-- an exception more -/
theorem LK.th (K : LK N xs h b y) : LK N xs (hthr h) b y := K
theorem shp_of (R : RrS h ∧ MgS h ∧ GrS h) (h241 : 241 ≤ HN h) (hn : HN h ≤ HN g) (hk : ∀ a, a < HN h → g.2.1 a = h.2.1 a) (hr : ∀ a, a < HN h → ∀ i, HR g a i = HR h a i) : RrS g ∧ MgS g ∧ GrS g := by
  have G : Gw h ((HN g, HC h, HS h), g.2) 0 0 := ⟨hn, hk, fun a ha i _ => hr a ha i, rfl, rfl⟩
  exact ⟨(R.1.gw G h241 : RrS ((HN g, HC h, HS h), g.2)), (R.2.1.gw G h241 : MgS ((HN g, HC h, HS h), g.2)), (R.2.2.gw G h241 : GrS ((HN g, HC h, HS h), g.2))⟩
/-- another heap in which all cells of the class are as they were -/
theorem LK.eqv (K : LK N xs h b y) (W : WF g) (hn : HN h ≤ HN g) (hk : ∀ a, a < HN h → g.2.1 a = h.2.1 a) (hr : ∀ a, a < HN h → ∀ i, HR g a i = HR h a i) (hi : ∀ a, a < HN h → ∀ i, HI g a i = HI h a i) : LK N xs g b y := by
  obtain ⟨m, H, R⟩ := K.rh
  obtain ⟨L, c, A, S, lo⟩ := K.ln
  have n1 := K.hn
  have an := S.an
  have kk : ∀ a, a < HN h → HK g a = HK h a := fun a ha => congrArg Prod.fst (hk a ha)
  have kl : ∀ a, a < HN h → HL g a = HL h a := fun a ha => congrArg Prod.snd (hk a ha)
  refine ⟨W, by omega, ?_, ?_, ?_, ?_, ?_, ?_, K.cn, K.bd, K.qv, K.kb⟩
  · exact shp_of K.2.2.1 n1 hn hk hr
  · exact ⟨fun a h1 h2 => by
      obtain ⟨z1, z2⟩ := K.ks a h1 h2
      exact ⟨(hk a (by omega)).trans z1, fun i => (hr a (by omega) i).trans (z2 i)⟩, K.ko.fr (fun a z ha => hi a (by omega) z)⟩
  · exact ⟨⟨(kk 30 (by omega)).trans K.sc.1, (kl 30 (by omega)).trans K.sc.2⟩, fun k => (hi 30 (by omega) k).trans (K.xx k)⟩
  · have R := K.rk
    exact ⟨R.t.cong (fun i z hz => hi _ (by omega) z), R.q.cong (fun i z hz => hi _ (by omega) z), fun s hs => by rw [hi (32 + 15) (by omega) s]; exact R.tr hs, fun i hz => by rw [hi (32 + 16) (by omega) i]; exact R.tt hz, by rw [hi 32 (by omega) 4]; exact R.y⟩
  · exact ⟨m, H, R.fr (fun a z h1 h2 => hi a (by omega) z)⟩
  · have ap := S.ap
    exact ⟨L, c, A, ⟨(kk 239 (by omega)).trans S.k, (hr 239 (by omega) 0).trans S.r, (kk A an).trans S.ka, (kl A an).trans S.la, by omega, by omega, by omega, (hi 239 (by omega) 1).trans S.c0, (hi 239 (by omega) 3).trans S.n, S.le, S.c3, fun i hz => by rw [hi A an i]; exact S.z i hz, fun i hz => by rw [hi A an i]; exact S.x i hz⟩, lo⟩
/-- the book was changed -/
theorem LK.set (K : LK N xs h b y) {f : Nat → Nat → Int32} {m : Nat} {H : HF} (R : RK f 32 b') (RHf : RH f m H) (F : ∀ a z, ¬(32 ≤ a ∧ a < 49) → ¬(83 ≤ a ∧ a < 221) → f a z = HI h a z) (O : Cns b' ∧ Bd b' y' ∧ Qv b' ∧ Kb b') : LK N xs (wI h f) b' y' := by
  obtain ⟨L, c, A, S, lo⟩ := K.ln
  have ap := S.ap
  refine ⟨K.wf, K.hn, K.2.2.1, ⟨K.ks, K.ko.fr (fun a z ha => F a z (by omega) (by omega))⟩, ⟨K.sc, fun k => (F 30 k (by omega) (by omega)).trans (K.xx k)⟩, R, ⟨m, H, RHf⟩, ⟨L, c, A, ?_, lo⟩, O⟩
  exact ⟨S.k, S.r, S.ka, S.la, S.an, S.ap, S.hn, (F 239 1 (by omega) (by omega)).trans S.c0, (F 239 3 (by omega) (by omega)).trans S.n, S.le, S.c3, fun i hi => by rw [show HI (wI h f) A i = HI h A i from F A i (by omega) (by omega)]; exact S.z i hi, fun i hi => by rw [show HI (wI h f) A i = HI h A i from F A i (by omega) (by omega)]; exact S.x i hi⟩
/-- a change of the book -/
theorem LK.chg (K : LK N xs h b y) (hy : y < 1000000000) {j s k a0 : Nat} (hj : j < 7) (hs : s < 3) (hk : k < 1000) (ha : a0 ≤ 99) (hk0 : j = 0 → k < 100) (hf : flB b j s k (nI a0) = 0) : ∃ f', CL 54 [.ref 31, .int (nI j), .int (nI (97 + s)), .int (nI k), .int (nI a0)] h = some (.ok (.int (nI (ansB b j s k a0))), wI h f') ∧ LK N xs (wI h f') (effB b j s k a0) (y + 99) ∧ ∀ a z, ¬(32 ≤ a ∧ a < 49) → ¬(83 ≤ a ∧ a < 221) → f' a z = HI h a z := by
  obtain ⟨m, H, RHh⟩ := K.rh
  have hq : ∀ i, i < kN b → (kQ b i).1 < 3 ∧ (kQ b i).2.1 < 1000 ∧ 0 < (kQ b i).2.2 := K.qv.2
  obtain ⟨f', h1, h2, h3, h4⟩ := change_go K.rr K.rk K.bd hy RHh hj hs hk (nI a0) hf
  rw [cl_nI (by omega)] at h1 h2
  refine ⟨f', h1, K.set h2 h3 h4 ⟨?_, K.bd.eff ha K.qv.1, K.qv.eff hs hk (by omega) hf, K.kb.eff hk0⟩, h4⟩
  have := Cns.eff K.cn hj hs hk hf hq
  rwa [cl_nI (by omega)] at this
/-- any change: what comes of it -/
def Dn (N : Nat) (xs : Nat → Int32) (h : Hp) (y : Nat) (r : Res) : Prop := ∃ b' f', (∀ a z, ¬(32 ≤ a ∧ a < 49) → ¬(83 ≤ a ∧ a < 221) → f' a z = HI h a z) ∧ ((∃ v, r = some (.ok (.int v), wI h f') ∧ LK N xs (wI h f') b' (y + 99)) ∨ ∃ e, r = some (.error e, hthr h) ∧ (e = 1 ∨ e = 2 ∨ e = 4) ∧ LK N xs (hthr h) b' (y + 99))
theorem Dn.er (K : LK N xs h b y) {e : Nat} (he : e = 1 ∨ e = 2 ∨ e = 4) : Dn N xs h y (some (.error e, hthr h)) := ⟨b, HI h, fun _ _ _ _ => rfl, Or.inr ⟨e, rfl, he, K.up (by omega)⟩⟩
theorem LK.any (K : LK N xs h b y) (hy : y < 1000000000) {j : Nat} (hj : j < 7) (x k a : Int32) (hk0 : j = 0 → ∃ k0, k = nI k0 ∧ k0 < 100) (ha : ∀ s k0, flB b j s k0 a = 0 → ∃ a0, a = nI a0 ∧ a0 ≤ 99) : Dn N xs h y (CL 54 [.ref 31, .int (nI j), .int x, .int k, .int a] h) := by
  by_cases hx : inr 97 99 x = false ∨ inr 0 999 k = false
  · rw [change_bad K.rr (nI j) x k a hx]
    exact Dn.er K (Or.inl rfl)
  · have h1 : inr 97 99 x = true := by
      cases q : inr 97 99 x with
      | true => rfl
      | false => exact absurd (Or.inl q) hx
    have h2 : inr 0 999 k = true := by
      cases q : inr 0 999 k with
      | true => rfl
      | false => exact absurd (Or.inr q) hx
    obtain ⟨s', s1, s2, rfl⟩ := inr_t (by decide) (by decide) h1
    obtain ⟨k0, k1, k2, rfl⟩ := inr_t (by decide) (by decide) h2
    obtain ⟨s, rfl⟩ : ∃ s, s' = 97 + s := ⟨s' - 97, by omega⟩
    by_cases hf : flB b j s k0 a = 0
    · obtain ⟨a0, rfl, a1⟩ := ha s k0 hf
      obtain ⟨f', c1, c2, c3⟩ := K.chg hy hj (by omega) (by omega) a1 (fun z => by
        obtain ⟨k1, e, l⟩ := hk0 z
        have e := congrArg Int32.toNatClampNeg e
        rw [cl_nI (by omega), cl_nI (by omega)] at e
        omega) hf
      exact ⟨_, f', c3, Or.inl ⟨_, c1, c2⟩⟩
    · rw [change_flt K.rr K.rk hj (by omega) (by omega) a hf]
      have hl := flB_lt b j s k0 a
      refine Dn.er K ?_
      unfold xkF
      repeat' split
      all_goals omega
end LAW1
