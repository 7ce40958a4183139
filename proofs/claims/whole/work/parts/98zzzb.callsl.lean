/-! THE CALLS that write the line -/
section CLN
variable {N : Nat} {xs : Nat → Int32} {s y : Nat} {h : Hp} {b : Bk} {m : Nat} {H : HF} {sv : Option Bk} {oe oq : Option Nat} {x : Nat → Nat} {n : Nat} {L : List Nat}
theorem SH.gw {h' : Hp} {c c' : Nat} (S : SH N h) (G : Gw h h' c c') (hn : 255 ≤ HN h) : SH N h' := by
  obtain ⟨a1, a2, a3, a4, a5, a6, ⟨b1, b2⟩, ⟨c1, c2⟩, d1, d2⟩ := S
  exact ⟨a1.gw G hn, a2.gw G hn, a3.gw G hn, a4.gw G hn, a5.gw G hn, a6.gw G hn, ⟨(G.hk hn (by decide)).trans b1, (G.hl hn (by decide)).trans b2⟩, ⟨(G.hk hn (by decide)).trans c1, (G.hl hn (by decide)).trans c2⟩, (G.hk hn (by decide)).trans d1, (G.hl hn (by decide)).trans d2⟩
theorem LWc.ci (K : LWc N xs s y h b m H sv oe oq x n L) {c A : Nat} (S : LnS h (HI h) L c A) : CI h (HI h) L c A 32 b := ⟨K.q, K.rr.f.2.2.2.2.2.2.2.2, ⟨by decide, by decide⟩, K.ks, K.ko, K.rk, S⟩
theorem LWc.lnL (K : LWc N xs s y h b m H sv oe oq x n L) {c A : Nat} (S : LnS h (HI h) L c A) (q1 : HC h ≤ 400 + s + c) (q2 : HS h ≤ 8000 + 6 * s + capt c) {h' g : Hp} {f' f3 : Nat → Nat → Int32} {L' : List Nat} {c' A' : Nat} (S' : LnS h' f' L' c' A') (G : Gw h h' c c') (H1 : FLc (HI h) f') (E : Se h' g) (eg : HI g = f3) (H3 : FLi f' f3) (I3 : LI f3 L') (lo : Lo L') : LW N xs (s + 1) (y + 6000) g := by
  subst eg
  have hn := S.hn
  have w : ∀ a z, a ≠ 251 → ¬(a = 241 ∧ (z = 15 ∨ z = 16)) → a ≠ 239 → a ≠ 240 → a < 255 → HI g a z = HI h a z := fun a z p1 p2 p3 p4 p5 => (H3 a z p1 p2).trans (H1 a z p3 p4 p5)
  have M := K.mm
  have O := K.ok.up (y' := y + 6000) (by omega)
  have ap := S'.ap
  have gc := G.c
  have gs := G.s
  have e4 := E.2.2.2.1
  have e5 := E.2.2.2.2
  exact ⟨b, m, H, sv, oe, oq, x, n, L', (K.1.gw G hn).se E, K.2.1.fr (fun a z q => w a z (by omega) (by omega) (by omega) (by omega) (by omega)), K.c.fr (fun a z p1 p2 => w a z (by omega) (by omega) (by omega) (by omega) (by omega)), ⟨M.1.cong (fun k hk => w 242 k (by omega) (by omega) (by omega) (by omega) (by omega)), M.2.1.fr (fun a z q => w a z (by omega) (by omega) (by omega) (by omega) (by omega)), M.2.2.1.fr (fun a z q => w a z (by omega) (by omega) (by omega) (by omega) (by omega)), (w 241 6 (by omega) (by omega) (by omega) (by omega) (by omega)).trans M.2.2.2.1, (w 241 7 (by omega) (by omega) (by omega) (by omega) (by omega)).trans M.2.2.2.2.1, M.2.2.2.2.2.1.fr (fun a z q => w a z (by omega) (by omega) (by omega) (by omega) (by omega)), I3⟩, ⟨c', A', S'.se E (fun a z q => H3 a z (by omega) (by omega)), by omega, by omega⟩, O.1, O.2.1, O.2.2.1, O.2.2.2.1, O.2.2.2.2.1, lo⟩
theorem LWc.lnB (K : LWc N xs s y h b m H sv oe oq x n L) {W M : Hp → Res} {op : Hp → Res} {l : Nat} {L' : List Nat} {c A : Nat} (S : LnS h (HI h) L c A) (q1 : HC h ≤ 400 + s + c) (q2 : HS h ≤ 8000 + 6 * s + capt c) (st : ST op (.int (nI l)) h (HI h) c 32 b L') (hw : ∀ h1, op h = some (.ok (.int (nI l)), h1) → (HK h1 253 = 104 ∧ HL h1 253 = 1) → W h = some (.ok (.int (nI 0)), sJ h1 253 0 (nI l).toInt64)) (hm : ∀ g, MdS g → KoS g → Ko (HI g) → RN (HI g 242) b → ∃ f3, M g = some (.ok (.int (nI l)), wI g f3) ∧ LI f3 L' ∧ f3 241 16 = nI 0 ∧ FLi (HI g) f3) (lo : Lo L') : SB N xs s y h W M := by
  obtain ⟨h', f', c', A', k1, C', G, H1⟩ := st
  have hn := S.hn
  have S1 := K.1.gw G hn
  obtain ⟨f3, m1, m2, m3, m4⟩ := hm (sJ (wI h' f') 253 0 (nI l).toInt64) S1.2.2.2.2.2.1 S1.2.2.2.2.1 (H1.ko K.ko) (K.rn.cong (fun k hk => H1 242 k (by omega) (by omega) (by omega)))
  exact ⟨0, nI l, _, _, hw _ k1 S1.2.2.2.2.2.2.2.1, ⟨S1.2.2.2.2.2.1.1, S1.2.2.2.2.2.2.1.1, S1.2.2.2.2.2.2.1.2, fun k => H1 30 k (by omega) (by omega) (by omega)⟩, m1, by decide, m3, fun _ => wJ_at _ _ _, K.lnL S q1 q2 C'.s G H1 (Se.refl h') rfl m4 m2 lo⟩
theorem b196 (K : LWc N xs s y h b m H sv oe oq x n L) (p k : Int32) : SB N xs s y h (CL 196 [.ref 31, .int p, .int k, .ref 253]) (CL 318 [.ref 241, .int p, .int k]) := by
  obtain ⟨c, A, S, q1, q2⟩ := K.ln
  have C := K.ci S
  rcases sk_cases p k with e | ⟨s0, k0, hs, hk, rfl, rfl⟩
  · have e' : (inr 97 99 p && inr 0 999 k) = false := by
      rcases e with e | e
      · rw [e]
        rfl
      · rw [e, Bool.and_false]
    exact K.qE (t := 1) (w196_1 p k K.k8 (recC_f C p k e)) (by decide) (by decide) (recM_f (h := hthr h) K.md K.rn p k e')
  · rcases Nat.eq_zero_or_pos (kA b s0 k0) with h0 | h0
    · exact K.qE (t := 2) (w196_4 _ _ K.k8 (recC_n C hs hk h0)) (by decide) (by decide) (recM_n (h := hthr h) K.md K.rn hs hk h0)
    · exact K.lnB S q1 q2 (recC_t C hs hk h0) (fun h1 e q => w196_ok _ _ K.k8 e q) (fun g g1 g2 g3 g4 => recM_t g1 g4 hs hk h0) (recL_lo b hs k0)
theorem b195 (K : LWc N xs s y h b m H sv oe oq x n L) (p : Int32) : SB N xs s y h (CL 195 [.ref 31, .int p, .ref 253]) (CL 320 [.ref 241, .int p]) := by
  obtain ⟨c, A, S, q1, q2⟩ := K.ln
  have C := K.ci S
  cases e : inr 0 999 p with
  | false => exact K.qE (t := 1) (w195_1 p K.k8 (keyC_f C p e)) (by decide) (by decide) (keyM_f (h := hthr h) K.md K.rn p e)
  | true =>
    obtain ⟨k0, hk, rfl⟩ := key_t e
    rcases Nat.eq_zero_or_pos (hoA (kA b) k0) with h0 | h0
    · exact K.qE (t := 2) (w195_4 _ K.k8 (keyC_n C hk h0)) (by decide) (by decide) (keyM_n (h := hthr h) K.md K.rn hk h0)
    · exact K.lnB S q1 q2 (keyC_t C hk h0) (fun h1 e q => w195_ok _ K.k8 e q) (fun g g1 g2 g3 g4 => keyM_t g1 g2 g3 g4 hk h0) (keyL_lo (kA b) k0)
theorem b322 (K : LWc N xs s y h b m H sv oe oq x n L) (p : Int32) : SB N xs s y h (CL 322 [.ref 31, .int p, .ref 253]) (CL 323 [.ref 241, .int p]) := by
  obtain ⟨c, A, S, q1, q2⟩ := K.ln
  have C := K.ci S
  have I := K.mm.2.2.2.2.2.2
  have lo := K.ok.2.2.2.2.2
  by_cases e : inr 0 (L.length - 1) p = false ∨ L.length = 0
  · exact K.qE (t := 1) (w322_3 p K.k8 (lineC_f C p e)) (by decide) (by decide) (lineM_f (h := hthr h) K.md I p e)
  · have e1 : inr 0 (L.length - 1) p = true := by
      cases q : inr 0 (L.length - 1) p with
      | false => exact absurd (Or.inl q) e
      | true => rfl
    have l1 := I.1.1
    obtain ⟨j, j1, j2, rfl⟩ := inr_t (by decide) (by omega) e1
    have hi : j < L.length := by omega
    exact K.qB (w322_ok _ K.k8 (lineC_t C lo hi) K.ou) (lineM_t (h := sJ h 253 0 _) K.md I lo hi)
theorem a89 (K : LWc N xs s y h b m H sv oe oq x n L) : SA N xs s y h (CL 89 [.ref 31]) (CL 321 [.ref 241]) := by
  obtain ⟨c, A, S, q1, q2⟩ := K.ln
  obtain ⟨h', f', c', A', k1, C', G, H1⟩ := batC_ok (K.ci S)
  have hn := S.hn
  have S1 := K.1.gw G hn
  obtain ⟨f3, m1, m2, m3, m4⟩ := batM_ok (h := wI h' f') S1.2.2.2.2.2.1 (K.rn.cong (fun k hk => H1 242 k (by omega) (by omega) (by omega)))
  exact ⟨_, wI h' f', wI h' f3, k1, S1.2.2.2.2.2.1.1, m1, K.lnL S q1 q2 C'.s G H1 (Se.refl h') rfl m4 m2 (batL_lo (fun i hi => (K.qv.2 i hi).1) _ (Nat.le_refl _))⟩
end CLN
