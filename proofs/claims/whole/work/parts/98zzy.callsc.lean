/-! THE CALLS that change the book -/
section FL
variable {b : Bk} {s k : Nat} {a : Int32}
theorem fl_0 (hf : flB b 0 s k a ≠ 0) : flB b 0 s k a = 1 ∨ flB b 0 s k a = 3 := by
  have e : flB b 0 s k a = (if inr 1 99 a then (if kN b < 12 then 0 else 3) else 1) := rfl
  rw [e] at hf ⊢
  split
  · rename_i q
    rw [if_pos q] at hf
    split
    · rename_i q2
      rw [if_pos q2] at hf
      exact absurd rfl hf
    · exact Or.inr rfl
  · exact Or.inl rfl
theorem fl_1 (hf : flB b 1 s k a ≠ 0) : flB b 1 s k a = 1 ∨ flB b 1 s k a = 2 := by
  have e : flB b 1 s k a = (if inr 1 99 a then (match la? (isQ (kQ b) s k a.toNatClampNeg) (kN b) with
    | some _ => 0
    | none => 2) else 1) := rfl
  rw [e] at hf ⊢
  split
  · rename_i q
    rw [if_pos q] at hf
    cases r : la? (isQ (kQ b) s k a.toNatClampNeg) (kN b) with
    | some w =>
      rw [r] at hf
      exact absurd rfl hf
    | none => exact Or.inr rfl
  · exact Or.inl rfl
theorem fl_2 (hf : flB b 2 s k a ≠ 0) : flB b 2 s k a = 3 := by
  have e : flB b 2 s k a = (if tot (kA b) + nwA (kA b) (kQ b) (kN b) ≤ 30 then 0 else 3) := rfl
  rw [e] at hf ⊢
  split
  · rename_i q
    rw [if_pos q] at hf
    exact absurd rfl hf
  · rfl
theorem fl_4 (hf : flB b 4 s k a ≠ 0) : flB b 4 s k a = 2 ∨ flB b 4 s k a = 3 := by
  have e : flB b 4 s k a = (if kA b s k = 0 then 2 else if stA (kA b) k = 100 then 0 else 3) := rfl
  rw [e] at hf ⊢
  split
  · exact Or.inl rfl
  · rename_i q
    rw [if_neg q] at hf
    split
    · rename_i q2
      rw [if_pos q2] at hf
      exact absurd rfl hf
    · exact Or.inr rfl
theorem fl_5 (hf : flB b 5 s k a ≠ 0) : flB b 5 s k a = 2 := by
  have e : flB b 5 s k a = (if kA b s k = 0 then 2 else 0) := rfl
  rw [e] at hf ⊢
  split
  · rfl
  · rename_i q
    rw [if_neg q] at hf
    exact absurd rfl hf
theorem fl_6 (hf : flB b 6 s k a ≠ 0) : flB b 6 s k a = 1 := by
  have e : flB b 6 s k a = (if inr 1 99 a then 0 else 1) := rfl
  rw [e] at hf ⊢
  split
  · rename_i q
    rw [if_pos q] at hf
    exact absurd rfl hf
  · rfl
theorem am_le (q : inr 1 99 a = true) : a.toNatClampNeg ≤ 99 := by
  obtain ⟨j, h1, h2, rfl⟩ := inr_t (by decide) (by decide) q
  rw [cl_nI (by omega)]
  exact h2
theorem am_0 (hf : flB b 0 s k a = 0) : a.toNatClampNeg ≤ 99 := by
  have e : flB b 0 s k a = (if inr 1 99 a then (if kN b < 12 then 0 else 3) else 1) := rfl
  by_cases q : inr 1 99 a = true
  · exact am_le q
  · rw [e, if_neg q] at hf
    exact absurd hf (by decide)
theorem am_1 (hf : flB b 1 s k a = 0) : a.toNatClampNeg ≤ 99 := by
  have e : flB b 1 s k a = (if inr 1 99 a then (match la? (isQ (kQ b) s k a.toNatClampNeg) (kN b) with
    | some _ => 0
    | none => 2) else 1) := rfl
  by_cases q : inr 1 99 a = true
  · exact am_le q
  · rw [e, if_neg q] at hf
    exact absurd hf (by decide)
theorem am_6 (hf : flB b 6 s k a = 0) : a.toNatClampNeg ≤ 99 := by
  have e : flB b 6 s k a = (if inr 1 99 a then 0 else 1) := rfl
  by_cases q : inr 1 99 a = true
  · exact am_le q
  · rw [e, if_neg q] at hf
    exact absurd hf (by decide)
end FL
section CH
variable {N : Nat} {xs : Nat → Int32} {s y : Nat} {h : Hp} {b : Bk} {m : Nat} {H : HF} {sv : Option Bk} {oe oq : Option Nat} {x : Nat → Nat} {n : Nat} {L : List Nat}
theorem LWc.okE (K : LWc N xs s y h b m H sv oe oq x n L) {j s0 k0 a : Nat} {a' : Int32} (hj : j < 7) (hs : s0 < 3) (hk : k0 < 1000) (hf : flB b j s0 k0 a' = 0) (e : a'.toNatClampNeg = a) (ha : a ≤ 99) : OKs (effB b j s0 k0 a) (if m < 8 then m + 1 else 8) (puH b H) sv oe oq L (y + 6000) := by
  have q := K.rn.q
  have O := K.ok
  refine ⟨⟨?_, (O.1.2.eff ha q.1).up (by omega)⟩, fun i hi => ?_, fun s hs => ⟨(O.2.2.1 s hs).1, (O.2.2.1 s hs).2.up (by omega)⟩, O.2.2.2⟩
  · rw [← e]
    exact O.1.1.eff hj hs hk hf (fun i hi => ⟨(q.2.2 i hi).2.2.2.1, (q.2.2 i hi).2.2.2.2.1, (q.2.2 i hi).2.2.2.2.2.1⟩)
  · cases i with
    | zero => exact ⟨O.1.1, O.1.2.up (by omega)⟩
    | succ i =>
      have : i < m := by
        split at hi <;> omega
      exact ⟨(O.2.1 i this).1, (O.2.1 i this).2.up (by omega)⟩
theorem LWc.chgF (K : LWc N xs s y h b m H sv oe oq x n L) {W M : Hp → Res} {t : Nat} {w : Int32} (hw : W h = some (.ok (.int (nI t)), hthr h)) (ht : t < 4) (h0 : t ≠ 0) (hm : ∃ f', M (hthr h) = some (.ok (.int w), wI (hthr h) f') ∧ RN (f' 242) b ∧ RG f' m H ∧ f' 241 16 = nI t ∧ FC (HI h) f') : SB N xs s y h W M := by
  obtain ⟨f', m1, m2, m3, m4, m5⟩ := hm
  have M := K.mm
  exact ⟨t, w, _, _, hw, ⟨K.k9, K.sc.1, K.sc.2, fun _ => rfl⟩, m1, ht, m4, fun e => absurd e h0, K.fin (Se.thr h) (fun a z q1 q2 => m5 a z (by omega) (by omega) (by omega) (by omega)) (K.c.fr (fun a z q1 q2 => m5 a z (by omega) (by omega) (by omega) (by omega))) ⟨m2, m3, M.2.2.1.fr (fun a z q => m5 a z (by omega) (by omega) (by omega) (by omega)), (m5 241 6 (by omega) (by omega) (by omega) (by omega)).trans M.2.2.2.1, (m5 241 7 (by omega) (by omega) (by omega) (by omega)).trans M.2.2.2.2.1, M.2.2.2.2.2.1.fr (fun a z q => m5 a z (by omega) (by omega) (by omega) (by omega)), M.2.2.2.2.2.2.fr (fun a z q => m5 a z (by omega) (by omega) (by omega) (by omega))⟩ (K.ok.up (by omega))⟩
theorem LWc.chgL (K : LWc N xs s y h b m H sv oe oq x n L) {f1 f' : Nat → Nat → Int32} {b' : Bk} {m' : Nat} {H' : HF} {g : Hp} (E : Se h g) (R1 : RK f1 32 b') (G1 : RH f1 m' H') (F1 : FD (HI h) f1) (m2 : RN (f' 242) b') (m3 : RG f' m' H') (m5 : FC f1 f') (eg : HI g = f') (O : OKs b' m' H' sv oe oq L (y + 6000)) : LW N xs (s + 1) (y + 6000) g := by
  have C := K.c
  have M := K.mm
  have F1' : ∀ a z, ¬(32 ≤ a ∧ a < 49) → ¬(83 ≤ a ∧ a < 221) → f1 a z = HI h a z := F1
  have w : ∀ a z, a ≠ 242 → a ≠ 243 → a ≠ 245 → ¬(a = 241 ∧ (z = 16 ∨ z = 5)) → ¬(32 ≤ a ∧ a < 49) → ¬(83 ≤ a ∧ a < 221) → f' a z = HI h a z := fun a z p1 p2 p3 p4 p5 p6 => (m5 a z p1 p2 p3 p4).trans (F1' a z p5 p6)
  have cc : ∀ a z, a < 240 → f' a z = f1 a z := fun a z q => m5 a z (by omega) (by omega) (by omega) (by omega)
  refine K.fin E (fun a z q1 q2 => ?_) (b' := b') (m' := m') (H' := H') (sv' := sv) (oe' := oe) (oq' := oq) (x' := x) (n' := n) ?_ ?_ O
  · rw [eg]
    exact w a z (by omega) (by omega) (by omega) (by omega) (by omega) (by omega)
  · rw [eg]
    exact ⟨R1.bt (fun a z q1 q2 => cc a z (by omega)), G1.fr (fun a z q1 q2 => cc a z (by omega)), C.2.2.1.fr (fun a z q => w a z (by omega) (by omega) (by omega) (by omega) (by omega) (by omega)), (w 31 9 (by omega) (by omega) (by omega) (by omega) (by omega) (by omega)).trans C.2.2.2.1, (w 31 10 (by omega) (by omega) (by omega) (by omega) (by omega) (by omega)).trans C.2.2.2.2.1, C.2.2.2.2.2.fr (fun a z q => w a z (by omega) (by omega) (by omega) (by omega) (by omega) (by omega))⟩
  · rw [eg]
    exact ⟨m2, m3, M.2.2.1.fr (fun a z q => w a z (by omega) (by omega) (by omega) (by omega) (by omega) (by omega)), (w 241 6 (by omega) (by omega) (by omega) (by omega) (by omega) (by omega)).trans M.2.2.2.1, (w 241 7 (by omega) (by omega) (by omega) (by omega) (by omega) (by omega)).trans M.2.2.2.2.1, M.2.2.2.2.2.1.fr (fun a z q => w a z (by omega) (by omega) (by omega) (by omega) (by omega) (by omega)), M.2.2.2.2.2.2.fr (fun a z q => w a z (by omega) (by omega) (by omega) (by omega) (by omega) (by omega))⟩
theorem LWc.chgG (K : LWc N xs s y h b m H sv oe oq x n L) {W M : Hp → Res} {v : Int32} {f1 : Nat → Nat → Int32} {b' : Bk} {m' : Nat} {H' : HF} (hw : W h = some (.ok (.int (nI 0)), sJ (wI h f1) 253 0 v.toInt64)) (R1 : RK f1 32 b') (G1 : RH f1 m' H') (F1 : FD (HI h) f1) (hm : ∃ f', M (sJ (wI h f1) 253 0 v.toInt64) = some (.ok (.int v), wI (sJ (wI h f1) 253 0 v.toInt64) f') ∧ RN (f' 242) b' ∧ RG f' m' H' ∧ f' 241 16 = nI 0 ∧ FC f1 f') (O : OKs b' m' H' sv oe oq L (y + 6000)) : SB N xs s y h W M := by
  obtain ⟨f', m1, m2, m3, m4, m5⟩ := hm
  exact ⟨0, v, _, _, hw, ⟨K.k9, K.sc.1, K.sc.2, fun k => F1 30 k (by decide) (by decide)⟩, m1, by decide, m4, fun _ => wJ_at _ _ _, K.chgL (Se.refl h) R1 G1 F1 m2 m3 m5 rfl O⟩
theorem LWc.rn1 (K : LWc N xs s y h b m H sv oe oq x n L) {f1 : Nat → Nat → Int32} (F1 : FD (HI h) f1) : RN (f1 242) b := K.rn.cong (fun k hk => F1 242 k (by decide) (by decide))
theorem LWc.rg1 (K : LWc N xs s y h b m H sv oe oq x n L) {f1 : Nat → Nat → Int32} (F1 : FD (HI h) f1) : RG f1 m H := K.mm.2.1.fr (fun a z q => F1 a z (by omega) (by omega))
theorem c155_o (K : LWc N xs s y h b m H sv oe oq x n L) {p k a : Int32} {v : Int32} {g : Hp} (hc : CL 54 [.ref 31, .int (nI 0), .int p, .int k, .int a] h = some (.ok (.int v), g)) : CL 155 [.ref 31, .int p, .int k, .int a] h = some (.ok (.int v), g) := by
  rw [e155, ck_of K.k8, show CL 54 [.ref 31, .int (0 : Int32), .int p, .int k, .int a] h = _ from hc]
  rfl
theorem c155_x (K : LWc N xs s y h b m H sv oe oq x n L) {p k a : Int32} {e : Nat} {g : Hp} (hc : CL 54 [.ref 31, .int (nI 0), .int p, .int k, .int a] h = some (.error e, g)) : CL 155 [.ref 31, .int p, .int k, .int a] h = some (.error e, g) := by
  rw [e155, ck_of K.k8, show CL 54 [.ref 31, .int (0 : Int32), .int p, .int k, .int a] h = _ from hc]
  rfl
theorem c184_o (K : LWc N xs s y h b m H sv oe oq x n L) {p k a : Int32} {v : Int32} {g : Hp} (hc : CL 54 [.ref 31, .int (nI 1), .int p, .int k, .int a] h = some (.ok (.int v), g)) : CL 184 [.ref 31, .int p, .int k, .int a] h = some (.ok (.int v), g) := by
  rw [e184, ck_of K.k8, show CL 54 [.ref 31, .int (1 : Int32), .int p, .int k, .int a] h = _ from hc]
  rfl
theorem c184_x (K : LWc N xs s y h b m H sv oe oq x n L) {p k a : Int32} {e : Nat} {g : Hp} (hc : CL 54 [.ref 31, .int (nI 1), .int p, .int k, .int a] h = some (.error e, g)) : CL 184 [.ref 31, .int p, .int k, .int a] h = some (.error e, g) := by
  rw [e184, ck_of K.k8, show CL 54 [.ref 31, .int (1 : Int32), .int p, .int k, .int a] h = _ from hc]
  rfl
theorem c55_o (K : LWc N xs s y h b m H sv oe oq x n L) {v : Int32} {g : Hp} (hc : CL 54 [.ref 31, .int (nI 2), .int (nI (97 + 0)), .int (nI 0), .int (nI 0)] h = some (.ok (.int v), g)) : CL 55 [.ref 31] h = some (.ok (.int v), g) := by
  rw [e55, ck_of K.k8, show CL 54 [.ref 31, .int (2 : Int32), .int (97 : Int32), .int (0 : Int32), .int (0 : Int32)] h = _ from hc]
  rfl
theorem c55_x (K : LWc N xs s y h b m H sv oe oq x n L) {e : Nat} {g : Hp} (hc : CL 54 [.ref 31, .int (nI 2), .int (nI (97 + 0)), .int (nI 0), .int (nI 0)] h = some (.error e, g)) : CL 55 [.ref 31] h = some (.error e, g) := by
  rw [e55, ck_of K.k8, show CL 54 [.ref 31, .int (2 : Int32), .int (97 : Int32), .int (0 : Int32), .int (0 : Int32)] h = _ from hc]
  rfl
theorem c153_o (K : LWc N xs s y h b m H sv oe oq x n L) {v : Int32} {g : Hp} (hc : CL 54 [.ref 31, .int (nI 3), .int (nI (97 + 0)), .int (nI 0), .int (nI 0)] h = some (.ok (.int v), g)) : CL 153 [.ref 31] h = some (.ok (.int v), g) := by
  rw [e153, ck_of K.k8, show CL 54 [.ref 31, .int (3 : Int32), .int (97 : Int32), .int (0 : Int32), .int (0 : Int32)] h = _ from hc]
  rfl
theorem c153_x (K : LWc N xs s y h b m H sv oe oq x n L) {e : Nat} {g : Hp} (hc : CL 54 [.ref 31, .int (nI 3), .int (nI (97 + 0)), .int (nI 0), .int (nI 0)] h = some (.error e, g)) : CL 153 [.ref 31] h = some (.error e, g) := by
  rw [e153, ck_of K.k8, show CL 54 [.ref 31, .int (3 : Int32), .int (97 : Int32), .int (0 : Int32), .int (0 : Int32)] h = _ from hc]
  rfl
theorem c176_o (K : LWc N xs s y h b m H sv oe oq x n L) {p k : Int32} {v : Int32} {g : Hp} (hc : CL 54 [.ref 31, .int (nI 4), .int p, .int k, .int (nI 0)] h = some (.ok (.int v), g)) : CL 176 [.ref 31, .int p, .int k] h = some (.ok (.int v), g) := by
  rw [e176, ck_of K.k8, show CL 54 [.ref 31, .int (4 : Int32), .int p, .int k, .int (0 : Int32)] h = _ from hc]
  rfl
theorem c176_x (K : LWc N xs s y h b m H sv oe oq x n L) {p k : Int32} {e : Nat} {g : Hp} (hc : CL 54 [.ref 31, .int (nI 4), .int p, .int k, .int (nI 0)] h = some (.error e, g)) : CL 176 [.ref 31, .int p, .int k] h = some (.error e, g) := by
  rw [e176, ck_of K.k8, show CL 54 [.ref 31, .int (4 : Int32), .int p, .int k, .int (0 : Int32)] h = _ from hc]
  rfl
theorem c66_o (K : LWc N xs s y h b m H sv oe oq x n L) {p k : Int32} {v : Int32} {g : Hp} (hc : CL 54 [.ref 31, .int (nI 5), .int p, .int k, .int (nI 0)] h = some (.ok (.int v), g)) : CL 66 [.ref 31, .int p, .int k] h = some (.ok (.int v), g) := by
  rw [e66, ck_of K.k8, show CL 54 [.ref 31, .int (5 : Int32), .int p, .int k, .int (0 : Int32)] h = _ from hc]
  rfl
theorem c66_x (K : LWc N xs s y h b m H sv oe oq x n L) {p k : Int32} {e : Nat} {g : Hp} (hc : CL 54 [.ref 31, .int (nI 5), .int p, .int k, .int (nI 0)] h = some (.error e, g)) : CL 66 [.ref 31, .int p, .int k] h = some (.error e, g) := by
  rw [e66, ck_of K.k8, show CL 54 [.ref 31, .int (5 : Int32), .int p, .int k, .int (0 : Int32)] h = _ from hc]
  rfl
theorem c146_o (K : LWc N xs s y h b m H sv oe oq x n L) {a : Int32} {v : Int32} {g : Hp} (hc : CL 54 [.ref 31, .int (nI 6), .int (nI (97 + 0)), .int (nI 0), .int a] h = some (.ok (.int v), g)) : CL 146 [.ref 31, .int a] h = some (.ok (.int v), g) := by
  rw [e146, ck_of K.k8, show CL 54 [.ref 31, .int (6 : Int32), .int (97 : Int32), .int (0 : Int32), .int a] h = _ from hc]
  rfl
theorem c146_x (K : LWc N xs s y h b m H sv oe oq x n L) {a : Int32} {e : Nat} {g : Hp} (hc : CL 54 [.ref 31, .int (nI 6), .int (nI (97 + 0)), .int (nI 0), .int a] h = some (.error e, g)) : CL 146 [.ref 31, .int a] h = some (.error e, g) := by
  rw [e146, ck_of K.k8, show CL 54 [.ref 31, .int (6 : Int32), .int (97 : Int32), .int (0 : Int32), .int a] h = _ from hc]
  rfl
theorem b203 (K : LWc N xs s y h b m H sv oe oq x n L) (hy : y + 6000 < 1000000000) (p : Int32) (k : Int32) (a : Int32) : SB N xs s y h (CL 203 [.ref 31, .int p, .int k, .int a, .ref 253]) (CL 214 [.ref 241, .int p, .int k, .int a]) := by
  rcases sk_cases p k with e | ⟨s0, k0, hs, hk, rfl, rfl⟩
  · exact K.chgF (t := 1) (w203_1 _ _ _ K.k8 (c155_x K (change_bad K.rr _ p k a e))) (by decide) (by decide) (pubM_bad (h := hthr h) K.md K.rn K.mm.2.1 (j := 0) (by decide) p k a e)
  · by_cases hf : flB b 0 s0 k0 a = 0
    · obtain ⟨f1, c1, c2, c3, c4⟩ := change_go K.rr K.rk K.ok.1.2 (by omega) K.c.2.1 (j := 0) (by decide) hs hk a hf
      exact K.chgG (w203_ok _ _ _ K.k8 (c155_o K c1) K.ou) c2 c3 c4 (pubM_go (h := sJ (wI h f1) 253 0 _) K.md (K.rn1 c4) K.ok.1.2 (by omega) (K.rg1 c4) (j := 0) (by decide) hs hk a hf) (K.okE (by decide) hs hk hf rfl (am_0 hf))
    · have hc := change_flt K.rr K.rk (j := 0) (by decide) hs hk a hf
      have hm := pubM_flt (h := hthr h) K.md K.rn K.mm.2.1 (j := 0) (by decide) hs hk a hf
      rcases fl_0 hf with e | e
      · rw [e] at hc hm
        exact K.chgF (t := 1) (w203_1 _ _ _ K.k8 (c155_x K hc)) (by decide) (by decide) hm
      · rw [e] at hc hm
        exact K.chgF (t := 2) (w203_2 _ _ _ K.k8 (c155_x K hc)) (by decide) (by decide) hm
theorem b216 (K : LWc N xs s y h b m H sv oe oq x n L) (hy : y + 6000 < 1000000000) (p : Int32) (k : Int32) (a : Int32) : SB N xs s y h (CL 216 [.ref 31, .int p, .int k, .int a, .ref 253]) (CL 219 [.ref 241, .int p, .int k, .int a]) := by
  rcases sk_cases p k with e | ⟨s0, k0, hs, hk, rfl, rfl⟩
  · exact K.chgF (t := 1) (w216_1 _ _ _ K.k8 (c184_x K (change_bad K.rr _ p k a e))) (by decide) (by decide) (pubM_bad (h := hthr h) K.md K.rn K.mm.2.1 (j := 1) (by decide) p k a e)
  · by_cases hf : flB b 1 s0 k0 a = 0
    · obtain ⟨f1, c1, c2, c3, c4⟩ := change_go K.rr K.rk K.ok.1.2 (by omega) K.c.2.1 (j := 1) (by decide) hs hk a hf
      exact K.chgG (w216_ok _ _ _ K.k8 (c184_o K c1) K.ou) c2 c3 c4 (pubM_go (h := sJ (wI h f1) 253 0 _) K.md (K.rn1 c4) K.ok.1.2 (by omega) (K.rg1 c4) (j := 1) (by decide) hs hk a hf) (K.okE (by decide) hs hk hf rfl (am_1 hf))
    · have hc := change_flt K.rr K.rk (j := 1) (by decide) hs hk a hf
      have hm := pubM_flt (h := hthr h) K.md K.rn K.mm.2.1 (j := 1) (by decide) hs hk a hf
      rcases fl_1 hf with e | e
      · rw [e] at hc hm
        exact K.chgF (t := 1) (w216_1 _ _ _ K.k8 (c184_x K hc)) (by decide) (by decide) hm
      · rw [e] at hc hm
        exact K.chgF (t := 2) (w216_4 _ _ _ K.k8 (c184_x K hc)) (by decide) (by decide) hm
theorem b188 (K : LWc N xs s y h b m H sv oe oq x n L) (hy : y + 6000 < 1000000000) : SB N xs s y h (CL 188 [.ref 31, .ref 253]) (CL 229 [.ref 241]) := by
  by_cases hf : flB b 2 0 0 (nI 0) = 0
  · obtain ⟨f1, c1, c2, c3, c4⟩ := change_go K.rr K.rk K.ok.1.2 (by omega) K.c.2.1 (j := 2) (by decide) (by decide) (by decide) (nI 0) hf
    exact K.chgG (w188_ok  K.k8 (c55_o K c1) K.ou) c2 c3 c4 (pubM_go (h := sJ (wI h f1) 253 0 _) K.md (K.rn1 c4) K.ok.1.2 (by omega) (K.rg1 c4) (j := 2) (by decide) (by decide) (by decide) (nI 0) hf) (K.okE (by decide) (by decide) (by decide) hf rfl (by decide))
  · have hc := change_flt K.rr K.rk (j := 2) (by decide) (by decide) (by decide) (nI 0) hf
    have hm := pubM_flt (h := hthr h) K.md K.rn K.mm.2.1 (j := 2) (by decide) (by decide) (by decide) (nI 0) hf
    rw [fl_2 hf] at hc hm
    exact K.chgF (t := 1) (w188_2  K.k8 (c55_x K hc)) (by decide) (by decide) hm
theorem b232 (K : LWc N xs s y h b m H sv oe oq x n L) (hy : y + 6000 < 1000000000) (p : Int32) (k : Int32) : SB N xs s y h (CL 232 [.ref 31, .int p, .int k, .ref 253]) (CL 238 [.ref 241, .int p, .int k]) := by
  rcases sk_cases p k with e | ⟨s0, k0, hs, hk, rfl, rfl⟩
  · exact K.chgF (t := 1) (w232_1 _ _ K.k8 (c176_x K (change_bad K.rr _ p k (nI 0) e))) (by decide) (by decide) (pubM_bad (h := hthr h) K.md K.rn K.mm.2.1 (j := 4) (by decide) p k (nI 0) e)
  · by_cases hf : flB b 4 s0 k0 (nI 0) = 0
    · obtain ⟨f1, c1, c2, c3, c4⟩ := change_go K.rr K.rk K.ok.1.2 (by omega) K.c.2.1 (j := 4) (by decide) hs hk (nI 0) hf
      exact K.chgG (w232_ok _ _ K.k8 (c176_o K c1) K.ou) c2 c3 c4 (pubM_go (h := sJ (wI h f1) 253 0 _) K.md (K.rn1 c4) K.ok.1.2 (by omega) (K.rg1 c4) (j := 4) (by decide) hs hk (nI 0) hf) (K.okE (by decide) hs hk hf rfl (by decide))
    · have hc := change_flt K.rr K.rk (j := 4) (by decide) hs hk (nI 0) hf
      have hm := pubM_flt (h := hthr h) K.md K.rn K.mm.2.1 (j := 4) (by decide) hs hk (nI 0) hf
      rcases fl_4 hf with e | e
      · rw [e] at hc hm
        exact K.chgF (t := 2) (w232_4 _ _ K.k8 (c176_x K hc)) (by decide) (by decide) hm
      · rw [e] at hc hm
        exact K.chgF (t := 3) (w232_2 _ _ K.k8 (c176_x K hc)) (by decide) (by decide) hm
theorem b192 (K : LWc N xs s y h b m H sv oe oq x n L) (hy : y + 6000 < 1000000000) (p : Int32) (k : Int32) : SB N xs s y h (CL 192 [.ref 31, .int p, .int k, .ref 253]) (CL 240 [.ref 241, .int p, .int k]) := by
  rcases sk_cases p k with e | ⟨s0, k0, hs, hk, rfl, rfl⟩
  · exact K.chgF (t := 1) (w192_1 _ _ K.k8 (c66_x K (change_bad K.rr _ p k (nI 0) e))) (by decide) (by decide) (pubM_bad (h := hthr h) K.md K.rn K.mm.2.1 (j := 5) (by decide) p k (nI 0) e)
  · by_cases hf : flB b 5 s0 k0 (nI 0) = 0
    · obtain ⟨f1, c1, c2, c3, c4⟩ := change_go K.rr K.rk K.ok.1.2 (by omega) K.c.2.1 (j := 5) (by decide) hs hk (nI 0) hf
      exact K.chgG (w192_ok _ _ K.k8 (c66_o K c1) K.ou) c2 c3 c4 (pubM_go (h := sJ (wI h f1) 253 0 _) K.md (K.rn1 c4) K.ok.1.2 (by omega) (K.rg1 c4) (j := 5) (by decide) hs hk (nI 0) hf) (K.okE (by decide) hs hk hf rfl (by decide))
    · have hc := change_flt K.rr K.rk (j := 5) (by decide) hs hk (nI 0) hf
      have hm := pubM_flt (h := hthr h) K.md K.rn K.mm.2.1 (j := 5) (by decide) hs hk (nI 0) hf
      rw [fl_5 hf] at hc hm
      exact K.chgF (t := 2) (w192_4 _ _ K.k8 (c66_x K hc)) (by decide) (by decide) hm
theorem b241 (K : LWc N xs s y h b m H sv oe oq x n L) (hy : y + 6000 < 1000000000) (a : Int32) : SB N xs s y h (CL 241 [.ref 31, .int a, .ref 253]) (CL 243 [.ref 241, .int a]) := by
  by_cases hf : flB b 6 0 0 a = 0
  · obtain ⟨f1, c1, c2, c3, c4⟩ := change_go K.rr K.rk K.ok.1.2 (by omega) K.c.2.1 (j := 6) (by decide) (by decide) (by decide) a hf
    exact K.chgG (w241_ok _ K.k8 (c146_o K c1) K.ou) c2 c3 c4 (pubM_go (h := sJ (wI h f1) 253 0 _) K.md (K.rn1 c4) K.ok.1.2 (by omega) (K.rg1 c4) (j := 6) (by decide) (by decide) (by decide) a hf) (K.okE (by decide) (by decide) (by decide) hf rfl (am_6 hf))
  · have hc := change_flt K.rr K.rk (j := 6) (by decide) (by decide) (by decide) a hf
    have hm := pubM_flt (h := hthr h) K.md K.rn K.mm.2.1 (j := 6) (by decide) (by decide) (by decide) a hf
    rw [fl_6 hf] at hc hm
    exact K.chgF (t := 1) (w241_1 _ K.k8 (c146_x K hc)) (by decide) (by decide) hm
theorem a153 (K : LWc N xs s y h b m H sv oe oq x n L) (hy : y + 6000 < 1000000000) : SA N xs s y h (CL 153 [.ref 31]) (CL 231 [.ref 241]) := by
  have hf : flB b 3 0 0 (nI 0) = 0 := rfl
  obtain ⟨f1, c1, c2, c3, c4⟩ := change_go K.rr K.rk K.ok.1.2 (by omega) K.c.2.1 (j := 3) (by decide) (by decide) (by decide) (nI 0) hf
  obtain ⟨f', m1, m2, m3, m4, m5⟩ := pubM_go (h := wI h f1) K.md (K.rn1 c4) K.ok.1.2 (by omega) (K.rg1 c4) (j := 3) (by decide) (s := 0) (k := 0) (by decide) (by decide) (nI 0) hf
  exact ⟨_, wI h f1, wI h f', c153_o K c1, K.k9, m1, K.chgL (Se.refl h) c2 c3 c4 m2 m3 m5 rfl (K.okE (by decide) (by decide) (by decide) hf rfl (by decide))⟩
end CH
