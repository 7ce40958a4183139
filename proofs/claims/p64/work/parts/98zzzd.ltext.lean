/-! THE LAW: builders, texts and lines, with the law's own cells left alone -/
section LAW7
variable {N : Nat} {xs : Nat → Int32} {h g : Hp} {b : Bk} {y : Nat} {Z : Nat → Prop} {t s V n m : Nat} {L M : List Nat}
theorem ZI.wf (I : ZI Z h) : WF h := ⟨I.1, fun _ z => z.elim, I.2.2.1, fun _ _ _ z => z⟩
theorem ZI.zn (I : ZI Z h) {a : Nat} (ha : HN h ≤ a) : ¬ Z a := fun z => Nat.lt_irrefl _ (Nat.lt_of_lt_of_le (I.2.1 a z).2 ha)
theorem ZI.zl (I : ZI Z h) {a : Nat} (ha : a < 31) : ¬ Z a := fun z => absurd (I.2.1 a z).1 (by omega)
theorem zk {k : Nat} {as : List Value} {r : Except Nat Value} (hm : k < 344) (hr : CL k as h = some (r, g)) (I : ZI Z h) (ha : NzL Z (HN h) as) : ZI Z g := (CL_z hm hr I ha).1.1
/-- nothing that stood is another; the region's cells are of no one else; the room in units -/
def Nq (Z : Nat → Prop) (h g : Hp) (n : Nat) : Prop := Nh h g n (100 * n) ∧ ZI Z g
theorem Nq.rf (I : ZI Z h) : Nq Z h h 0 := ⟨Nh.rf h, I⟩
theorem Nq.tr {k : Hp} (A : Nq Z h g n) (B : Nq Z g k m) : Nq Z h k (n + m) := ⟨(A.1.tr B.1).up (Nat.le_refl _) (by omega), B.2⟩
theorem Nq.up (A : Nq Z h g n) (q : n ≤ m) : Nq Z h g m := ⟨A.1.up q (by omega), A.2⟩
theorem Nq.hn (A : Nq Z h g n) : HN h ≤ HN g := A.1.1
theorem LK.nh (K : LK N xs h b y) (A : Nq Z h g n) : LK N xs g b y := K.eqv A.2.wf A.1.1 A.1.2.1 A.1.2.2.1 A.1.2.2.2.1
theorem StS.nh (T : StS h (HI h) s V M) {a c : Nat} (A : Nh h g a c) : StS g (HI g) s V M := T.mv A.1 ⟨A.2.1 s T.2.2.1.1, A.2.1 V T.2.2.1.2⟩ (A.2.2.1 s T.2.2.1.1 0) ⟨A.2.2.2.1 s T.2.2.1.1 1, fun i _ => A.2.2.2.1 V T.2.2.1.2 i⟩
/-- a new cell of numbers -/
theorem nq_new (I : ZI Z h) (k m : Nat) {u : Nat} (hu : m ≤ 100 * u) (h1 : 1 ≤ u) : Nq Z h (hnew h k m) u := by
  refine ⟨⟨Nat.le_succ _, fun a ha => hnew_k h k m a (by omega), fun a ha i => ?_, fun a ha i => ?_, ?_, ?_⟩, (ZR_new I).1⟩
  · exact if_neg (by omega)
  · exact if_neg (by omega)
  · show HC h + 1 ≤ HC h + u
    omega
  · show HS h + m ≤ HS h + 100 * u
    omega
theorem nq_thr (I : ZI Z h) : Nq Z h (hthr h) 1 := by
  refine ⟨⟨Nat.le_refl _, fun a ha => rfl, fun a ha i => rfl, fun a ha i => rfl, Nat.le_refl _, ?_⟩, (ZR_thr I).1⟩
  show HS h + 6 ≤ HS h + 100 * 1
  omega
/-- a builder made after h, its text -/
def Bq (Z : Nat → Prop) (h g : Hp) (t : Nat) (L : List Nat) (n : Nat) : Prop := Bl h g t L ∧ Nq Z h g n ∧ t < HN g ∧ ∀ a, Z a → a < HN h
theorem Bq.ck (Q : Bq Z h g t L n) : ckK g t 10 = true := by
  obtain ⟨⟨-, p, A, -, S⟩, -⟩ := Q
  exact S.ck
theorem Bq.nz (Q : Bq Z h g t L n) : ¬ Z t := fun z => by
  have := Q.2.2.2 t z
  have := Q.1.1
  omega
theorem bq_new (I : ZI Z h) : ∃ g, ckK (hnew h 10 4) (HN h) 10 = true ∧ CL 8 [.ref (HN h)] (hnew h 10 4) = some (.ok .null, g) ∧ Bq Z h g (HN h) [] 2 := by
  obtain ⟨g, k1, k2, k3, k4⟩ := gNew_ok I.1
  exact ⟨g, ck_of (congrArg Prod.fst (hnew_e h 10 4)), k1, k2, ⟨k3.up (Nat.le_refl _) (by decide), zk (by decide) k1 (ZR_new I).1 ⟨⟨Nat.lt_succ_self _, I.nn⟩, trivial⟩⟩, k4, fun a z => (I.2.1 a z).2⟩
theorem Bq.c (Q : Bq Z h g t L n) {ch : Nat} (hc : ch < 128) (hl : L.length < 142) : ∃ g', CL 81 [.ref t, .int (nI ch)] g = some (.ok (.ref t), g') ∧ Bq Z h g' t (L ++ [ch]) (n + 3) := by
  obtain ⟨g', k1, k2, k3, k4⟩ := Q.1.c Q.2.1.1 hc hl
  exact ⟨g', k1, k2, ⟨k3.up (by omega) (by omega), zk (by decide) k1 Q.2.1.2 ⟨⟨Q.2.2.1, Q.nz⟩, trivial, trivial⟩⟩, Nat.lt_of_lt_of_le Q.2.2.1 k4, Q.2.2.2⟩
theorem Bq.i (Q : Bq Z h g t L n) (K : LK N xs h b y) {v : Nat} (hv : v < 1073741824) (hl : L.length + 10 ≤ 142) : ∃ g', CL 86 [.ref t, .int (nI v)] g = some (.ok (.ref t), g') ∧ Bq Z h g' t (L ++ dig v) (n + 3) := by
  have K' := K.nh Q.2.1
  obtain ⟨g', k1, k2, k3, k4⟩ := Q.1.i Q.2.1.1 K'.ks K'.ko hv hl
  exact ⟨g', k1, k2, ⟨k3.up (by omega) (by omega), zk (by decide) k1 Q.2.1.2 ⟨⟨Q.2.2.1, Q.nz⟩, trivial, trivial⟩⟩, Nat.lt_of_lt_of_le Q.2.2.1 k4, Q.2.2.2⟩
/-- a text that stood before the builder was made -/
theorem Bq.st (Q : Bq Z h g t L n) (T : StS h (HI h) s V M) (hz : ¬ Z s) (hl : L.length + M.length ≤ 142) : ∃ g', CL 96 [.ref t, .ref s] g = some (.ok (.ref t), g') ∧ Bq Z h g' t (L ++ M) (n + 3) := by
  obtain ⟨g', k1, k2, k3, k4⟩ := Q.1.st Q.2.1.1 T hl
  exact ⟨g', k1, k2, ⟨k3.up (by omega) (by omega), zk (by decide) k1 Q.2.1.2 ⟨⟨Q.2.2.1, Q.nz⟩, ⟨Nat.lt_of_lt_of_le T.2.2.1.1 Q.2.1.1.1, hz⟩, trivial⟩⟩, Nat.lt_of_lt_of_le Q.2.2.1 k4, Q.2.2.2⟩
/-- a text made since the builder was last written to -/
theorem Bq.a (Q : Bq Z h g t L n) {k : Hp} (A : Nq Z g k m) (T : StS k (HI k) s V M) (hs : HN g ≤ s) (hV : HN g ≤ V) (hl : L.length + M.length ≤ 142) : ∃ g', CL 96 [.ref t, .ref s] k = some (.ok (.ref t), g') ∧ Bq Z h g' t (L ++ M) (n + m + 3) := by
  obtain ⟨⟨ht, p, B, hB, S⟩, q2, q3, q4⟩ := Q
  have ps := S.ps
  have S' : GbS t k (HI k) L p B := by
    refine ⟨⟨?_, (A.1.2.2.1 t ps.2.1 0).trans S.r, ?_, ?_⟩, ⟨Nat.lt_of_lt_of_le ps.1 A.1.1, Nat.lt_of_lt_of_le ps.2.1 A.1.1, ps.2.2⟩, ⟨(A.1.2.2.2.1 t ps.2.1 1).trans S.c0, (A.1.2.2.2.1 t ps.2.1 3).trans S.n⟩, S.le, fun i hi => ?_, fun i hi => ?_⟩
    · exact (congrArg Prod.fst (A.1.2.1 t ps.2.1)).trans S.1.1
    · exact (congrArg Prod.fst (A.1.2.1 B ps.1)).trans S.ka
    · exact (congrArg Prod.snd (A.1.2.1 B ps.1)).trans S.la
    · rw [A.1.2.2.2.1 B ps.1 i]
      exact S.z i hi
    · rw [A.1.2.2.2.1 B ps.1 i]
      exact S.x i hi
  have AA := q2.tr A
  obtain ⟨g1, f1, p1, A1, k1, S1, G1⟩ := gS_ok S' T ⟨by omega, by omega⟩ ⟨by omega, by omega⟩ hl
  have hn : HN h ≤ HN g := q2.1.1
  have hA1 : HN h ≤ A1 := by
    have := G1.2.2.2.2.1
    have := AA.1.1
    omega
  refine ⟨wI g1 f1, k1, ⟨ht, p1, A1, hA1, S1⟩, ⟨(G1.nw ht hB AA.1).up (by omega) (by omega), zk (by decide) k1 A.2 ⟨⟨Nat.lt_of_lt_of_le q3 A.1.1, fun z => by have := q4 t z; omega⟩, ⟨T.2.2.1.1, fun z => by have := q4 s z; omega⟩, trivial⟩⟩, ?_, q4⟩
  have := G1.1
  have := A.1.1
  show t < HN g1
  omega
/-- the text of a builder, made; it is of no one else -/
theorem Bq.str (Q : Bq Z h g t L n) (lo : Lo L) (hl : L.length ≤ 142) : ∃ g', CL 202 [.ref t] g = some (.ok (.ref (HN g)), g') ∧ StS g' (HI g') (HN g) (HN g + 1) L ∧ HK g' (HN g + 1) = 102 ∧ Nq Z h g' (n + 2) ∧ Nq Z g g' 2 ∧ ZI (fun a => Z a ∨ a = HN g ∨ a = HN g + 1) g' := by
  obtain ⟨g', k1, k2, k3, k4, k5, k6, k7⟩ := gStr_ok Q.1 Q.2.1.1 lo hl
  have I := zk (by decide) k1 Q.2.1.2 ⟨⟨Q.2.2.1, Q.nz⟩, trivial⟩
  have J := Q.2.1.2
  have g31 := J.1
  refine ⟨g', k1, k2, k3, ⟨k4.up (by omega) (by omega), I⟩, ⟨k6.up (by omega) (by omega), I⟩, by omega, fun a z => ?_, I.2.2.1, fun a i hz => ?_⟩
  · rcases z with z | z | z
    · exact I.2.1 a z
    · omega
    · omega
  · rw [k7 a i (fun q => hz (Or.inr (Or.inl q))) (fun q => hz (Or.inr (Or.inr q)))]
    have h1 := J.2.2.1 a i
    rintro (z | z | z)
    · exact J.2.2.2 a i (fun q => hz (Or.inl q)) z
    · omega
    · omega
/-- a literal -/
theorem lit_st (K : LK N xs h b y) {a : Nat} (h1 : 4 ≤ a) (h2 : a < 30) (h3 : a % 2 = 0) (hl : lln a ≤ 142) : StS h (HI h) a (a + 1) (lws a 0 (lln a)) := by
  obtain ⟨k1, k2⟩ := K.ks a (by omega) h2
  obtain ⟨k3, k4⟩ := K.ks (a + 1) (by omega) (by omega)
  have hn := K.hn
  have hk : HK h a = 11 := by
    show (h.2.1 a).1 = 11
    rw [k1]
    unfold kcT
    rw [if_neg (by omega), if_neg (by omega), if_pos h2, if_pos h3]
  have e : h.2.1 (a + 1) = (203, lln a) := by
    rw [k3]
    unfold kcT lln
    rw [if_neg (by omega), if_neg (by omega), if_pos (by omega), if_neg (by omega), show (a + 1 - 5) / 2 = (a - 4) / 2 by omega]
  have hr : HR h a 0 = a + 1 := by
    rw [k2]
    unfold rcT
    rw [if_neg (by omega), if_pos h2, if_pos ⟨h3, rfl⟩]
  have hc : HI h a 1 = 0 := by
    rw [K.ko a (by omega) h2]
    unfold icT
    rw [if_neg (by omega), if_neg (by omega), if_neg (by omega), if_pos h2, if_pos h3]
  refine ⟨⟨ckS_11 (ck_of hk), hr, hc⟩, ⟨Or.inr (congrArg Prod.fst e), ?_⟩, ⟨by omega, by omega⟩, ?_, fun i hi => ?_⟩
  · rw [lws_len]
    exact congrArg Prod.snd e
  · rw [lws_len]
    exact hl
  · rw [lws_len] at hi
    rw [lws_at a _ 0 i hi, Nat.zero_add]
    exact K.ko.z h1 h2 h3 hi
end LAW7
