/-! THE LAW: the lines that the class writes, against a text -/
section LAW8
variable {N : Nat} {xs : Nat → Int32} {h g : Hp} {b : Bk} {y : Nat} {Z : Nat → Prop} {s V n m c A : Nat} {L M : List Nat}
theorem LK.ci (K : LK N xs h b y) (S : LnS h (HI h) L c A) : CI h (HI h) L c A 32 b := ⟨K.q, K.rr.2.2.2.2.2.2.2.2.1, ⟨by decide, by decide⟩, K.ks, K.ko, K.rk, S⟩
/-- a line was written: what it leaves as it was -/
def Ft (N : Nat) (xs : Nat → Int32) (b : Bk) (y : Nat) (Z : Nat → Prop) (h g : Hp) (M : List Nat) : Prop := LK N xs g b y ∧ (∃ c A, LnS g (HI g) M c A) ∧ ZI Z g ∧ Zs Z h g ∧ Rm h g 3 300
theorem na_int (Z : Nat → Prop) (n : Nat) : ∀ as : List Int32, NzL Z n (as.map Value.int)
  | [] => trivial
  | _ :: l => ⟨trivial, na_int Z n l⟩
theorem capt_b : ∀ c, c ≤ 3 → capt c ≤ 246 := by decide
theorem LK.fm (K : LK N xs h b y) (I : ZI Z h) (hz : ¬ Z 31) {k : Nat} (hm : k < 344) {as : List Int32} {v : Value} (lo : Lo M) (H : ∀ L c A, LnS h (HI h) L c A → ST (CL k (.ref 31 :: as.map Value.int)) v h (HI h) c 32 b M) : ∃ g, CL k (.ref 31 :: as.map Value.int) h = some (.ok v, g) ∧ Ft N xs b y Z h g M := by
  obtain ⟨L, c, A, S, -⟩ := K.ln
  obtain ⟨h', f', c', A', k1, k2, k3, k4⟩ := H L c A S
  have k1 : CL k (.ref 31 :: as.map Value.int) h = some (.ok v, wI h' f') := k1
  have n1 := K.hn
  have z1 := CL_z hm k1 I ⟨⟨Nat.lt_of_lt_of_le (by decide : 31 < 241) n1, hz⟩, na_int Z _ as⟩
  obtain ⟨m, HH, R⟩ := K.rh
  have S' := k2.s
  refine ⟨wI h' f', k1, ⟨z1.1.1.wf, S'.hn, ⟨(K.rr.gw k3 n1 : RrS h'), (K.mg.gw k3 n1 : MgS h'), (K.gr.gw k3 n1 : GrS h')⟩, ⟨k2.k, k2.o⟩, ⟨⟨(k3.hk n1 (by decide)).trans K.sc.1, (k3.hl n1 (by decide)).trans K.sc.2⟩, fun i => (k4 30 i (by decide) (by decide) (by decide)).trans (K.xx i)⟩, k2.r, ⟨m, HH, R.fr (fun a z h1 h2 => k4 a z (by omega) (by omega) (by omega))⟩, ⟨M, c', A', S', lo⟩, K.cn, K.bd, K.qv, K.kb⟩, ⟨c', A', S'⟩, z1.1.1, z1.1.2, ?_, ?_⟩
  · have q1 := k3.c
    have q2 := S'.c3
    show HC h' ≤ HC h + 3
    omega
  · have q1 := k3.s
    have q2 := capt_b c' S'.c3
    show HS h' ≤ HS h + 300
    omega
theorem fm_key (K : LK N xs h b y) (I : ZI Z h) (hz : ¬ Z 31) {k : Nat} (hk : k < 1000) (h0 : 0 < hoA (kA b) k) : ∃ g, CL 97 [.ref 31, .int (nI k)] h = some (.ok (.int (nI (keyL (kA b) k).length)), g) ∧ Ft N xs b y Z h g (keyL (kA b) k) :=
  K.fm I hz (k := 97) (by decide) (as := [nI k]) (keyL_lo _ _) (fun _ _ _ S => keyC_t (K.ci S) hk h0)
theorem fm_rec (K : LK N xs h b y) (I : ZI Z h) (hz : ¬ Z 31) {s k : Nat} (hs : s < 3) (hk : k < 1000) (h0 : 0 < kA b s k) : ∃ g, CL 98 [.ref 31, .int (nI (97 + s)), .int (nI k)] h = some (.ok (.int (nI (recL b s k).length)), g) ∧ Ft N xs b y Z h g (recL b s k) :=
  K.fm I hz (k := 98) (by decide) (as := [nI (97 + s), nI k]) (recL_lo b hs k) (fun _ _ _ S => recC_t (K.ci S) hs hk h0)
theorem fm_bat (K : LK N xs h b y) (I : ZI Z h) (hz : ¬ Z 31) : ∃ g, CL 89 [.ref 31] h = some (.ok (.int (nI (batL (kA b) (kQ b) (kN b)).length)), g) ∧ Ft N xs b y Z h g (batL (kA b) (kQ b) (kN b)) :=
  K.fm I hz (k := 89) (by decide) (as := []) (batL_lo (fun i hi => (K.qv.2 i hi).1) _ (Nat.le_refl _)) (fun _ _ _ S => batC_ok (K.ci S))
/-- the line, character by character, is the text -/
theorem line_ok (K : LK N xs h b y) (S : LnS h (HI h) M c A) (lo : Lo M) (T : StS h (HI h) s V M) (hV : HK h V = 102) : CL 203 [.ref 31, .int (nI M.length), .ref s] h = some (.ok (.int (1 : Int32)), h) := by
  have C := K.ci S
  have hle := T.le
  have hl : CL 91 [.ref s] h = some (.ok (.int (nI M.length)), h) := sLen_ok (h := h) (f := HI h) T
  have lp : ∀ (d i : Nat), i + d = M.length → RF 203 17 [.ref 31, .int (nI M.length), .ref s, .int (1 : Int32), .int (nI i)] [] h = some (.ok (.int (1 : Int32)), h) := by
    intro d
    induction d with
    | zero =>
      intro i hi
      have e : i = M.length := by omega
      rw [e203_17, T.ck, hl]
      simp (disch := omega) only [bI_ok, cond_true, lt_nI, show ¬ (i < M.length) by omega, ↓reduceIte, show fitc 1 (1 : Int32) = true from rfl]
    | succ d ih =>
      intro i hi
      have c1 : CL 134 [.ref 31, .int (nI i)] h = some (.ok (.int (nI (M.getD i 0))), h) := lineC_t C lo (by omega)
      have c2 : CL 164 [.ref s, .int (nI i)] h = some (.ok (.int (nI (M.getD i 0))), h) := sCh_ok (h := h) (f := HI h) T hV (by omega)
      rw [e203_17, T.ck, hl]
      simp (disch := omega) only [bI_ok, cond_true, lt_nI, show i < M.length by omega, ↓reduceIte, K.k8, c1, T.ck, c2, show ¬((1 : Int32) = 0) by decide]
      rw [show (nI i + (1 : Int32)) = nI (i + 1) from add_nI i 1]
      exact ih (i + 1) (by omega)
  rw [e203, T.ck, hl]
  simp (disch := omega) only [bI_ok, cond_true, ↓reduceIte]
  rw [e203_13]
  exact lp M.length 0 (Nat.zero_add _)
/-- a line was written behind a text: it is the text -/
theorem fm_line {h0 : Hp} (F : Ft N xs b y Z h g M) (lo : Lo M) (T : StS h (HI h) s V M) (hV : HK h V = 102) (zs : Z s) (zV : Z V) : CL 203 [.ref 31, .int (nI M.length), .ref s] g = some (.ok (.int (1 : Int32)), g) := by
  obtain ⟨K, ⟨c, A, S⟩, -, ⟨z1, z2⟩, -⟩ := F
  obtain ⟨a1, a2, a3⟩ := z2 s zs
  obtain ⟨b1, b2, b3⟩ := z2 V zV
  exact line_ok K S lo (T.mv z1 ⟨a1, b1⟩ (a3 0) ⟨a2 1, fun i _ => b2 i⟩) ((congrArg Prod.fst b1).trans hV)
theorem LnS.nh (S : LnS h (HI h) M c A) {a d : Nat} (N : Nh h g a d) : LnS g (HI g) M c A := by
  have an := S.an
  have hn := S.hn
  have n1 := N.1
  have k9 := N.2.1 239 (by omega)
  have kA := N.2.1 A an
  refine ⟨(congrArg Prod.fst k9).trans S.k, (N.2.2.1 239 (by omega) 0).trans S.r, (congrArg Prod.fst kA).trans S.ka, (congrArg Prod.snd kA).trans S.la, by omega, S.ap, by omega, (N.2.2.2.1 239 (by omega) 1).trans S.c0, (N.2.2.2.1 239 (by omega) 3).trans S.n, S.le, S.c3, fun i hz => ?_, fun i hz => ?_⟩
  · rw [N.2.2.2.1 A an i]
    exact S.z i hz
  · rw [N.2.2.2.1 A an i]
    exact S.x i hz
end LAW8
