/-! THE LAW: all keys -/
section LAW16
variable {N : Nat} {xs : Nat → Int32} {h g hk : Hp} {b : Bk} {y : Nat} {n m a1 k : Nat}
theorem lws_lo6 : Lo (lws 6 0 11) := by
  unfold Lo
  decide +kernel
/-- the law's numbers by status, of the keys below k -/
def Kq (b : Bk) (a1 k : Nat) (g : Hp) : Prop := ZI (fun a => a = a1) g ∧ (HK g a1 = 100 ∧ HL g a1 = 128) ∧ HI g a1 99 = nI (cwk (kA b) 99 k) ∧ HI g a1 100 = nI (cwk (kA b) 100 k) ∧ HI g a1 111 = nI (cwk (kA b) 111 k)
theorem st_in (A : AF) (k : Nat) : stA A k = 99 ∨ stA A k = 100 ∨ stA A k = 111 := by
  unfold stA st3
  split
  · exact Or.inr (Or.inl rfl)
  · split
    · exact Or.inl rfl
    · exact Or.inr (Or.inr rfl)
theorem cwk_s (A : AF) (c k : Nat) : cwk A c (k + 1) = cwk A c k + b2n (decide (0 < hoA A k ∧ stA A k = c)) := rfl
theorem key_422 (K : LK N xs hk b y) (S : Kq b a1 k hk) (h241 : 241 ≤ a1) (hk1 : k < 100) (z : 0 < hoA (kA b) k) {g2 g8 g9 : Hp} {t s : Nat} (B2 : Nq (fun a => a = a1) hk g2 n) (ck8 : ckK g8 t 10 = true) (c9 : CL 96 [.ref t, .ref s] g8 = some (.ok (.ref t), g9)) (Q9 : Bq (fun a => a = a1) g2 g9 t (keyL (kA b) k) m) (hl : (keyL (kA b) k).length ≤ 142) (p2 p3 a8 a9 : Nat) (l4 l6 : Int32) (v11 : Value) : ∃ g', RF 204 422 [.ref 31, .ref a1, .int (nI p2), .int (nI p3), .int l4, .int (nI k), .int l6, .int (nI (acA (kA b) k)), .ref a8, .ref a9, .int (nI (stA (kA b) k)), v11] [.ref s, .ref t] g8 = RF 204 16 [.ref 31, .ref a1, .int (nI (p2 + acA (kA b) k)), .int (nI (p3 + 1)), .int (1 : Int32), .int (nI (k + 1)), .int l6, .int (nI (acA (kA b) k)), .ref a8, .ref (HN g9), .int (nI (stA (kA b) k)), v11] [] g' ∧ Ls N xs b y hk g' (n + m + 5) ∧ Kq b a1 (k + 1) g' := by
  obtain ⟨s0, ⟨s1, s2⟩, s3, s4, s5⟩ := S
  have ha1 : a1 < HN hk := (s0.2.1 a1 rfl).2
  have lo := keyL_lo (kA b) k
  obtain ⟨g10, c10, T10, v10, n10, -, I10⟩ := Q9.str lo hl
  have B10 := B2.tr n10
  have K10 := K.nh B10
  have hn10 := K10.hn
  have hn9 : HN hk ≤ HN g9 := by
    have := B2.hn
    have := Q9.2.1.hn
    omega
  obtain ⟨g11, c11, F⟩ := fm_key K10 I10 (fun q => by
    have := K.hn
    rcases q with q | q | q <;> omega) (show k < 1000 by omega) z
  have hline := fm_line (h0 := g10) F lo T10 v10 (Or.inr (Or.inl rfl)) (Or.inr (Or.inr rfl))
  obtain ⟨K11, -, -, Z11, R11⟩ := F
  have I11 : ZI (fun a => a = a1) g11 := zk (by decide) c11 n10.2 ⟨⟨Nat.lt_of_lt_of_le (by decide : 31 < 241) hn10, fun q => by have q : 31 = a1 := q; omega⟩, trivial, trivial⟩
  obtain ⟨z1, z2, -⟩ := Z11.2 a1 (Or.inl rfl)
  have k11 : HK g11 a1 = 100 := (congrArg Prod.fst (z1.trans (B10.1.2.1 a1 ha1))).trans s1
  have l11 : HL g11 a1 = 128 := (congrArg Prod.snd (z1.trans (B10.1.2.1 a1 ha1))).trans s2
  have i11 : ∀ i, HI g11 a1 i = HI hk a1 i := fun i => (z2 i).trans (B10.1.2.2.2.1 a1 ha1 i)
  have hst := st_in (kA b) k
  have ch : chI g11 a1 100 (nI (stA (kA b) k)) = true := chI_nI k11 l11 (by omega) (by decide)
  have fin : RF 204 470 [.ref 31, .ref a1, .int (nI p2), .int (nI p3), .int l4, .int (nI k), .int l6, .int (nI (acA (kA b) k)), .ref a8, .ref (HN g9), .int (nI (stA (kA b) k)), v11] [.int (1 : Int32)] g11 = RF 204 16 [.ref 31, .ref a1, .int (nI (p2 + acA (kA b) k)), .int (nI (p3 + 1)), .int (1 : Int32), .int (nI (k + 1)), .int l6, .int (nI (acA (kA b) k)), .ref a8, .ref (HN g9), .int (nI (stA (kA b) k)), v11] [] (sI g11 a1 (stA (kA b) k) (HI g11 a1 (stA (kA b) k) + (1 : Int32))) := by
    rw [e204_470, ch, cl_nI (by omega), add_nI, show (nI p3 + (1 : Int32)) = nI (p3 + 1) from add_nI p3 1, show (nI k + (1 : Int32)) = nI (k + 1) from add_nI k 1]
    rfl
  have val : ∀ c, HI hk a1 c = nI (cwk (kA b) c k) → HI (sI g11 a1 (stA (kA b) k) (HI g11 a1 (stA (kA b) k) + (1 : Int32))) a1 c = nI (cwk (kA b) c (k + 1)) := fun c hc => by
    show u2 (HI g11) a1 (stA (kA b) k) (HI g11 a1 (stA (kA b) k) + (1 : Int32)) a1 c = _
    rw [cwk_s]
    by_cases e : stA (kA b) k = c
    · rw [e, w2_eq, decide_eq_true ⟨z, rfl⟩, i11, hc]
      exact add_nI _ 1
    · rw [w2_ne (fun w => e w.2.symm), decide_eq_false (fun w => e w.2), i11, hc]
      rfl
  refine ⟨sI g11 a1 (stA (kA b) k) (HI g11 a1 (stA (kA b) k) + (1 : Int32)), ?_, ⟨K11.si _ h241 (by rw [k11]; decide), (B10.1.rm.tr R11).up (by omega) (by omega)⟩, I11, ⟨k11, l11⟩, val 99 s3, val 100 s4, val 111 s5⟩
  rw [e204_422, ck8, c9]
  simp only [bR_ok, cond_true, Q9.ck, c10, K10.k8, c11, bI_ok, hline]
  rw [if_neg (show ¬((1 : Int32) = 0) by decide)]
  by_cases e : stA (kA b) k = 100
  · have ch2 : chI g11 a1 100 (100 : Int32) = true := chI_nI (j := 100) k11 l11 (by decide) (by decide)
    have c0 : (100 : Int32).toNatClampNeg = 100 := rfl
    have c12 := disputedAt_ok K11.q K11.rk (nI (cwk (kA b) 100 k))
    rw [dk_of (show k < 1000 by omega) e] at c12
    rw [if_pos (show nI (stA (kA b) k) = (100 : Int32) by rw [e]; rfl), ch2, K11.k8, c0, i11, s4, c12]
    simp only [bI_ok, cond_true, ↓reduceIte]
    exact fin
  · rw [if_neg (show ¬(nI (stA (kA b) k) = (100 : Int32)) by rw [show (nI (stA (kA b) k) = (100 : Int32)) = (stA (kA b) k = 100) from eq_nI (by omega) (by decide)]; exact e)]
    exact fin
theorem key_fin (K : LK N xs hk b y) (S : Kq b a1 k hk) (h241 : 241 ≤ a1) (hk1 : k < 100) {a9 : Nat} (Q : Ky b (fun a => a = a1) hk g k 3 n a9) (p2 p3 : Nat) (v11 : Value) : ∃ g' w6 w7 w8 w9 w10, RF 204 299 [.ref 31, .ref a1, .int (nI p2), .int (nI p3), .int (1 : Int32), .int (nI k), .int (nI (hoA (kA b) k)), .int (nI (mxN (kA b) k)), .ref (HN hk), .ref a9, .int (nI 100), v11] [.int (scN (kA b) k)] g = RF 204 16 [.ref 31, .ref a1, .int (nI (p2 + acA (kA b) k)), .int (nI (p3 + (if 0 < hoA (kA b) k then 1 else 0))), .int (1 : Int32), .int (nI (k + 1)), w6, w7, w8, w9, w10, v11] [] g' ∧ Ls N xs b y hk g' (n + 25) ∧ Kq b a1 (k + 1) g' := by
  have ha1 : a1 < HN hk := (S.1.2.1 a1 rfl).2
  obtain ⟨A, -, -, V, T, t1, t2⟩ := Q
  obtain ⟨-, ⟨w22, w24, w26⟩, wl⟩ := lwL
  have Kg := K.nh A
  have hk9 : k < 1000 := by omega
  have h100 := K.a100 hk9
  have hh := ho_le (kA b) k 3
  rw [ho_3] at hh
  obtain ⟨g1, a1e, A1⟩ := (ask_st Kg hk9 (97 : Int32) (97 : Int32)).nq A.2
  have K1 := Kg.nh A1
  obtain ⟨g2, a2e, A2⟩ := (ask_ac K1 hk9 (97 : Int32) (97 : Int32)).nq A1.2
  have K2 := K1.nh A2
  have B2 := (A.tr A1).tr A2
  have T2 := (T.nh A1.1).nh A2.1
  have zl : ∀ s, HN hk ≤ s → ¬ ((fun a => a = a1) s) := fun s hs q => by
    have q : s = a1 := q
    omega
  have e299 : ∀ w, (if nI (hoA (kA b) k) = 0 then RF 204 346 [.ref 31, .ref a1, .int (nI p2), .int (nI p3), .int (1 : Int32), .int (nI k), .int (nI (hoA (kA b) k)), .int (nI (mxN (kA b) k)), .ref (HN hk), .ref a9, .int (scN (kA b) k), v11] [.int ((-2004) : Int32), .int (if 0 < hoA (kA b) k then nI (acA (kA b) k) else (-2004 : Int32))] g2 else RF 204 346 [.ref 31, .ref a1, .int (nI p2), .int (nI p3), .int (1 : Int32), .int (nI k), .int (nI (hoA (kA b) k)), .int (nI (mxN (kA b) k)), .ref (HN hk), .ref a9, .int (scN (kA b) k), v11] [.int (nI (mxN (kA b) k)), .int (if 0 < hoA (kA b) k then nI (acA (kA b) k) else (-2004 : Int32))] g2) = w → RF 204 299 [.ref 31, .ref a1, .int (nI p2), .int (nI p3), .int (1 : Int32), .int (nI k), .int (nI (hoA (kA b) k)), .int (nI (mxN (kA b) k)), .ref (HN hk), .ref a9, .int (nI 100), v11] [.int (scN (kA b) k)] g = w := fun w hw => by
    rw [e204_299, if_neg (show ¬((1 : Int32) = 0) by decide), a1e]
    simp only [bI_ok]
    rw [if_pos (show (if 0 < hoA (kA b) k then nI (stA (kA b) k) else (-2004 : Int32)) = scN (kA b) k from rfl), a2e]
    exact hw
  by_cases z : 0 < hoA (kA b) k
  · have esc : scN (kA b) k = nI (stA (kA b) k) := if_pos z
    have emx : mxN (kA b) k = acA (kA b) k := if_pos z
    have hst := st_in (kA b) k
    have hac : acA (kA b) k < 100 := by
      have a0 := h100 0 (by decide)
      have a1 := h100 1 (by decide)
      have a2 := h100 2 (by decide)
      have := ac_i (kA b 0 k) (kA b 1 k) (kA b 2 k)
      show ac3 (kA b 0 k) (kA b 1 k) (kA b 2 k) < 100
      omega
    have dl := dig_len2 hac
    have hkl := kp_len hk9 h100 3 (Nat.le_refl _)
    have ekB : kp (kA b) k 3 = keyB (kA b) k := rfl
    obtain ⟨g3, k3, c3, Q3⟩ := bq_new A2.2
    obtain ⟨g4, c4, Q4⟩ := Q3.st T2 (zl _ (by omega)) (by simp only [List.length_nil]; omega)
    rw [List.nil_append, ekB] at Q4
    rw [ekB] at hkl
    have go : ∀ w, RF 204 354 [.ref 31, .ref a1, .int (nI p2), .int (nI p3), .int (1 : Int32), .int (nI k), .int (nI (hoA (kA b) k)), .int (nI (acA (kA b) k)), .ref (HN hk), .ref a9, .int (nI (stA (kA b) k)), v11] [.int (1 : Int32)] g2 = w → RF 204 299 [.ref 31, .ref a1, .int (nI p2), .int (nI p3), .int (1 : Int32), .int (nI k), .int (nI (hoA (kA b) k)), .int (nI (mxN (kA b) k)), .ref (HN hk), .ref a9, .int (nI 100), v11] [.int (scN (kA b) k)] g = w := fun w hw => by
      refine e299 w ?_
      rw [if_neg (show ¬(nI (hoA (kA b) k) = 0) by rw [eqz_nI (by omega)]; omega), if_pos z, emx, esc, e204_346, if_pos rfl]
      exact hw
    have hp : (0 : Int32) < nI (hoA (kA b) k) := show nI 0 < nI (hoA (kA b) k) by rw [lt_nI (by omega) (by omega)]; exact z
    rw [if_pos z]
    rcases hst with e | e | e
    · -- confirmed
      have K4 := K2.nh Q4.2.1
      have T24 := lit_st K2 (a := 24) (by decide) (by decide) (by decide) (wl 10 (by decide))
      rw [w24] at T24
      obtain ⟨g9, c9, Q9⟩ := Q4.st T24 (A2.2.zl (by decide)) (by rw [lws_len]; omega)
      have eK : keyB (kA b) k ++ lws 4 0 10 = keyL (kA b) k := by
        unfold keyL
        rw [if_pos e]
      rw [eK] at Q9
      obtain ⟨g', r1, r2, r3⟩ := key_422 K S h241 hk1 z B2 Q4.ck c9 Q9 (by rw [← eK, la2, lws_len]; omega) p2 p3 (HN hk) a9 (1 : Int32) (nI (hoA (kA b) k)) v11
      refine ⟨g', .int (nI (hoA (kA b) k)), .int (nI (acA (kA b) k)), .ref (HN hk), .ref (HN g9), .int (nI (stA (kA b) k)), go _ ?_, r2.up (by omega), r3⟩
      rw [e204_354, if_pos hp, if_neg (show ¬((1 : Int32) = 0) by decide)]
      simp only [k3, cond_true, c3, bV_ok, Q3.ck, c4, bR_ok]
      rw [if_neg (show ¬(nI (stA (kA b) k) = (100 : Int32)) by rw [e]; decide), if_pos (show nI (stA (kA b) k) = (99 : Int32) by rw [e]; rfl)]
      exact r1
    · -- disputed
      have K4 := K2.nh Q4.2.1
      have T22 := lit_st K4 (a := 22) (by decide) (by decide) (by decide) (wl 9 (by decide))
      rw [w22] at T22
      obtain ⟨g5, k5, c5, Q5⟩ := bq_new Q4.2.1.2
      obtain ⟨g6, c6, Q6⟩ := Q5.st T22 (Q4.2.1.2.zl (by decide)) (by rw [lws_len]; decide)
      obtain ⟨g7, c7, Q7⟩ := Q6.i K4 (v := acA (kA b) k) (by omega) (by rw [List.nil_append, lws_len]; decide)
      obtain ⟨g8, c8, T8, v8, n8, -, -⟩ := Q7.str (((Lo.nil.app lws_lo6).app (dig_lo _))) (by rw [la2, List.nil_append, lws_len]; omega)
      have n37 := Q7.2.1.hn
      obtain ⟨g9, c9, Q9⟩ := Q4.a n8 T8 n37 (by omega) (by rw [la2, List.nil_append, lws_len]; omega)
      have eK : keyB (kA b) k ++ (([] ++ lws 6 0 11) ++ dig (acA (kA b) k)) = keyL (kA b) k := by
        unfold keyL
        rw [if_neg (by omega), if_pos e, List.nil_append, List.append_assoc]
      rw [eK] at Q9
      have ck8 : ckK g8 (HN g2) 10 = true := by
        have z := n8.1.2.1 (HN g2) Q4.2.2.1
        have w := Q4.ck
        unfold ckK at w ⊢
        rw [show HK g8 (HN g2) = HK g4 (HN g2) from congrArg Prod.fst z]
        exact w
      obtain ⟨g', r1, r2, r3⟩ := key_422 K S h241 hk1 z B2 ck8 c9 Q9 (by rw [← eK, la2, la2, List.nil_append, lws_len]; omega) p2 p3 (HN hk) a9 (1 : Int32) (nI (hoA (kA b) k)) v11
      refine ⟨g', .int (nI (hoA (kA b) k)), .int (nI (acA (kA b) k)), .ref (HN hk), .ref (HN g9), .int (nI (stA (kA b) k)), go _ ?_, r2.up (by omega), r3⟩
      rw [e204_354, if_pos hp, if_neg (show ¬((1 : Int32) = 0) by decide)]
      simp only [k3, cond_true, c3, bV_ok, Q3.ck, c4, bR_ok]
      rw [if_pos (show nI (stA (kA b) k) = (100 : Int32) by rw [e]; rfl)]
      simp only [k5, cond_true, c5, bV_ok, Q5.ck, c6, bR_ok, Q6.ck, c7, Q7.ck, c8]
      exact r1
    · -- open
      have K4 := K2.nh Q4.2.1
      have T26 := lit_st K2 (a := 26) (by decide) (by decide) (by decide) (wl 11 (by decide))
      rw [w26] at T26
      obtain ⟨g9, c9, Q9⟩ := Q4.st T26 (A2.2.zl (by decide)) (by rw [lws_len]; omega)
      have eK : keyB (kA b) k ++ lws 8 0 5 = keyL (kA b) k := by
        unfold keyL
        rw [if_neg (by omega), if_neg (by omega)]
      rw [eK] at Q9
      obtain ⟨g', r1, r2, r3⟩ := key_422 K S h241 hk1 z B2 Q4.ck c9 Q9 (by rw [← eK, la2, lws_len]; omega) p2 p3 (HN hk) a9 (1 : Int32) (nI (hoA (kA b) k)) v11
      refine ⟨g', .int (nI (hoA (kA b) k)), .int (nI (acA (kA b) k)), .ref (HN hk), .ref (HN g9), .int (nI (stA (kA b) k)), go _ ?_, r2.up (by omega), r3⟩
      rw [e204_354, if_pos hp, if_neg (show ¬((1 : Int32) = 0) by decide)]
      simp only [k3, cond_true, c3, bV_ok, Q3.ck, c4, bR_ok]
      rw [if_neg (show ¬(nI (stA (kA b) k) = (100 : Int32)) by rw [e]; decide), if_neg (show ¬(nI (stA (kA b) k) = (99 : Int32)) by rw [e]; decide)]
      exact r1
  · have e0 : ∀ s, s < 3 → kA b s k = 0 := fun s hs => hoN_z (by rw [ho_3]; omega) hs
    have eac : acA (kA b) k = 0 := by
      show ac3 (kA b 0 k) (kA b 1 k) (kA b 2 k) = 0
      rw [e0 0 (by decide), e0 1 (by decide), e0 2 (by decide)]
      rfl
    have hp : ¬((0 : Int32) < nI (hoA (kA b) k)) := by
      rw [show ((0 : Int32) < nI (hoA (kA b) k)) = (0 < hoA (kA b) k) from lt_nI (by decide) (by omega)]
      exact z
    have cz : ∀ c, cwk (kA b) c (k + 1) = cwk (kA b) c k := fun c => by
      rw [cwk_s, decide_eq_false (fun w => z w.1)]
      rfl
    obtain ⟨s0, ⟨s1, s2⟩, s3, s4, s5⟩ := S
    refine ⟨g2, .int (nI (hoA (kA b) k)), .int (nI (mxN (kA b) k)), .ref (HN hk), .ref a9, .int (scN (kA b) k), e299 _ ?_, (Ls.nq K B2).up (by omega), A2.2, ⟨(congrArg Prod.fst (B2.1.2.1 a1 ha1)).trans s1, (congrArg Prod.snd (B2.1.2.1 a1 ha1)).trans s2⟩, ?_, ?_, ?_⟩
    · rw [if_pos (show nI (hoA (kA b) k) = 0 by rw [eqz_nI (by omega)]; omega), if_neg z, e204_346, if_pos rfl, e204_354, if_neg hp, if_neg z, eac, show (nI k + (1 : Int32)) = nI (k + 1) from add_nI k 1]
      rfl
    · rw [cz]
      exact (B2.1.2.2.2.1 a1 ha1 99).trans s3
    · rw [cz]
      exact (B2.1.2.2.2.1 a1 ha1 100).trans s4
    · rw [cz]
      exact (B2.1.2.2.2.1 a1 ha1 111).trans s5
end LAW16
