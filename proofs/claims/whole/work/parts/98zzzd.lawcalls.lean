/-! THE LAW: its calls, one by one -/
theorem lgc (w : Int64) : lg_cmp w w = 0 := by
  simp [lg_cmp]
/-- a value of the script, as a char -/
def chx (v : Int32) : Int32 := (v.toUInt32 % 65536).toInt32
section LC
variable {N : Nat} {xs : Nat → Int32} {s y p : Nat} {h : Hp} {u v : Value}
/-- a call is done: on to the next -/
def DN (N : Nat) (xs : Nat → Int32) (s y p pc : Nat) (h : Hp) (u v : Value) : Prop := ∃ h' u' v', RF 343 pc [.ref 30, .ref 31, .ref 241, .ref 253, .ref 254, .int (nI p), u, v, .null] [] h = RF 343 2989 [.ref 30, .ref 31, .ref 241, .ref 253, .ref 254, .int (nI p), u', v', .null] [] h' ∧ LW N xs (s + 1) (y + 6000) h'
theorem LW.sc (W : LW N xs s y h) : HK h 30 = 200 ∧ HL h 30 = N := by
  obtain ⟨b, m, H, sv, oe, oq, x, n, L, K⟩ := W
  exact K.sc
theorem LW.ou (W : LW N xs s y h) : HK h 253 = 104 ∧ HL h 253 = 1 := by
  obtain ⟨b, m, H, sv, oe, oq, x, n, L, K⟩ := W
  exact K.ou
theorem LW.od (W : LW N xs s y h) : HK h 254 = 105 ∧ HL h 254 = 1 := by
  obtain ⟨b, m, H, sv, oe, oq, x, n, L, K⟩ := W
  exact K.od
theorem LW.k9 (W : LW N xs s y h) : HK h 241 = 9 := by
  obtain ⟨b, m, H, sv, oe, oq, x, n, L, K⟩ := W
  exact K.k9
theorem LW.k8 (W : LW N xs s y h) : HK h 31 = 8 := by
  obtain ⟨b, m, H, sv, oe, oq, x, n, L, K⟩ := W
  exact K.k8
theorem r215 {h : Hp} {t : Int32} (k : HK h 241 = 9) (e : HI h 241 16 = t) : CL 215 [.ref 241] h = some (.ok (.int t), h) := by
  rw [e215, ck_of k, e]
  rfl
theorem nI_z {t : Nat} (ht : t < 4) : (nI t = (0 : Int32)) = (t = 0) := by
  rw [lz0]
  exact eq_nI (by omega) (by decide)
theorem ad1 (p : Nat) : nI p + (1 : Int32) = nI (p + 1) := by rw [show (1 : Int32) = nI 1 from rfl, add_nI]
theorem ad2 (p : Nat) : nI p + (2 : Int32) = nI (p + 2) := by rw [show (2 : Int32) = nI 2 from rfl, add_nI]
theorem ad3 (p : Nat) : nI p + (3 : Int32) = nI (p + 3) := by rw [show (3 : Int32) = nI 3 from rfl, add_nI]
theorem ad4 (p : Nat) : nI p + (4 : Int32) = nI (p + 4) := by rw [show (4 : Int32) = nI 4 from rfl, add_nI]
theorem chs {h : Hp} {N p : Nat} {i : Nat} {j : Int32} (e : nI p + j = nI (p + i)) (k : HK h 30 = 200) (l : HL h 30 = N) (hi : p + i < N) (hN : N ≤ 2560) : chI h 30 200 (nI p + j) = true := by
  rw [e]
  exact chI_nI k l hi (by omega)
theorem l304 (W : LW N xs s y h) (hy : y + 6000 < 1000000000) (hp : p + 3 < N) (hN : N ≤ 2560) : DN N xs s y p 304 h u v := by
  have sc := W.sc
  obtain ⟨b, m, H, sv, oe, oq, x, n, L, K⟩ := W
  obtain ⟨t, w, h1, h3, q1, ⟨k9, s1, s2, s3⟩, q3, q4, q5, q6, q7⟩ := b203 K hy (chx (HI h 30 (p + 1))) (HI h 30 (p + 2)) (HI h 30 (p + 3))
  have o3 := q7.ou
  have r := r215 q7.k9 q5
  have g1 : (nI p + (1 : Int32)).toNatClampNeg = p + 1 := by rw [ad1, cl_nI (by omega)]
  have g2 : (nI p + (2 : Int32)).toNatClampNeg = p + 2 := by rw [ad2, cl_nI (by omega)]
  have g3 : (nI p + (3 : Int32)).toNatClampNeg = p + 3 := by rw [ad3, cl_nI (by omega)]
  refine ⟨h3, .int (nI t), .int w, ?_, q7⟩
  rw [e343_304]
  rw [chs (ad1 p) sc.1 sc.2 (by omega) hN, g1, chs (ad2 p) sc.1 sc.2 (by omega) hN, g2, chs (ad3 p) sc.1 sc.2 (by omega) hN, g3]
  rw [show ((HI h 30 (p + 1)).toUInt32 % 65536).toInt32 = chx (HI h 30 (p + 1)) from rfl, q1, bI_ok]
  try dsimp only
  rw [chs (ad1 p) s1 s2 (by omega) hN, s3 (p + 1), chs (ad2 p) s1 s2 (by omega) hN, s3 (p + 2), chs (ad3 p) s1 s2 (by omega) hN, s3 (p + 3)]
  rw [ck_of k9, show ((HI h 30 (p + 1)).toUInt32 % 65536).toInt32 = chx (HI h 30 (p + 1)) from rfl, q3, bI_ok]
  try dsimp only
  rw [ck_of q7.k9, r, bI_ok]
  try dsimp only
  rw [if_pos rfl]
  by_cases z : t = 0
  · subst z
    rw [if_pos (show nI 0 = (0 : Int32) from rfl), chz o3.1 o3.2, show (0 : Int32).toNatClampNeg = 0 from rfl]
    rw [q6 rfl, lgc, if_pos rfl]
    simp only [cond_true]
  · rw [if_neg (fun e => z ((nI_z q4).mp e))]
    simp only [cond_true]
theorem l386 (W : LW N xs s y h) (hy : y + 6000 < 1000000000) (hp : p + 3 < N) (hN : N ≤ 2560) : DN N xs s y p 386 h u v := by
  have sc := W.sc
  obtain ⟨b, m, H, sv, oe, oq, x, n, L, K⟩ := W
  obtain ⟨t, w, h1, h3, q1, ⟨k9, s1, s2, s3⟩, q3, q4, q5, q6, q7⟩ := b216 K hy (chx (HI h 30 (p + 1))) (HI h 30 (p + 2)) (HI h 30 (p + 3))
  have o3 := q7.ou
  have r := r215 q7.k9 q5
  have g1 : (nI p + (1 : Int32)).toNatClampNeg = p + 1 := by rw [ad1, cl_nI (by omega)]
  have g2 : (nI p + (2 : Int32)).toNatClampNeg = p + 2 := by rw [ad2, cl_nI (by omega)]
  have g3 : (nI p + (3 : Int32)).toNatClampNeg = p + 3 := by rw [ad3, cl_nI (by omega)]
  refine ⟨h3, .int (nI t), .int w, ?_, q7⟩
  rw [e343_386]
  rw [chs (ad1 p) sc.1 sc.2 (by omega) hN, g1, chs (ad2 p) sc.1 sc.2 (by omega) hN, g2, chs (ad3 p) sc.1 sc.2 (by omega) hN, g3]
  rw [show ((HI h 30 (p + 1)).toUInt32 % 65536).toInt32 = chx (HI h 30 (p + 1)) from rfl, q1, bI_ok]
  try dsimp only
  rw [chs (ad1 p) s1 s2 (by omega) hN, s3 (p + 1), chs (ad2 p) s1 s2 (by omega) hN, s3 (p + 2), chs (ad3 p) s1 s2 (by omega) hN, s3 (p + 3)]
  rw [ck_of k9, show ((HI h 30 (p + 1)).toUInt32 % 65536).toInt32 = chx (HI h 30 (p + 1)) from rfl, q3, bI_ok]
  try dsimp only
  rw [ck_of q7.k9, r, bI_ok]
  try dsimp only
  rw [if_pos rfl]
  by_cases z : t = 0
  · subst z
    rw [if_pos (show nI 0 = (0 : Int32) from rfl), chz o3.1 o3.2, show (0 : Int32).toNatClampNeg = 0 from rfl]
    rw [q6 rfl, lgc, if_pos rfl]
    simp only [cond_true]
  · rw [if_neg (fun e => z ((nI_z q4).mp e))]
    simp only [cond_true]
theorem l468 (W : LW N xs s y h) (hy : y + 6000 < 1000000000) : DN N xs s y p 468 h u v := by
  have sc := W.sc
  obtain ⟨b, m, H, sv, oe, oq, x, n, L, K⟩ := W
  obtain ⟨t, w, h1, h3, q1, ⟨k9, s1, s2, s3⟩, q3, q4, q5, q6, q7⟩ := b188 K hy
  have o3 := q7.ou
  have r := r215 q7.k9 q5
  refine ⟨h3, .int (nI t), .int w, ?_, q7⟩
  rw [e343_468]
  rw [q1, bI_ok]
  try dsimp only
  rw [ck_of k9, q3, bI_ok]
  try dsimp only
  rw [ck_of q7.k9, r, bI_ok]
  try dsimp only
  rw [if_pos rfl]
  by_cases z : t = 0
  · subst z
    rw [if_pos (show nI 0 = (0 : Int32) from rfl), chz o3.1 o3.2, show (0 : Int32).toNatClampNeg = 0 from rfl]
    rw [q6 rfl, lgc, if_pos rfl]
    simp only [cond_true]
  · rw [if_neg (fun e => z ((nI_z q4).mp e))]
    simp only [cond_true]
theorem l512 (W : LW N xs s y h) (hy : y + 6000 < 1000000000) : DN N xs s y p 512 h u v := by
  have k8 := W.k8
  obtain ⟨b, m, H, sv, oe, oq, x, n, L, K⟩ := W
  obtain ⟨w, h1, h3, q1, q2, q3, q4⟩ := a153 K hy
  refine ⟨h3, u, v, ?_, q4⟩
  rw [e343_512, ck_of k8, q1, bI_ok]
  try dsimp only
  rw [ck_of q2, q3, bI_ok]
  try dsimp only
  rw [if_pos rfl]
  simp only [cond_true]
theorem l525 (W : LW N xs s y h) (hy : y + 6000 < 1000000000) (hp : p + 2 < N) (hN : N ≤ 2560) : DN N xs s y p 525 h u v := by
  have sc := W.sc
  obtain ⟨b, m, H, sv, oe, oq, x, n, L, K⟩ := W
  obtain ⟨t, w, h1, h3, q1, ⟨k9, s1, s2, s3⟩, q3, q4, q5, q6, q7⟩ := b232 K hy (chx (HI h 30 (p + 1))) (HI h 30 (p + 2))
  have o3 := q7.ou
  have r := r215 q7.k9 q5
  have g1 : (nI p + (1 : Int32)).toNatClampNeg = p + 1 := by rw [ad1, cl_nI (by omega)]
  have g2 : (nI p + (2 : Int32)).toNatClampNeg = p + 2 := by rw [ad2, cl_nI (by omega)]
  refine ⟨h3, .int (nI t), .int w, ?_, q7⟩
  rw [e343_525]
  rw [chs (ad1 p) sc.1 sc.2 (by omega) hN, g1, chs (ad2 p) sc.1 sc.2 (by omega) hN, g2]
  rw [show ((HI h 30 (p + 1)).toUInt32 % 65536).toInt32 = chx (HI h 30 (p + 1)) from rfl, q1, bI_ok]
  try dsimp only
  rw [chs (ad1 p) s1 s2 (by omega) hN, s3 (p + 1), chs (ad2 p) s1 s2 (by omega) hN, s3 (p + 2)]
  rw [ck_of k9, show ((HI h 30 (p + 1)).toUInt32 % 65536).toInt32 = chx (HI h 30 (p + 1)) from rfl, q3, bI_ok]
  try dsimp only
  rw [ck_of q7.k9, r, bI_ok]
  try dsimp only
  rw [if_pos rfl]
  by_cases z : t = 0
  · subst z
    rw [if_pos (show nI 0 = (0 : Int32) from rfl), chz o3.1 o3.2, show (0 : Int32).toNatClampNeg = 0 from rfl]
    rw [q6 rfl, lgc, if_pos rfl]
    simp only [cond_true]
  · rw [if_neg (fun e => z ((nI_z q4).mp e))]
    simp only [cond_true]
theorem l595 (W : LW N xs s y h) (hy : y + 6000 < 1000000000) (hp : p + 2 < N) (hN : N ≤ 2560) : DN N xs s y p 595 h u v := by
  have sc := W.sc
  obtain ⟨b, m, H, sv, oe, oq, x, n, L, K⟩ := W
  obtain ⟨t, w, h1, h3, q1, ⟨k9, s1, s2, s3⟩, q3, q4, q5, q6, q7⟩ := b192 K hy (chx (HI h 30 (p + 1))) (HI h 30 (p + 2))
  have o3 := q7.ou
  have r := r215 q7.k9 q5
  have g1 : (nI p + (1 : Int32)).toNatClampNeg = p + 1 := by rw [ad1, cl_nI (by omega)]
  have g2 : (nI p + (2 : Int32)).toNatClampNeg = p + 2 := by rw [ad2, cl_nI (by omega)]
  refine ⟨h3, .int (nI t), .int w, ?_, q7⟩
  rw [e343_595]
  rw [chs (ad1 p) sc.1 sc.2 (by omega) hN, g1, chs (ad2 p) sc.1 sc.2 (by omega) hN, g2]
  rw [show ((HI h 30 (p + 1)).toUInt32 % 65536).toInt32 = chx (HI h 30 (p + 1)) from rfl, q1, bI_ok]
  try dsimp only
  rw [chs (ad1 p) s1 s2 (by omega) hN, s3 (p + 1), chs (ad2 p) s1 s2 (by omega) hN, s3 (p + 2)]
  rw [ck_of k9, show ((HI h 30 (p + 1)).toUInt32 % 65536).toInt32 = chx (HI h 30 (p + 1)) from rfl, q3, bI_ok]
  try dsimp only
  rw [ck_of q7.k9, r, bI_ok]
  try dsimp only
  rw [if_pos rfl]
  by_cases z : t = 0
  · subst z
    rw [if_pos (show nI 0 = (0 : Int32) from rfl), chz o3.1 o3.2, show (0 : Int32).toNatClampNeg = 0 from rfl]
    rw [q6 rfl, lgc, if_pos rfl]
    simp only [cond_true]
  · rw [if_neg (fun e => z ((nI_z q4).mp e))]
    simp only [cond_true]
theorem l665 (W : LW N xs s y h) (hy : y + 6000 < 1000000000) (hp : p + 1 < N) (hN : N ≤ 2560) : DN N xs s y p 665 h u v := by
  have sc := W.sc
  obtain ⟨b, m, H, sv, oe, oq, x, n, L, K⟩ := W
  obtain ⟨t, w, h1, h3, q1, ⟨k9, s1, s2, s3⟩, q3, q4, q5, q6, q7⟩ := b241 K hy (HI h 30 (p + 1))
  have o3 := q7.ou
  have r := r215 q7.k9 q5
  have g1 : (nI p + (1 : Int32)).toNatClampNeg = p + 1 := by rw [ad1, cl_nI (by omega)]
  refine ⟨h3, .int (nI t), .int w, ?_, q7⟩
  rw [e343_665]
  rw [chs (ad1 p) sc.1 sc.2 (by omega) hN, g1]
  rw [q1, bI_ok]
  try dsimp only
  rw [chs (ad1 p) s1 s2 (by omega) hN, s3 (p + 1)]
  rw [ck_of k9, q3, bI_ok]
  try dsimp only
  rw [ck_of q7.k9, r, bI_ok]
  try dsimp only
  rw [if_pos rfl]
  by_cases z : t = 0
  · subst z
    rw [if_pos (show nI 0 = (0 : Int32) from rfl), chz o3.1 o3.2, show (0 : Int32).toNatClampNeg = 0 from rfl]
    rw [q6 rfl, lgc, if_pos rfl]
    simp only [cond_true]
  · rw [if_neg (fun e => z ((nI_z q4).mp e))]
    simp only [cond_true]
theorem l721 (W : LW N xs s y h) : DN N xs s y p 721 h u v := by
  have k8 := W.k8
  obtain ⟨b, m, H, sv, oe, oq, x, n, L, K⟩ := W
  obtain ⟨w, h1, h3, q1, q2, q3, q4⟩ := a61 K
  refine ⟨h3, u, v, ?_, q4⟩
  rw [e343_721, ck_of k8, q1, bI_ok]
  try dsimp only
  rw [ck_of q2, q3, bI_ok]
  try dsimp only
  rw [if_pos rfl]
  simp only [cond_true]
theorem l734 (W : LW N xs s y h) : DN N xs s y p 734 h u v := by
  have k8 := W.k8
  obtain ⟨b, m, H, sv, oe, oq, x, n, L, K⟩ := W
  obtain ⟨w, h1, h3, q1, q2, q3, q4⟩ := a157 K
  refine ⟨h3, u, v, ?_, q4⟩
  rw [e343_734, ck_of k8, q1, bI_ok]
  try dsimp only
  rw [ck_of q2, q3, bI_ok]
  try dsimp only
  rw [if_pos rfl]
  simp only [cond_true]
theorem l747 (W : LW N xs s y h) (hp : p + 1 < N) (hN : N ≤ 2560) : DN N xs s y p 747 h u v := by
  have sc := W.sc
  obtain ⟨b, m, H, sv, oe, oq, x, n, L, K⟩ := W
  obtain ⟨t, w, h1, h3, q1, ⟨k9, s1, s2, s3⟩, q3, q4, q5, q6, q7⟩ := b247 K (HI h 30 (p + 1))
  have o3 := q7.ou
  have r := r215 q7.k9 q5
  have g1 : (nI p + (1 : Int32)).toNatClampNeg = p + 1 := by rw [ad1, cl_nI (by omega)]
  refine ⟨h3, .int (nI t), .int w, ?_, q7⟩
  rw [e343_747]
  rw [chs (ad1 p) sc.1 sc.2 (by omega) hN, g1]
  rw [q1, bI_ok]
  try dsimp only
  rw [chs (ad1 p) s1 s2 (by omega) hN, s3 (p + 1)]
  rw [ck_of k9, q3, bI_ok]
  try dsimp only
  rw [ck_of q7.k9, r, bI_ok]
  try dsimp only
  rw [if_pos rfl]
  by_cases z : t = 0
  · subst z
    rw [if_pos (show nI 0 = (0 : Int32) from rfl), chz o3.1 o3.2, show (0 : Int32).toNatClampNeg = 0 from rfl]
    rw [q6 rfl, lgc, if_pos rfl]
    simp only [cond_true]
  · rw [if_neg (fun e => z ((nI_z q4).mp e))]
    simp only [cond_true]
theorem l803 (W : LW N xs s y h) (hp : p + 1 < N) (hN : N ≤ 2560) : DN N xs s y p 803 h u v := by
  have sc := W.sc
  obtain ⟨b, m, H, sv, oe, oq, x, n, L, K⟩ := W
  obtain ⟨t, w, h1, h3, q1, ⟨k9, s1, s2, s3⟩, q3, q4, q5, q6, q7⟩ := b250 K (HI h 30 (p + 1))
  have o3 := q7.ou
  have r := r215 q7.k9 q5
  have g1 : (nI p + (1 : Int32)).toNatClampNeg = p + 1 := by rw [ad1, cl_nI (by omega)]
  refine ⟨h3, .int (nI t), .int w, ?_, q7⟩
  rw [e343_803]
  rw [chs (ad1 p) sc.1 sc.2 (by omega) hN, g1]
  rw [q1, bI_ok]
  try dsimp only
  rw [chs (ad1 p) s1 s2 (by omega) hN, s3 (p + 1)]
  rw [ck_of k9, q3, bI_ok]
  try dsimp only
  rw [ck_of q7.k9, r, bI_ok]
  try dsimp only
  rw [if_pos rfl]
  by_cases z : t = 0
  · subst z
    rw [if_pos (show nI 0 = (0 : Int32) from rfl), chz o3.1 o3.2, show (0 : Int32).toNatClampNeg = 0 from rfl]
    rw [q6 rfl, lgc, if_pos rfl]
    simp only [cond_true]
  · rw [if_neg (fun e => z ((nI_z q4).mp e))]
    simp only [cond_true]
theorem l859 (W : LW N xs s y h) (hp : p + 1 < N) (hN : N ≤ 2560) : DN N xs s y p 859 h u v := by
  have sc := W.sc
  obtain ⟨b, m, H, sv, oe, oq, x, n, L, K⟩ := W
  obtain ⟨t, w, h1, h3, q1, ⟨k9, s1, s2, s3⟩, q3, q4, q5, q6, q7⟩ := b252 K (HI h 30 (p + 1))
  have o3 := q7.ou
  have r := r215 q7.k9 q5
  have g1 : (nI p + (1 : Int32)).toNatClampNeg = p + 1 := by rw [ad1, cl_nI (by omega)]
  refine ⟨h3, .int (nI t), .int w, ?_, q7⟩
  rw [e343_859]
  rw [chs (ad1 p) sc.1 sc.2 (by omega) hN, g1]
  rw [q1, bI_ok]
  try dsimp only
  rw [chs (ad1 p) s1 s2 (by omega) hN, s3 (p + 1)]
  rw [ck_of k9, q3, bI_ok]
  try dsimp only
  rw [ck_of q7.k9, r, bI_ok]
  try dsimp only
  rw [if_pos rfl]
  by_cases z : t = 0
  · subst z
    rw [if_pos (show nI 0 = (0 : Int32) from rfl), chz o3.1 o3.2, show (0 : Int32).toNatClampNeg = 0 from rfl]
    rw [q6 rfl, lgc, if_pos rfl]
    simp only [cond_true]
  · rw [if_neg (fun e => z ((nI_z q4).mp e))]
    simp only [cond_true]
theorem l915 (W : LW N xs s y h) (hp : p + 1 < N) (hN : N ≤ 2560) : DN N xs s y p 915 h u v := by
  have sc := W.sc
  obtain ⟨b, m, H, sv, oe, oq, x, n, L, K⟩ := W
  obtain ⟨t, w, h1, h3, q1, ⟨k9, s1, s2, s3⟩, q3, q4, q5, q6, q7⟩ := b254 K (HI h 30 (p + 1))
  have o3 := q7.ou
  have r := r215 q7.k9 q5
  have g1 : (nI p + (1 : Int32)).toNatClampNeg = p + 1 := by rw [ad1, cl_nI (by omega)]
  refine ⟨h3, .int (nI t), .int w, ?_, q7⟩
  rw [e343_915]
  rw [chs (ad1 p) sc.1 sc.2 (by omega) hN, g1]
  rw [q1, bI_ok]
  try dsimp only
  rw [chs (ad1 p) s1 s2 (by omega) hN, s3 (p + 1)]
  rw [ck_of k9, q3, bI_ok]
  try dsimp only
  rw [ck_of q7.k9, r, bI_ok]
  try dsimp only
  rw [if_pos rfl]
  by_cases z : t = 0
  · subst z
    rw [if_pos (show nI 0 = (0 : Int32) from rfl), chz o3.1 o3.2, show (0 : Int32).toNatClampNeg = 0 from rfl]
    rw [q6 rfl, lgc, if_pos rfl]
    simp only [cond_true]
  · rw [if_neg (fun e => z ((nI_z q4).mp e))]
    simp only [cond_true]
theorem l971 (W : LW N xs s y h) : DN N xs s y p 971 h u v := by
  have k8 := W.k8
  obtain ⟨b, m, H, sv, oe, oq, x, n, L, K⟩ := W
  obtain ⟨w, h1, h3, q1, q2, q3, q4⟩ := a29 K
  refine ⟨h3, u, v, ?_, q4⟩
  rw [e343_971, ck_of k8, q1, bI_ok]
  try dsimp only
  rw [ck_of q2, q3, bI_ok]
  try dsimp only
  rw [if_pos rfl]
  simp only [cond_true]
theorem l984 (W : LW N xs s y h) : DN N xs s y p 984 h u v := by
  have k8 := W.k8
  obtain ⟨b, m, H, sv, oe, oq, x, n, L, K⟩ := W
  obtain ⟨w, h1, h3, q1, q2, q3, q4⟩ := a150 K
  refine ⟨h3, u, v, ?_, q4⟩
  rw [e343_984, ck_of k8, q1, bI_ok]
  try dsimp only
  rw [ck_of q2, q3, bI_ok]
  try dsimp only
  rw [if_pos rfl]
  simp only [cond_true]
theorem l997 (W : LW N xs s y h) (hp : p + 1 < N) (hN : N ≤ 2560) : DN N xs s y p 997 h u v := by
  have sc := W.sc
  obtain ⟨b, m, H, sv, oe, oq, x, n, L, K⟩ := W
  obtain ⟨t, w, h1, h3, q1, ⟨k9, s1, s2, s3⟩, q3, q4, q5, q6, q7⟩ := b258 K (chx (HI h 30 (p + 1)))
  have o3 := q7.ou
  have r := r215 q7.k9 q5
  have g1 : (nI p + (1 : Int32)).toNatClampNeg = p + 1 := by rw [ad1, cl_nI (by omega)]
  refine ⟨h3, .int (nI t), .int w, ?_, q7⟩
  rw [e343_997]
  rw [chs (ad1 p) sc.1 sc.2 (by omega) hN, g1]
  rw [show ((HI h 30 (p + 1)).toUInt32 % 65536).toInt32 = chx (HI h 30 (p + 1)) from rfl, q1, bI_ok]
  try dsimp only
  rw [chs (ad1 p) s1 s2 (by omega) hN, s3 (p + 1)]
  rw [ck_of k9, show ((HI h 30 (p + 1)).toUInt32 % 65536).toInt32 = chx (HI h 30 (p + 1)) from rfl, q3, bI_ok]
  try dsimp only
  rw [ck_of q7.k9, r, bI_ok]
  try dsimp only
  rw [if_pos rfl]
  by_cases z : t = 0
  · subst z
    rw [if_pos (show nI 0 = (0 : Int32) from rfl), chz o3.1 o3.2, show (0 : Int32).toNatClampNeg = 0 from rfl]
    rw [q6 rfl, lgc, if_pos rfl]
    simp only [cond_true]
  · rw [if_neg (fun e => z ((nI_z q4).mp e))]
    simp only [cond_true]
theorem l1055 (W : LW N xs s y h) (hp : p + 2 < N) (hN : N ≤ 2560) : DN N xs s y p 1055 h u v := by
  have sc := W.sc
  obtain ⟨b, m, H, sv, oe, oq, x, n, L, K⟩ := W
  obtain ⟨t, w, h1, h3, q1, ⟨k9, s1, s2, s3⟩, q3, q4, q5, q6, q7⟩ := b198 K (chx (HI h 30 (p + 1))) (HI h 30 (p + 2))
  have o3 := q7.ou
  have r := r215 q7.k9 q5
  have g1 : (nI p + (1 : Int32)).toNatClampNeg = p + 1 := by rw [ad1, cl_nI (by omega)]
  have g2 : (nI p + (2 : Int32)).toNatClampNeg = p + 2 := by rw [ad2, cl_nI (by omega)]
  refine ⟨h3, .int (nI t), .int w, ?_, q7⟩
  rw [e343_1055]
  rw [chs (ad1 p) sc.1 sc.2 (by omega) hN, g1, chs (ad2 p) sc.1 sc.2 (by omega) hN, g2]
  rw [show ((HI h 30 (p + 1)).toUInt32 % 65536).toInt32 = chx (HI h 30 (p + 1)) from rfl, q1, bI_ok]
  try dsimp only
  rw [chs (ad1 p) s1 s2 (by omega) hN, s3 (p + 1), chs (ad2 p) s1 s2 (by omega) hN, s3 (p + 2)]
  rw [ck_of k9, show ((HI h 30 (p + 1)).toUInt32 % 65536).toInt32 = chx (HI h 30 (p + 1)) from rfl, q3, bI_ok]
  try dsimp only
  rw [ck_of q7.k9, r, bI_ok]
  try dsimp only
  rw [if_pos rfl]
  by_cases z : t = 0
  · subst z
    rw [if_pos (show nI 0 = (0 : Int32) from rfl), chz o3.1 o3.2, show (0 : Int32).toNatClampNeg = 0 from rfl]
    rw [(q6 rfl).1]
    rcases (q6 rfl).2 with e | e
    · subst e
      rw [if_pos (show nI 0 = (0 : Int32) from rfl), show (nI 0).toInt64 = (0 : Int64) from rfl, lgc, if_pos rfl]
      simp only [cond_true]
    · subst e
      rw [if_neg (show ¬(nI 1 = (0 : Int32)) by decide), show (nI 1).toInt64 = (1 : Int64) from rfl, lgc, if_pos rfl]
      simp only [cond_true]
  · rw [if_neg (fun e => z ((nI_z q4).mp e))]
    simp only [cond_true]
theorem l1132 (W : LW N xs s y h) (hp : p + 2 < N) (hN : N ≤ 2560) : DN N xs s y p 1132 h u v := by
  have sc := W.sc
  obtain ⟨b, m, H, sv, oe, oq, x, n, L, K⟩ := W
  obtain ⟨t, w, h1, h3, q1, ⟨k9, s1, s2, s3⟩, q3, q4, q5, q6, q7⟩ := b186 K (chx (HI h 30 (p + 1))) (HI h 30 (p + 2))
  have o3 := q7.ou
  have r := r215 q7.k9 q5
  have g1 : (nI p + (1 : Int32)).toNatClampNeg = p + 1 := by rw [ad1, cl_nI (by omega)]
  have g2 : (nI p + (2 : Int32)).toNatClampNeg = p + 2 := by rw [ad2, cl_nI (by omega)]
  refine ⟨h3, .int (nI t), .int w, ?_, q7⟩
  rw [e343_1132]
  rw [chs (ad1 p) sc.1 sc.2 (by omega) hN, g1, chs (ad2 p) sc.1 sc.2 (by omega) hN, g2]
  rw [show ((HI h 30 (p + 1)).toUInt32 % 65536).toInt32 = chx (HI h 30 (p + 1)) from rfl, q1, bI_ok]
  try dsimp only
  rw [chs (ad1 p) s1 s2 (by omega) hN, s3 (p + 1), chs (ad2 p) s1 s2 (by omega) hN, s3 (p + 2)]
  rw [ck_of k9, show ((HI h 30 (p + 1)).toUInt32 % 65536).toInt32 = chx (HI h 30 (p + 1)) from rfl, q3, bI_ok]
  try dsimp only
  rw [ck_of q7.k9, r, bI_ok]
  try dsimp only
  rw [if_pos rfl]
  by_cases z : t = 0
  · subst z
    rw [if_pos (show nI 0 = (0 : Int32) from rfl), chz o3.1 o3.2, show (0 : Int32).toNatClampNeg = 0 from rfl]
    rw [q6 rfl, lgc, if_pos rfl]
    simp only [cond_true]
  · rw [if_neg (fun e => z ((nI_z q4).mp e))]
    simp only [cond_true]
theorem l1202 (W : LW N xs s y h) (hp : p + 2 < N) (hN : N ≤ 2560) : DN N xs s y p 1202 h u v := by
  have sc := W.sc
  obtain ⟨b, m, H, sv, oe, oq, x, n, L, K⟩ := W
  obtain ⟨t, w, h1, h3, q1, ⟨k9, s1, s2, s3⟩, q3, q4, q5, q6, q7⟩ := b190 K (chx (HI h 30 (p + 1))) (HI h 30 (p + 2))
  have o3 := q7.ou
  have r := r215 q7.k9 q5
  have g1 : (nI p + (1 : Int32)).toNatClampNeg = p + 1 := by rw [ad1, cl_nI (by omega)]
  have g2 : (nI p + (2 : Int32)).toNatClampNeg = p + 2 := by rw [ad2, cl_nI (by omega)]
  refine ⟨h3, .int (nI t), .int w, ?_, q7⟩
  rw [e343_1202]
  rw [chs (ad1 p) sc.1 sc.2 (by omega) hN, g1, chs (ad2 p) sc.1 sc.2 (by omega) hN, g2]
  rw [show ((HI h 30 (p + 1)).toUInt32 % 65536).toInt32 = chx (HI h 30 (p + 1)) from rfl, q1, bI_ok]
  try dsimp only
  rw [chs (ad1 p) s1 s2 (by omega) hN, s3 (p + 1), chs (ad2 p) s1 s2 (by omega) hN, s3 (p + 2)]
  rw [ck_of k9, show ((HI h 30 (p + 1)).toUInt32 % 65536).toInt32 = chx (HI h 30 (p + 1)) from rfl, q3, bI_ok]
  try dsimp only
  rw [ck_of q7.k9, r, bI_ok]
  try dsimp only
  rw [if_pos rfl]
  by_cases z : t = 0
  · subst z
    rw [if_pos (show nI 0 = (0 : Int32) from rfl), chz o3.1 o3.2, show (0 : Int32).toNatClampNeg = 0 from rfl]
    rw [q6 rfl, lgc, if_pos rfl]
    simp only [cond_true]
  · rw [if_neg (fun e => z ((nI_z q4).mp e))]
    simp only [cond_true]
theorem l1272 (W : LW N xs s y h) (hp : p + 2 < N) (hN : N ≤ 2560) : DN N xs s y p 1272 h u v := by
  have sc := W.sc
  obtain ⟨b, m, H, sv, oe, oq, x, n, L, K⟩ := W
  obtain ⟨t, w, h1, h3, q1, ⟨k9, s1, s2, s3⟩, q3, q4, q5, q6, q7⟩ := b201 K (chx (HI h 30 (p + 1))) (HI h 30 (p + 2))
  have o3 := q7.ou
  have r := r215 q7.k9 q5
  have g1 : (nI p + (1 : Int32)).toNatClampNeg = p + 1 := by rw [ad1, cl_nI (by omega)]
  have g2 : (nI p + (2 : Int32)).toNatClampNeg = p + 2 := by rw [ad2, cl_nI (by omega)]
  refine ⟨h3, .int (nI t), .int w, ?_, q7⟩
  rw [e343_1272]
  rw [chs (ad1 p) sc.1 sc.2 (by omega) hN, g1, chs (ad2 p) sc.1 sc.2 (by omega) hN, g2]
  rw [show ((HI h 30 (p + 1)).toUInt32 % 65536).toInt32 = chx (HI h 30 (p + 1)) from rfl, q1, bI_ok]
  try dsimp only
  rw [chs (ad1 p) s1 s2 (by omega) hN, s3 (p + 1), chs (ad2 p) s1 s2 (by omega) hN, s3 (p + 2)]
  rw [ck_of k9, show ((HI h 30 (p + 1)).toUInt32 % 65536).toInt32 = chx (HI h 30 (p + 1)) from rfl, q3, bI_ok]
  try dsimp only
  rw [ck_of q7.k9, r, bI_ok]
  try dsimp only
  rw [if_pos rfl]
  by_cases z : t = 0
  · subst z
    rw [if_pos (show nI 0 = (0 : Int32) from rfl), chz o3.1 o3.2, show (0 : Int32).toNatClampNeg = 0 from rfl]
    rw [q6 rfl, lgc, if_pos rfl]
    simp only [cond_true]
  · rw [if_neg (fun e => z ((nI_z q4).mp e))]
    simp only [cond_true]
theorem l1342 (W : LW N xs s y h) (hp : p + 1 < N) (hN : N ≤ 2560) : DN N xs s y p 1342 h u v := by
  have sc := W.sc
  obtain ⟨b, m, H, sv, oe, oq, x, n, L, K⟩ := W
  obtain ⟨t, w, h1, h3, q1, ⟨k9, s1, s2, s3⟩, q3, q4, q5, q6, q7⟩ := b266 K (chx (HI h 30 (p + 1)))
  have o3 := q7.ou
  have r := r215 q7.k9 q5
  have g1 : (nI p + (1 : Int32)).toNatClampNeg = p + 1 := by rw [ad1, cl_nI (by omega)]
  refine ⟨h3, .int (nI t), .int w, ?_, q7⟩
  rw [e343_1342]
  rw [chs (ad1 p) sc.1 sc.2 (by omega) hN, g1]
  rw [show ((HI h 30 (p + 1)).toUInt32 % 65536).toInt32 = chx (HI h 30 (p + 1)) from rfl, q1, bI_ok]
  try dsimp only
  rw [chs (ad1 p) s1 s2 (by omega) hN, s3 (p + 1)]
  rw [ck_of k9, show ((HI h 30 (p + 1)).toUInt32 % 65536).toInt32 = chx (HI h 30 (p + 1)) from rfl, q3, bI_ok]
  try dsimp only
  rw [ck_of q7.k9, r, bI_ok]
  try dsimp only
  rw [if_pos rfl]
  by_cases z : t = 0
  · subst z
    rw [if_pos (show nI 0 = (0 : Int32) from rfl), chz o3.1 o3.2, show (0 : Int32).toNatClampNeg = 0 from rfl]
    rw [q6 rfl, lgc, if_pos rfl]
    simp only [cond_true]
  · rw [if_neg (fun e => z ((nI_z q4).mp e))]
    simp only [cond_true]
theorem l1400 (W : LW N xs s y h) (hp : p + 1 < N) (hN : N ≤ 2560) : DN N xs s y p 1400 h u v := by
  have sc := W.sc
  obtain ⟨b, m, H, sv, oe, oq, x, n, L, K⟩ := W
  obtain ⟨t, w, h1, h3, q1, ⟨k9, s1, s2, s3⟩, q3, q4, q5, q6, q7⟩ := b268 K (HI h 30 (p + 1))
  have o3 := q7.ou
  have r := r215 q7.k9 q5
  have g1 : (nI p + (1 : Int32)).toNatClampNeg = p + 1 := by rw [ad1, cl_nI (by omega)]
  refine ⟨h3, .int (nI t), .int w, ?_, q7⟩
  rw [e343_1400]
  rw [chs (ad1 p) sc.1 sc.2 (by omega) hN, g1]
  rw [q1, bI_ok]
  try dsimp only
  rw [chs (ad1 p) s1 s2 (by omega) hN, s3 (p + 1)]
  rw [ck_of k9, q3, bI_ok]
  try dsimp only
  rw [ck_of q7.k9, r, bI_ok]
  try dsimp only
  rw [if_pos rfl]
  by_cases z : t = 0
  · subst z
    rw [if_pos (show nI 0 = (0 : Int32) from rfl), chz o3.1 o3.2, show (0 : Int32).toNatClampNeg = 0 from rfl]
    rw [q6 rfl, lgc, if_pos rfl]
    simp only [cond_true]
  · rw [if_neg (fun e => z ((nI_z q4).mp e))]
    simp only [cond_true]
theorem l1456 (W : LW N xs s y h) : DN N xs s y p 1456 h u v := by
  have k8 := W.k8
  obtain ⟨b, m, H, sv, oe, oq, x, n, L, K⟩ := W
  obtain ⟨w, h1, h3, q1, q2, q3, q4⟩ := a58 K
  refine ⟨h3, u, v, ?_, q4⟩
  rw [e343_1456, ck_of k8, q1, bI_ok]
  try dsimp only
  rw [ck_of q2, q3, bI_ok]
  try dsimp only
  rw [if_pos rfl]
  simp only [cond_true]
theorem l1469 (W : LW N xs s y h) : DN N xs s y p 1469 h u v := by
  have k8 := W.k8
  obtain ⟨b, m, H, sv, oe, oq, x, n, L, K⟩ := W
  obtain ⟨w, h1, h3, q1, q2, q3, q4⟩ := a65 K
  refine ⟨h3, u, v, ?_, q4⟩
  rw [e343_1469, ck_of k8, q1, bI_ok]
  try dsimp only
  rw [ck_of q2, q3, bI_ok]
  try dsimp only
  rw [if_pos rfl]
  simp only [cond_true]
theorem l1482 (W : LW N xs s y h) : DN N xs s y p 1482 h u v := by
  have k8 := W.k8
  obtain ⟨b, m, H, sv, oe, oq, x, n, L, K⟩ := W
  obtain ⟨w, h1, h3, q1, q2, q3, q4⟩ := a143 K
  refine ⟨h3, u, v, ?_, q4⟩
  rw [e343_1482, ck_of k8, q1, bI_ok]
  try dsimp only
  rw [ck_of q2, q3, bI_ok]
  try dsimp only
  rw [if_pos rfl]
  simp only [cond_true]
theorem l1495 (W : LW N xs s y h) (hp : p + 1 < N) (hN : N ≤ 2560) : DN N xs s y p 1495 h u v := by
  have sc := W.sc
  obtain ⟨b, m, H, sv, oe, oq, x, n, L, K⟩ := W
  obtain ⟨t, w, h1, h3, q1, ⟨k9, s1, s2, s3⟩, q3, q4, q5, q6, q7⟩ := b191 K (HI h 30 (p + 1))
  have o3 := q7.ou
  have r := r215 q7.k9 q5
  have g1 : (nI p + (1 : Int32)).toNatClampNeg = p + 1 := by rw [ad1, cl_nI (by omega)]
  refine ⟨h3, .int (nI t), .int w, ?_, q7⟩
  rw [e343_1495]
  rw [chs (ad1 p) sc.1 sc.2 (by omega) hN, g1]
  rw [q1, bI_ok]
  try dsimp only
  rw [chs (ad1 p) s1 s2 (by omega) hN, s3 (p + 1)]
  rw [ck_of k9, q3, bI_ok]
  try dsimp only
  rw [ck_of q7.k9, r, bI_ok]
  try dsimp only
  rw [if_pos rfl]
  by_cases z : t = 0
  · subst z
    rw [if_pos (show nI 0 = (0 : Int32) from rfl), chz o3.1 o3.2, show (0 : Int32).toNatClampNeg = 0 from rfl]
    rw [q6 rfl, lgc, if_pos rfl]
    simp only [cond_true]
  · rw [if_neg (fun e => z ((nI_z q4).mp e))]
    simp only [cond_true]
theorem l1551 (W : LW N xs s y h) (hp : p + 1 < N) (hN : N ≤ 2560) : DN N xs s y p 1551 h u v := by
  have sc := W.sc
  obtain ⟨b, m, H, sv, oe, oq, x, n, L, K⟩ := W
  obtain ⟨t, w, h1, h3, q1, ⟨k9, s1, s2, s3⟩, q3, q4, q5, q6, q7⟩ := b185 K (HI h 30 (p + 1))
  have o3 := q7.ou
  have r := r215 q7.k9 q5
  have g1 : (nI p + (1 : Int32)).toNatClampNeg = p + 1 := by rw [ad1, cl_nI (by omega)]
  refine ⟨h3, .int (nI t), .int w, ?_, q7⟩
  rw [e343_1551]
  rw [chs (ad1 p) sc.1 sc.2 (by omega) hN, g1]
  rw [q1, bI_ok]
  try dsimp only
  rw [chs (ad1 p) s1 s2 (by omega) hN, s3 (p + 1)]
  rw [ck_of k9, q3, bI_ok]
  try dsimp only
  rw [ck_of q7.k9, r, bI_ok]
  try dsimp only
  rw [if_pos rfl]
  by_cases z : t = 0
  · subst z
    rw [if_pos (show nI 0 = (0 : Int32) from rfl), chz o3.1 o3.2, show (0 : Int32).toNatClampNeg = 0 from rfl]
    rw [q6 rfl, lgc, if_pos rfl]
    simp only [cond_true]
  · rw [if_neg (fun e => z ((nI_z q4).mp e))]
    simp only [cond_true]
theorem l1607 (W : LW N xs s y h) : DN N xs s y p 1607 h u v := by
  have k8 := W.k8
  obtain ⟨b, m, H, sv, oe, oq, x, n, L, K⟩ := W
  obtain ⟨w, h1, h3, q1, q2, q3, q4⟩ := a17 K
  refine ⟨h3, u, v, ?_, q4⟩
  rw [e343_1607, ck_of k8, q1, bI_ok]
  try dsimp only
  rw [ck_of q2, q3, bI_ok]
  try dsimp only
  rw [if_pos rfl]
  simp only [cond_true]
theorem l1620 (W : LW N xs s y h) (hp : p + 1 < N) (hN : N ≤ 2560) : DN N xs s y p 1620 h u v := by
  have sc := W.sc
  obtain ⟨b, m, H, sv, oe, oq, x, n, L, K⟩ := W
  obtain ⟨t, w, h1, h3, q1, ⟨k9, s1, s2, s3⟩, q3, q4, q5, q6, q7⟩ := b279 K (chx (HI h 30 (p + 1)))
  have o3 := q7.ou
  have r := r215 q7.k9 q5
  have g1 : (nI p + (1 : Int32)).toNatClampNeg = p + 1 := by rw [ad1, cl_nI (by omega)]
  refine ⟨h3, .int (nI t), .int w, ?_, q7⟩
  rw [e343_1620]
  rw [chs (ad1 p) sc.1 sc.2 (by omega) hN, g1]
  rw [show ((HI h 30 (p + 1)).toUInt32 % 65536).toInt32 = chx (HI h 30 (p + 1)) from rfl, q1, bI_ok]
  try dsimp only
  rw [chs (ad1 p) s1 s2 (by omega) hN, s3 (p + 1)]
  rw [ck_of k9, show ((HI h 30 (p + 1)).toUInt32 % 65536).toInt32 = chx (HI h 30 (p + 1)) from rfl, q3, bI_ok]
  try dsimp only
  rw [ck_of q7.k9, r, bI_ok]
  try dsimp only
  rw [if_pos rfl]
  by_cases z : t = 0
  · subst z
    rw [if_pos (show nI 0 = (0 : Int32) from rfl), chz o3.1 o3.2, show (0 : Int32).toNatClampNeg = 0 from rfl]
    rw [q6 rfl, lgc, if_pos rfl]
    simp only [cond_true]
  · rw [if_neg (fun e => z ((nI_z q4).mp e))]
    simp only [cond_true]
theorem l1678 (W : LW N xs s y h) (hp : p + 4 < N) (hN : N ≤ 2560) : DN N xs s y p 1678 h u v := by
  have sc := W.sc
  obtain ⟨b, m, H, sv, oe, oq, x, n, L, K⟩ := W
  obtain ⟨t, w, h1, h3, q1, ⟨k9, s1, s2, s3⟩, q3, q4, q5, q6, q7⟩ := b200 K (chx (HI h 30 (p + 1))) (HI h 30 (p + 2)) (chx (HI h 30 (p + 3))) (HI h 30 (p + 4))
  have o3 := q7.ou
  have r := r215 q7.k9 q5
  have g1 : (nI p + (1 : Int32)).toNatClampNeg = p + 1 := by rw [ad1, cl_nI (by omega)]
  have g2 : (nI p + (2 : Int32)).toNatClampNeg = p + 2 := by rw [ad2, cl_nI (by omega)]
  have g3 : (nI p + (3 : Int32)).toNatClampNeg = p + 3 := by rw [ad3, cl_nI (by omega)]
  have g4 : (nI p + (4 : Int32)).toNatClampNeg = p + 4 := by rw [ad4, cl_nI (by omega)]
  refine ⟨h3, .int (nI t), .int w, ?_, q7⟩
  rw [e343_1678]
  rw [chs (ad1 p) sc.1 sc.2 (by omega) hN, g1, chs (ad2 p) sc.1 sc.2 (by omega) hN, g2, chs (ad3 p) sc.1 sc.2 (by omega) hN, g3, chs (ad4 p) sc.1 sc.2 (by omega) hN, g4]
  rw [show ((HI h 30 (p + 1)).toUInt32 % 65536).toInt32 = chx (HI h 30 (p + 1)) from rfl, show ((HI h 30 (p + 3)).toUInt32 % 65536).toInt32 = chx (HI h 30 (p + 3)) from rfl, q1, bI_ok]
  try dsimp only
  rw [chs (ad1 p) s1 s2 (by omega) hN, s3 (p + 1), chs (ad2 p) s1 s2 (by omega) hN, s3 (p + 2), chs (ad3 p) s1 s2 (by omega) hN, s3 (p + 3), chs (ad4 p) s1 s2 (by omega) hN, s3 (p + 4)]
  rw [ck_of k9, show ((HI h 30 (p + 1)).toUInt32 % 65536).toInt32 = chx (HI h 30 (p + 1)) from rfl, show ((HI h 30 (p + 3)).toUInt32 % 65536).toInt32 = chx (HI h 30 (p + 3)) from rfl, q3, bI_ok]
  try dsimp only
  rw [ck_of q7.k9, r, bI_ok]
  try dsimp only
  rw [if_pos rfl]
  by_cases z : t = 0
  · subst z
    rw [if_pos (show nI 0 = (0 : Int32) from rfl), chz o3.1 o3.2, show (0 : Int32).toNatClampNeg = 0 from rfl]
    rw [(q6 rfl).1]
    rcases (q6 rfl).2 with e | e
    · subst e
      rw [if_pos (show nI 0 = (0 : Int32) from rfl), show (nI 0).toInt64 = (0 : Int64) from rfl, lgc, if_pos rfl]
      simp only [cond_true]
    · subst e
      rw [if_neg (show ¬(nI 1 = (0 : Int32)) by decide), show (nI 1).toInt64 = (1 : Int64) from rfl, lgc, if_pos rfl]
      simp only [cond_true]
  · rw [if_neg (fun e => z ((nI_z q4).mp e))]
    simp only [cond_true]
theorem l1781 (W : LW N xs s y h) (hp : p + 2 < N) (hN : N ≤ 2560) : DN N xs s y p 1781 h u v := by
  have sc := W.sc
  obtain ⟨b, m, H, sv, oe, oq, x, n, L, K⟩ := W
  obtain ⟨t, w, h1, h3, q1, ⟨k9, s1, s2, s3⟩, q3, q4, q5, q6, q7⟩ := b285 K (chx (HI h 30 (p + 1))) (chx (HI h 30 (p + 2)))
  have o3 := q7.ou
  have r := r215 q7.k9 q5
  have g1 : (nI p + (1 : Int32)).toNatClampNeg = p + 1 := by rw [ad1, cl_nI (by omega)]
  have g2 : (nI p + (2 : Int32)).toNatClampNeg = p + 2 := by rw [ad2, cl_nI (by omega)]
  refine ⟨h3, .int (nI t), .int w, ?_, q7⟩
  rw [e343_1781]
  rw [chs (ad1 p) sc.1 sc.2 (by omega) hN, g1, chs (ad2 p) sc.1 sc.2 (by omega) hN, g2]
  rw [show ((HI h 30 (p + 1)).toUInt32 % 65536).toInt32 = chx (HI h 30 (p + 1)) from rfl, show ((HI h 30 (p + 2)).toUInt32 % 65536).toInt32 = chx (HI h 30 (p + 2)) from rfl, q1, bI_ok]
  try dsimp only
  rw [chs (ad1 p) s1 s2 (by omega) hN, s3 (p + 1), chs (ad2 p) s1 s2 (by omega) hN, s3 (p + 2)]
  rw [ck_of k9, show ((HI h 30 (p + 1)).toUInt32 % 65536).toInt32 = chx (HI h 30 (p + 1)) from rfl, show ((HI h 30 (p + 2)).toUInt32 % 65536).toInt32 = chx (HI h 30 (p + 2)) from rfl, q3, bI_ok]
  try dsimp only
  rw [ck_of q7.k9, r, bI_ok]
  try dsimp only
  rw [if_pos rfl]
  by_cases z : t = 0
  · subst z
    rw [if_pos (show nI 0 = (0 : Int32) from rfl), chz o3.1 o3.2, show (0 : Int32).toNatClampNeg = 0 from rfl]
    rw [q6 rfl, lgc, if_pos rfl]
    simp only [cond_true]
  · rw [if_neg (fun e => z ((nI_z q4).mp e))]
    simp only [cond_true]
theorem l1853 (W : LW N xs s y h) (hp : p + 2 < N) (hN : N ≤ 2560) : DN N xs s y p 1853 h u v := by
  have sc := W.sc
  obtain ⟨b, m, H, sv, oe, oq, x, n, L, K⟩ := W
  obtain ⟨t, w, h1, h3, q1, ⟨k9, s1, s2, s3⟩, q3, q4, q5, q6, q7⟩ := b287 K (chx (HI h 30 (p + 1))) (chx (HI h 30 (p + 2)))
  have o3 := q7.ou
  have r := r215 q7.k9 q5
  have g1 : (nI p + (1 : Int32)).toNatClampNeg = p + 1 := by rw [ad1, cl_nI (by omega)]
  have g2 : (nI p + (2 : Int32)).toNatClampNeg = p + 2 := by rw [ad2, cl_nI (by omega)]
  refine ⟨h3, .int (nI t), .int w, ?_, q7⟩
  rw [e343_1853]
  rw [chs (ad1 p) sc.1 sc.2 (by omega) hN, g1, chs (ad2 p) sc.1 sc.2 (by omega) hN, g2]
  rw [show ((HI h 30 (p + 1)).toUInt32 % 65536).toInt32 = chx (HI h 30 (p + 1)) from rfl, show ((HI h 30 (p + 2)).toUInt32 % 65536).toInt32 = chx (HI h 30 (p + 2)) from rfl, q1, bI_ok]
  try dsimp only
  rw [chs (ad1 p) s1 s2 (by omega) hN, s3 (p + 1), chs (ad2 p) s1 s2 (by omega) hN, s3 (p + 2)]
  rw [ck_of k9, show ((HI h 30 (p + 1)).toUInt32 % 65536).toInt32 = chx (HI h 30 (p + 1)) from rfl, show ((HI h 30 (p + 2)).toUInt32 % 65536).toInt32 = chx (HI h 30 (p + 2)) from rfl, q3, bI_ok]
  try dsimp only
  rw [ck_of q7.k9, r, bI_ok]
  try dsimp only
  rw [if_pos rfl]
  by_cases z : t = 0
  · subst z
    rw [if_pos (show nI 0 = (0 : Int32) from rfl), chz o3.1 o3.2, show (0 : Int32).toNatClampNeg = 0 from rfl]
    rw [q6 rfl, lgc, if_pos rfl]
    simp only [cond_true]
  · rw [if_neg (fun e => z ((nI_z q4).mp e))]
    simp only [cond_true]
theorem l1925 (W : LW N xs s y h) (hp : p + 2 < N) (hN : N ≤ 2560) : DN N xs s y p 1925 h u v := by
  have sc := W.sc
  obtain ⟨b, m, H, sv, oe, oq, x, n, L, K⟩ := W
  obtain ⟨t, w, h1, h3, q1, ⟨k9, s1, s2, s3⟩, q3, q4, q5, q6, q7⟩ := b293 K (chx (HI h 30 (p + 1))) (chx (HI h 30 (p + 2)))
  have o3 := q7.ou
  have r := r215 q7.k9 q5
  have g1 : (nI p + (1 : Int32)).toNatClampNeg = p + 1 := by rw [ad1, cl_nI (by omega)]
  have g2 : (nI p + (2 : Int32)).toNatClampNeg = p + 2 := by rw [ad2, cl_nI (by omega)]
  refine ⟨h3, .int (nI t), .int w, ?_, q7⟩
  rw [e343_1925]
  rw [chs (ad1 p) sc.1 sc.2 (by omega) hN, g1, chs (ad2 p) sc.1 sc.2 (by omega) hN, g2]
  rw [show ((HI h 30 (p + 1)).toUInt32 % 65536).toInt32 = chx (HI h 30 (p + 1)) from rfl, show ((HI h 30 (p + 2)).toUInt32 % 65536).toInt32 = chx (HI h 30 (p + 2)) from rfl, q1, bI_ok]
  try dsimp only
  rw [chs (ad1 p) s1 s2 (by omega) hN, s3 (p + 1), chs (ad2 p) s1 s2 (by omega) hN, s3 (p + 2)]
  rw [ck_of k9, show ((HI h 30 (p + 1)).toUInt32 % 65536).toInt32 = chx (HI h 30 (p + 1)) from rfl, show ((HI h 30 (p + 2)).toUInt32 % 65536).toInt32 = chx (HI h 30 (p + 2)) from rfl, q3, bI_ok]
  try dsimp only
  rw [ck_of q7.k9, r, bI_ok]
  try dsimp only
  rw [if_pos rfl]
  by_cases z : t = 0
  · subst z
    rw [if_pos (show nI 0 = (0 : Int32) from rfl), chz o3.1 o3.2, show (0 : Int32).toNatClampNeg = 0 from rfl]
    rw [q6 rfl, lgc, if_pos rfl]
    simp only [cond_true]
  · rw [if_neg (fun e => z ((nI_z q4).mp e))]
    simp only [cond_true]
theorem l1997 (W : LW N xs s y h) (hp : p + 3 < N) (hN : N ≤ 2560) : DN N xs s y p 1997 h u v := by
  have sc := W.sc
  obtain ⟨b, m, H, sv, oe, oq, x, n, L, K⟩ := W
  obtain ⟨t, w, h1, h3, q1, ⟨k9, s1, s2, s3⟩, q3, q4, q5, q6, q7⟩ := b199 K (chx (HI h 30 (p + 1))) (HI h 30 (p + 2)) (chx (HI h 30 (p + 3)))
  have o3 := q7.ou
  have r := r215 q7.k9 q5
  have g1 : (nI p + (1 : Int32)).toNatClampNeg = p + 1 := by rw [ad1, cl_nI (by omega)]
  have g2 : (nI p + (2 : Int32)).toNatClampNeg = p + 2 := by rw [ad2, cl_nI (by omega)]
  have g3 : (nI p + (3 : Int32)).toNatClampNeg = p + 3 := by rw [ad3, cl_nI (by omega)]
  refine ⟨h3, .int (nI t), .int w, ?_, q7⟩
  rw [e343_1997]
  rw [chs (ad1 p) sc.1 sc.2 (by omega) hN, g1, chs (ad2 p) sc.1 sc.2 (by omega) hN, g2, chs (ad3 p) sc.1 sc.2 (by omega) hN, g3]
  rw [show ((HI h 30 (p + 1)).toUInt32 % 65536).toInt32 = chx (HI h 30 (p + 1)) from rfl, show ((HI h 30 (p + 3)).toUInt32 % 65536).toInt32 = chx (HI h 30 (p + 3)) from rfl, q1, bI_ok]
  try dsimp only
  rw [chs (ad1 p) s1 s2 (by omega) hN, s3 (p + 1), chs (ad2 p) s1 s2 (by omega) hN, s3 (p + 2), chs (ad3 p) s1 s2 (by omega) hN, s3 (p + 3)]
  rw [ck_of k9, show ((HI h 30 (p + 1)).toUInt32 % 65536).toInt32 = chx (HI h 30 (p + 1)) from rfl, show ((HI h 30 (p + 3)).toUInt32 % 65536).toInt32 = chx (HI h 30 (p + 3)) from rfl, q3, bI_ok]
  try dsimp only
  rw [ck_of q7.k9, r, bI_ok]
  try dsimp only
  rw [if_pos rfl]
  by_cases z : t = 0
  · subst z
    rw [if_pos (show nI 0 = (0 : Int32) from rfl), chz o3.1 o3.2, show (0 : Int32).toNatClampNeg = 0 from rfl]
    rw [(q6 rfl).1]
    rcases (q6 rfl).2 with e | e
    · subst e
      rw [if_pos (show nI 0 = (0 : Int32) from rfl), show (nI 0).toInt64 = (0 : Int64) from rfl, lgc, if_pos rfl]
      simp only [cond_true]
    · subst e
      rw [if_neg (show ¬(nI 1 = (0 : Int32)) by decide), show (nI 1).toInt64 = (1 : Int64) from rfl, lgc, if_pos rfl]
      simp only [cond_true]
  · rw [if_neg (fun e => z ((nI_z q4).mp e))]
    simp only [cond_true]
theorem l2088 (W : LW N xs s y h) : DN N xs s y p 2088 h u v := by
  have k8 := W.k8
  obtain ⟨b, m, H, sv, oe, oq, x, n, L, K⟩ := W
  obtain ⟨w, h1, h3, q1, q2, q3, q4⟩ := a105 K
  refine ⟨h3, u, v, ?_, q4⟩
  rw [e343_2088, ck_of k8, q1, bI_ok]
  try dsimp only
  rw [ck_of q2, q3, bI_ok]
  try dsimp only
  rw [if_pos rfl]
  simp only [cond_true]
theorem l2101 (W : LW N xs s y h) : DN N xs s y p 2101 h u v := by
  have k8 := W.k8
  obtain ⟨b, m, H, sv, oe, oq, x, n, L, K⟩ := W
  obtain ⟨w, h1, h3, q1, q2, q3, q4⟩ := a108 K
  refine ⟨h3, u, v, ?_, q4⟩
  rw [e343_2101, ck_of k8, q1, bI_ok]
  try dsimp only
  rw [ck_of q2, q3, bI_ok]
  try dsimp only
  rw [if_pos rfl]
  simp only [cond_true]
theorem l2114 (W : LW N xs s y h) (hp : p + 2 < N) (hN : N ≤ 2560) : DN N xs s y p 2114 h u v := by
  have sc := W.sc
  obtain ⟨b, m, H, sv, oe, oq, x, n, L, K⟩ := W
  obtain ⟨t, w, h1, h3, q1, ⟨k9, s1, s2, s3⟩, q3, q4, q5, q6, q7⟩ := b197 K (chx (HI h 30 (p + 1))) (HI h 30 (p + 2))
  have o3 := q7.ou
  have r := r215 q7.k9 q5
  have g1 : (nI p + (1 : Int32)).toNatClampNeg = p + 1 := by rw [ad1, cl_nI (by omega)]
  have g2 : (nI p + (2 : Int32)).toNatClampNeg = p + 2 := by rw [ad2, cl_nI (by omega)]
  refine ⟨h3, .int (nI t), .int w, ?_, q7⟩
  rw [e343_2114]
  rw [chs (ad1 p) sc.1 sc.2 (by omega) hN, g1, chs (ad2 p) sc.1 sc.2 (by omega) hN, g2]
  rw [show ((HI h 30 (p + 1)).toUInt32 % 65536).toInt32 = chx (HI h 30 (p + 1)) from rfl, q1, bI_ok]
  try dsimp only
  rw [chs (ad1 p) s1 s2 (by omega) hN, s3 (p + 1), chs (ad2 p) s1 s2 (by omega) hN, s3 (p + 2)]
  rw [ck_of k9, show ((HI h 30 (p + 1)).toUInt32 % 65536).toInt32 = chx (HI h 30 (p + 1)) from rfl, q3, bI_ok]
  try dsimp only
  rw [ck_of q7.k9, r, bI_ok]
  try dsimp only
  rw [if_pos rfl]
  by_cases z : t = 0
  · subst z
    rw [if_pos (show nI 0 = (0 : Int32) from rfl), chz o3.1 o3.2, show (0 : Int32).toNatClampNeg = 0 from rfl]
    rw [q6 rfl, lgc, if_pos rfl]
    simp only [cond_true]
  · rw [if_neg (fun e => z ((nI_z q4).mp e))]
    simp only [cond_true]
theorem l2184 (W : LW N xs s y h) (hp : p + 1 < N) (hN : N ≤ 2560) : DN N xs s y p 2184 h u v := by
  have sc := W.sc
  obtain ⟨b, m, H, sv, oe, oq, x, n, L, K⟩ := W
  obtain ⟨t, w, h1, h3, q1, ⟨k9, s1, s2, s3⟩, q3, q4, q5, q6, q7⟩ := b302 K (chx (HI h 30 (p + 1)))
  have o3 := q7.ou
  have r := r215 q7.k9 q5
  have g1 : (nI p + (1 : Int32)).toNatClampNeg = p + 1 := by rw [ad1, cl_nI (by omega)]
  refine ⟨h3, .int (nI t), .int w, ?_, q7⟩
  rw [e343_2184]
  rw [chs (ad1 p) sc.1 sc.2 (by omega) hN, g1]
  rw [show ((HI h 30 (p + 1)).toUInt32 % 65536).toInt32 = chx (HI h 30 (p + 1)) from rfl, q1, bI_ok]
  try dsimp only
  rw [chs (ad1 p) s1 s2 (by omega) hN, s3 (p + 1)]
  rw [ck_of k9, show ((HI h 30 (p + 1)).toUInt32 % 65536).toInt32 = chx (HI h 30 (p + 1)) from rfl, q3, bI_ok]
  try dsimp only
  rw [ck_of q7.k9, r, bI_ok]
  try dsimp only
  rw [if_pos rfl]
  by_cases z : t = 0
  · subst z
    rw [if_pos (show nI 0 = (0 : Int32) from rfl), chz o3.1 o3.2, show (0 : Int32).toNatClampNeg = 0 from rfl]
    rw [q6 rfl, lgc, if_pos rfl]
    simp only [cond_true]
  · rw [if_neg (fun e => z ((nI_z q4).mp e))]
    simp only [cond_true]
theorem l2242 (W : LW N xs s y h) : DN N xs s y p 2242 h u v := by
  have k8 := W.k8
  obtain ⟨b, m, H, sv, oe, oq, x, n, L, K⟩ := W
  obtain ⟨w, h1, h3, q1, q2, q3, q4⟩ := a139 K
  refine ⟨h3, u, v, ?_, q4⟩
  rw [e343_2242, ck_of k8, q1, bI_ok]
  try dsimp only
  rw [ck_of q2, q3, bI_ok]
  try dsimp only
  rw [if_pos rfl]
  simp only [cond_true]
theorem l2255 (W : LW N xs s y h) : DN N xs s y p 2255 h u v := by
  have k8 := W.k8
  obtain ⟨b, m, H, sv, oe, oq, x, n, L, K⟩ := W
  obtain ⟨w, h1, h3, q1, q2, q3, q4⟩ := a68 K
  refine ⟨h3, u, v, ?_, q4⟩
  rw [e343_2255, ck_of k8, q1, bI_ok]
  try dsimp only
  rw [ck_of q2, q3, bI_ok]
  try dsimp only
  rw [if_pos rfl]
  simp only [cond_true]
theorem l2268 (W : LW N xs s y h) : DN N xs s y p 2268 h u v := by
  have k8 := W.k8
  obtain ⟨b, m, H, sv, oe, oq, x, n, L, K⟩ := W
  obtain ⟨w, h1, h3, q1, q2, q3, q4⟩ := a60 K
  refine ⟨h3, u, v, ?_, q4⟩
  rw [e343_2268, ck_of k8, q1, bI_ok]
  try dsimp only
  rw [ck_of q2, q3, bI_ok]
  try dsimp only
  rw [if_pos rfl]
  simp only [cond_true]
theorem l2281 (W : LW N xs s y h) : DN N xs s y p 2281 h u v := by
  have k8 := W.k8
  obtain ⟨b, m, H, sv, oe, oq, x, n, L, K⟩ := W
  obtain ⟨w, h1, h3, q1, q2, q3, q4⟩ := a140 K
  refine ⟨h3, u, v, ?_, q4⟩
  rw [e343_2281, ck_of k8, q1, bI_ok]
  try dsimp only
  rw [ck_of q2, q3, bI_ok]
  try dsimp only
  rw [if_pos rfl]
  simp only [cond_true]
theorem l2294 (W : LW N xs s y h) : DN N xs s y p 2294 h u v := by
  have k8 := W.k8
  obtain ⟨b, m, H, sv, oe, oq, x, n, L, K⟩ := W
  obtain ⟨w, h1, h3, q1, q2, q3, q4⟩ := a67 K
  refine ⟨h3, u, v, ?_, q4⟩
  rw [e343_2294, ck_of k8, q1, bI_ok]
  try dsimp only
  rw [ck_of q2, q3, bI_ok]
  try dsimp only
  rw [if_pos rfl]
  simp only [cond_true]
theorem l2307 (W : LW N xs s y h) : DN N xs s y p 2307 h u v := by
  have k8 := W.k8
  obtain ⟨b, m, H, sv, oe, oq, x, n, L, K⟩ := W
  obtain ⟨w, h1, h3, q1, q2, q3, q4⟩ := a56 K
  refine ⟨h3, u, v, ?_, q4⟩
  rw [e343_2307, ck_of k8, q1, bI_ok]
  try dsimp only
  rw [ck_of q2, q3, bI_ok]
  try dsimp only
  rw [if_pos rfl]
  simp only [cond_true]
theorem l2320 (W : LW N xs s y h) : DN N xs s y p 2320 h u v := by
  have k8 := W.k8
  obtain ⟨b, m, H, sv, oe, oq, x, n, L, K⟩ := W
  obtain ⟨w, h1, h3, q1, q2, q3, q4⟩ := a154 K
  refine ⟨h3, u, v, ?_, q4⟩
  rw [e343_2320, ck_of k8, q1, bI_ok]
  try dsimp only
  rw [ck_of q2, q3, bI_ok]
  try dsimp only
  rw [if_pos rfl]
  simp only [cond_true]
theorem l2333 (W : LW N xs s y h) : DN N xs s y p 2333 h u v := by
  have k8 := W.k8
  obtain ⟨b, m, H, sv, oe, oq, x, n, L, K⟩ := W
  obtain ⟨w, h1, h3, q1, q2, q3, q4⟩ := a177 K
  refine ⟨h3, u, v, ?_, q4⟩
  rw [e343_2333, ck_of k8, q1, bI_ok]
  try dsimp only
  rw [ck_of q2, q3, bI_ok]
  try dsimp only
  rw [if_pos rfl]
  simp only [cond_true]
theorem l2346 (W : LW N xs s y h) : DN N xs s y p 2346 h u v := by
  obtain ⟨b, m, H, sv, oe, oq, x, n, L, K⟩ := W
  obtain ⟨t, w, h1, h3, q1, k9, q3, q4, q5, q6, q7⟩ := d312 K
  have o3 := q7.od
  have r := r215 q7.k9 q5
  refine ⟨h3, .int (nI t), .double w, ?_, q7⟩
  rw [e343_2346]
  rw [q1, bI_ok]
  try dsimp only
  rw [ck_of k9, q3, bD_ok]
  try dsimp only
  rw [ck_of q7.k9, r, bI_ok]
  try dsimp only
  rw [if_pos rfl]
  by_cases z : t = 0
  · subst z
    rw [if_pos (show nI 0 = (0 : Int32) from rfl), chd o3.1 o3.2, show (0 : Int32).toNatClampNeg = 0 from rfl]
    rw [(q6 rfl).1, (q6 rfl).2, if_pos (show Op.cmpValue (some .eq) .l = 0 from rfl)]
    simp only [cond_true]
  · rw [if_neg (fun e => z ((nI_z q4).mp e))]
    simp only [cond_true]
theorem l2411 (W : LW N xs s y h) : DN N xs s y p 2411 h u v := by
  obtain ⟨b, m, H, sv, oe, oq, x, n, L, K⟩ := W
  obtain ⟨t, w, h1, h3, q1, k9, q3, q4, q5, q6, q7⟩ := f189 K
  have o3 := q7.od
  have r := r215 q7.k9 q5
  refine ⟨h3, .int (nI t), .float w, ?_, q7⟩
  rw [e343_2411]
  rw [q1, bI_ok]
  try dsimp only
  rw [ck_of k9, q3, bF_ok]
  try dsimp only
  rw [ck_of q7.k9, r, bI_ok]
  try dsimp only
  rw [if_pos rfl]
  by_cases z : t = 0
  · subst z
    rw [if_pos (show nI 0 = (0 : Int32) from rfl), chd o3.1 o3.2, show (0 : Int32).toNatClampNeg = 0 from rfl]
    rw [if_pos (q6 rfl).2.1, (q6 rfl).1, (q6 rfl).2.2, if_pos (show Op.cmpValue (some .eq) .l = 0 from rfl)]
    simp only [cond_true]
  · rw [if_neg (fun e => z ((nI_z q4).mp e))]
    simp only [cond_true]
theorem l2477 (W : LW N xs s y h) (hy : y + 6000 < 1000000000) : DN N xs s y p 2477 h u v := by
  have k8 := W.k8
  obtain ⟨b, m, H, sv, oe, oq, x, n, L, K⟩ := W
  obtain ⟨w, h1, h3, q1, q2, q3, q4⟩ := a123 K (by omega)
  refine ⟨h3, u, v, ?_, q4⟩
  rw [e343_2477, ck_of k8, q1, bI_ok]
  try dsimp only
  rw [ck_of q2, q3, bI_ok]
  try dsimp only
  rw [if_pos rfl]
  simp only [cond_true]
theorem l2490 (W : LW N xs s y h) (hp : p + 2 < N) (hN : N ≤ 2560) : DN N xs s y p 2490 h u v := by
  have sc := W.sc
  obtain ⟨b, m, H, sv, oe, oq, x, n, L, K⟩ := W
  obtain ⟨t, w, h1, h3, q1, ⟨k9, s1, s2, s3⟩, q3, q4, q5, q6, q7⟩ := b196 K (chx (HI h 30 (p + 1))) (HI h 30 (p + 2))
  have o3 := q7.ou
  have r := r215 q7.k9 q5
  have g1 : (nI p + (1 : Int32)).toNatClampNeg = p + 1 := by rw [ad1, cl_nI (by omega)]
  have g2 : (nI p + (2 : Int32)).toNatClampNeg = p + 2 := by rw [ad2, cl_nI (by omega)]
  refine ⟨h3, .int (nI t), .int w, ?_, q7⟩
  rw [e343_2490]
  rw [chs (ad1 p) sc.1 sc.2 (by omega) hN, g1, chs (ad2 p) sc.1 sc.2 (by omega) hN, g2]
  rw [show ((HI h 30 (p + 1)).toUInt32 % 65536).toInt32 = chx (HI h 30 (p + 1)) from rfl, q1, bI_ok]
  try dsimp only
  rw [chs (ad1 p) s1 s2 (by omega) hN, s3 (p + 1), chs (ad2 p) s1 s2 (by omega) hN, s3 (p + 2)]
  rw [ck_of k9, show ((HI h 30 (p + 1)).toUInt32 % 65536).toInt32 = chx (HI h 30 (p + 1)) from rfl, q3, bI_ok]
  try dsimp only
  rw [ck_of q7.k9, r, bI_ok]
  try dsimp only
  rw [if_pos rfl]
  by_cases z : t = 0
  · subst z
    rw [if_pos (show nI 0 = (0 : Int32) from rfl), chz o3.1 o3.2, show (0 : Int32).toNatClampNeg = 0 from rfl]
    rw [q6 rfl, lgc, if_pos rfl]
    simp only [cond_true]
  · rw [if_neg (fun e => z ((nI_z q4).mp e))]
    simp only [cond_true]
theorem l2560 (W : LW N xs s y h) (hp : p + 1 < N) (hN : N ≤ 2560) : DN N xs s y p 2560 h u v := by
  have sc := W.sc
  obtain ⟨b, m, H, sv, oe, oq, x, n, L, K⟩ := W
  obtain ⟨t, w, h1, h3, q1, ⟨k9, s1, s2, s3⟩, q3, q4, q5, q6, q7⟩ := b195 K (HI h 30 (p + 1))
  have o3 := q7.ou
  have r := r215 q7.k9 q5
  have g1 : (nI p + (1 : Int32)).toNatClampNeg = p + 1 := by rw [ad1, cl_nI (by omega)]
  refine ⟨h3, .int (nI t), .int w, ?_, q7⟩
  rw [e343_2560]
  rw [chs (ad1 p) sc.1 sc.2 (by omega) hN, g1]
  rw [q1, bI_ok]
  try dsimp only
  rw [chs (ad1 p) s1 s2 (by omega) hN, s3 (p + 1)]
  rw [ck_of k9, q3, bI_ok]
  try dsimp only
  rw [ck_of q7.k9, r, bI_ok]
  try dsimp only
  rw [if_pos rfl]
  by_cases z : t = 0
  · subst z
    rw [if_pos (show nI 0 = (0 : Int32) from rfl), chz o3.1 o3.2, show (0 : Int32).toNatClampNeg = 0 from rfl]
    rw [q6 rfl, lgc, if_pos rfl]
    simp only [cond_true]
  · rw [if_neg (fun e => z ((nI_z q4).mp e))]
    simp only [cond_true]
theorem l2616 (W : LW N xs s y h) : DN N xs s y p 2616 h u v := by
  have k8 := W.k8
  obtain ⟨b, m, H, sv, oe, oq, x, n, L, K⟩ := W
  obtain ⟨w, h1, h3, q1, q2, q3, q4⟩ := a89 K
  refine ⟨h3, u, v, ?_, q4⟩
  rw [e343_2616, ck_of k8, q1, bI_ok]
  try dsimp only
  rw [ck_of q2, q3, bI_ok]
  try dsimp only
  rw [if_pos rfl]
  simp only [cond_true]
theorem l2629 (W : LW N xs s y h) (hp : p + 1 < N) (hN : N ≤ 2560) : DN N xs s y p 2629 h u v := by
  have sc := W.sc
  obtain ⟨b, m, H, sv, oe, oq, x, n, L, K⟩ := W
  obtain ⟨t, w, h1, h3, q1, ⟨k9, s1, s2, s3⟩, q3, q4, q5, q6, q7⟩ := b322 K (HI h 30 (p + 1))
  have o3 := q7.ou
  have r := r215 q7.k9 q5
  have g1 : (nI p + (1 : Int32)).toNatClampNeg = p + 1 := by rw [ad1, cl_nI (by omega)]
  refine ⟨h3, .int (nI t), .int w, ?_, q7⟩
  rw [e343_2629]
  rw [chs (ad1 p) sc.1 sc.2 (by omega) hN, g1]
  rw [q1, bI_ok]
  try dsimp only
  rw [chs (ad1 p) s1 s2 (by omega) hN, s3 (p + 1)]
  rw [ck_of k9, q3, bI_ok]
  try dsimp only
  rw [ck_of q7.k9, r, bI_ok]
  try dsimp only
  rw [if_pos rfl]
  by_cases z : t = 0
  · subst z
    rw [if_pos (show nI 0 = (0 : Int32) from rfl), chz o3.1 o3.2, show (0 : Int32).toNatClampNeg = 0 from rfl]
    rw [q6 rfl, lgc, if_pos rfl]
    simp only [cond_true]
  · rw [if_neg (fun e => z ((nI_z q4).mp e))]
    simp only [cond_true]
theorem l2685 (W : LW N xs s y h) (hp : p + 1 < N) (hN : N ≤ 2560) : DN N xs s y p 2685 h u v := by
  have sc := W.sc
  obtain ⟨b, m, H, sv, oe, oq, x, n, L, K⟩ := W
  obtain ⟨t, w, h1, h3, q1, ⟨k9, s1, s2, s3⟩, q3, q4, q5, q6, q7⟩ := b187 K (chx (HI h 30 (p + 1)))
  have o3 := q7.ou
  have r := r215 q7.k9 q5
  have g1 : (nI p + (1 : Int32)).toNatClampNeg = p + 1 := by rw [ad1, cl_nI (by omega)]
  refine ⟨h3, .int (nI t), .int w, ?_, q7⟩
  rw [e343_2685]
  rw [chs (ad1 p) sc.1 sc.2 (by omega) hN, g1]
  rw [show ((HI h 30 (p + 1)).toUInt32 % 65536).toInt32 = chx (HI h 30 (p + 1)) from rfl, q1, bI_ok]
  try dsimp only
  rw [chs (ad1 p) s1 s2 (by omega) hN, s3 (p + 1)]
  rw [ck_of k9, show ((HI h 30 (p + 1)).toUInt32 % 65536).toInt32 = chx (HI h 30 (p + 1)) from rfl, q3, bI_ok]
  try dsimp only
  rw [ck_of q7.k9, r, bI_ok]
  try dsimp only
  rw [if_pos rfl]
  by_cases z : t = 0
  · subst z
    rw [if_pos (show nI 0 = (0 : Int32) from rfl), chz o3.1 o3.2, show (0 : Int32).toNatClampNeg = 0 from rfl]
    rw [q6 rfl, lgc, if_pos rfl]
    simp only [cond_true]
  · rw [if_neg (fun e => z ((nI_z q4).mp e))]
    simp only [cond_true]
theorem l2743 (W : LW N xs s y h) (hy : y + 6000 < 1000000000) : DN N xs s y p 2743 h u v := by
  have sc := W.sc
  obtain ⟨b, m, H, sv, oe, oq, x, n, L, K⟩ := W
  obtain ⟨t, w, h1, h3, q1, ⟨k9, s1, s2, s3⟩, q3, q4, q5, q6, q7⟩ := b325 K hy
  have o3 := q7.ou
  have r := r215 q7.k9 q5
  refine ⟨h3, .int (nI t), .int w, ?_, q7⟩
  rw [e343_2743]
  rw [q1, bI_ok]
  try dsimp only
  rw [ck_of k9, q3, bI_ok]
  try dsimp only
  rw [ck_of q7.k9, r, bI_ok]
  try dsimp only
  rw [if_pos rfl]
  by_cases z : t = 0
  · subst z
    rw [if_pos (show nI 0 = (0 : Int32) from rfl), chz o3.1 o3.2, show (0 : Int32).toNatClampNeg = 0 from rfl]
    rw [q6 rfl, lgc, if_pos rfl]
    simp only [cond_true]
  · rw [if_neg (fun e => z ((nI_z q4).mp e))]
    simp only [cond_true]
theorem l2787 (W : LW N xs s y h) : DN N xs s y p 2787 h u v := by
  have sc := W.sc
  obtain ⟨b, m, H, sv, oe, oq, x, n, L, K⟩ := W
  obtain ⟨t, w, h1, h3, q1, ⟨k9, s1, s2, s3⟩, q3, q4, q5, q6, q7⟩ := b193 K
  have o3 := q7.ou
  have r := r215 q7.k9 q5
  refine ⟨h3, .int (nI t), .int w, ?_, q7⟩
  rw [e343_2787]
  rw [q1, bI_ok]
  try dsimp only
  rw [ck_of k9, q3, bI_ok]
  try dsimp only
  rw [ck_of q7.k9, r, bI_ok]
  try dsimp only
  rw [if_pos rfl]
  by_cases z : t = 0
  · subst z
    rw [if_pos (show nI 0 = (0 : Int32) from rfl), chz o3.1 o3.2, show (0 : Int32).toNatClampNeg = 0 from rfl]
    rw [q6 rfl, lgc, if_pos rfl]
    simp only [cond_true]
  · rw [if_neg (fun e => z ((nI_z q4).mp e))]
    simp only [cond_true]
theorem l2831 (W : LW N xs s y h) : DN N xs s y p 2831 h u v := by
  have sc := W.sc
  obtain ⟨b, m, H, sv, oe, oq, x, n, L, K⟩ := W
  obtain ⟨t, w, h1, h3, q1, ⟨k9, s1, s2, s3⟩, q3, q4, q5, q6, q7⟩ := b194 K
  have o3 := q7.ou
  have r := r215 q7.k9 q5
  refine ⟨h3, .int (nI t), .int w, ?_, q7⟩
  rw [e343_2831]
  rw [q1, bI_ok]
  try dsimp only
  rw [ck_of k9, q3, bI_ok]
  try dsimp only
  rw [ck_of q7.k9, r, bI_ok]
  try dsimp only
  rw [if_pos rfl]
  by_cases z : t = 0
  · subst z
    rw [if_pos (show nI 0 = (0 : Int32) from rfl), chz o3.1 o3.2, show (0 : Int32).toNatClampNeg = 0 from rfl]
    rw [q6 rfl, lgc, if_pos rfl]
    simp only [cond_true]
  · rw [if_neg (fun e => z ((nI_z q4).mp e))]
    simp only [cond_true]
theorem l2875 (W : LW N xs s y h) : DN N xs s y p 2875 h u v := by
  have k8 := W.k8
  obtain ⟨b, m, H, sv, oe, oq, x, n, L, K⟩ := W
  obtain ⟨w, h1, h3, q1, q2, q3, q4⟩ := a183 K
  refine ⟨h3, u, v, ?_, q4⟩
  rw [e343_2875, ck_of k8, q1, bI_ok]
  try dsimp only
  rw [ck_of q2, q3, bI_ok]
  try dsimp only
  rw [if_pos rfl]
  simp only [cond_true]
theorem l2888 (W : LW N xs s y h) : DN N xs s y p 2888 h u v := by
  have sc := W.sc
  obtain ⟨b, m, H, sv, oe, oq, x, n, L, K⟩ := W
  obtain ⟨t, w, h1, h3, q1, ⟨k9, s1, s2, s3⟩, q3, q4, q5, q6, q7⟩ := b338 K
  have o3 := q7.ou
  have r := r215 q7.k9 q5
  refine ⟨h3, .int (nI t), .int w, ?_, q7⟩
  rw [e343_2888]
  rw [q1, bI_ok]
  try dsimp only
  rw [ck_of k9, q3, bI_ok]
  try dsimp only
  rw [ck_of q7.k9, r, bI_ok]
  try dsimp only
  rw [if_pos rfl]
  by_cases z : t = 0
  · subst z
    rw [if_pos (show nI 0 = (0 : Int32) from rfl), chz o3.1 o3.2, show (0 : Int32).toNatClampNeg = 0 from rfl]
    rw [q6 rfl, lgc, if_pos rfl]
    simp only [cond_true]
  · rw [if_neg (fun e => z ((nI_z q4).mp e))]
    simp only [cond_true]
theorem l2932 (W : LW N xs s y h) : DN N xs s y p 2932 h u v := by
  have k8 := W.k8
  obtain ⟨b, m, H, sv, oe, oq, x, n, L, K⟩ := W
  obtain ⟨w, h1, h3, q1, q2, q3, q4⟩ := a175 K
  refine ⟨h3, u, v, ?_, q4⟩
  rw [e343_2932, ck_of k8, q1, bI_ok]
  try dsimp only
  rw [ck_of q2, q3, bI_ok]
  try dsimp only
  rw [if_pos rfl]
  simp only [cond_true]
theorem l2945 (W : LW N xs s y h) : DN N xs s y p 2945 h u v := by
  have sc := W.sc
  obtain ⟨b, m, H, sv, oe, oq, x, n, L, K⟩ := W
  obtain ⟨t, w, h1, h3, q1, ⟨k9, s1, s2, s3⟩, q3, q4, q5, q6, q7⟩ := b341 K
  have o3 := q7.ou
  have r := r215 q7.k9 q5
  refine ⟨h3, .int (nI t), .int w, ?_, q7⟩
  rw [e343_2945]
  rw [q1, bI_ok]
  try dsimp only
  rw [ck_of k9, q3, bI_ok]
  try dsimp only
  rw [ck_of q7.k9, r, bI_ok]
  try dsimp only
  rw [if_pos rfl]
  by_cases z : t = 0
  · subst z
    rw [if_pos (show nI 0 = (0 : Int32) from rfl), chz o3.1 o3.2, show (0 : Int32).toNatClampNeg = 0 from rfl]
    rw [q6 rfl, lgc, if_pos rfl]
    simp only [cond_true]
  · rw [if_neg (fun e => z ((nI_z q4).mp e))]
    simp only [cond_true]
end LC
