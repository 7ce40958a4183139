/-! THE OBJECTS MADE: a table, a batch -/
/-- n new cells; of the old ones at most t has changed -/
def Nw (h h' : Hp) (t n s : Nat) : Prop := HN h' = HN h + n ∧ HC h' = HC h + n ∧ HS h' = HS h + s ∧ ∀ a, a < HN h → h'.2.1 a = h.2.1 a ∧ (a ≠ t → ∀ k, HI h' a k = HI h a k ∧ HR h' a k = HR h a k)
theorem HN_sR (h : Hp) (a k v : Nat) : HN (sR h a k v) = HN h := rfl
theorem HN_sI (h : Hp) (a k : Nat) (v : Int32) : HN (sI h a k v) = HN h := rfl
theorem HN_hnew (h : Hp) (k l : Nat) : HN (hnew h k l) = HN h + 1 := rfl
theorem HN_hnew2 (h : Hp) (n m : Nat) : HN (hnew2 h n m) = HN h + (1 + n) := rfl
theorem ckK_sR (h : Hp) (a k v b x : Nat) : ckK (sR h a k v) b x = ckK h b x := rfl
theorem ckK_sI (h : Hp) (a k : Nat) (v : Int32) (b x : Nat) : ckK (sI h a k v) b x = ckK h b x := rfl
theorem ckK_hnew (h : Hp) {k l b x : Nat} (q : b < HN h) : ckK (hnew h k l) b x = ckK h b x := by
  unfold ckK HK
  rw [hnew_k h k l b (by omega)]
theorem hnew2_k (h : Hp) {n m a : Nat} (q : a < HN h) : (hnew2 h n m).2.1 a = h.2.1 a := by
  show (if a = HN h then (106, n) else if HN h < a ∧ a ≤ HN h + n then (100, m) else h.2.1 a) = h.2.1 a
  rw [if_neg (by omega), if_neg (by omega)]
theorem ckK_hnew2 (h : Hp) {n m b x : Nat} (q : b < HN h) : ckK (hnew2 h n m) b x = ckK h b x := by
  unfold ckK HK
  rw [hnew2_k h q]
theorem ini_ok {h : Hp} {t x : Nat} (hk : HK h t = x) (h0 : 0 < x) : (Nat.blt 0 (HK h t) && Nat.ble (wgt []) 8) = true := by
  rw [hk, Bool.and_eq_true]
  exact ⟨Nat.ble_eq.mpr h0, rfl⟩
def mkT (h : Hp) (t : Nat) : Hp := sI (sI (sR (hnew2 (sR (hnew2 (sR (hnew h 100 30) t 0 (t + 1)) 3 30) t 1 (t + 2)) 3 30) t 2 (t + 6)) t 3 (nI 0)) t 4 (nI 0)
theorem mkT_ok {h : Hp} {t : Nat} (hk : HK h t = 5) (hN : HN h = t + 1) : CL 0 [.ref t] h = some (.ok .null, mkT h t) := by
  have hck := ck_of hk
  have s1 : (decide ((0 : Int32) ≤ (30 : Int32)) && decide ((30 : Int32) ≤ 100000)) = true := by decide
  have s2 : (decide ((0 : Int32) ≤ (3 : Int32)) && decide ((3 : Int32) ≤ 100) && decide ((0 : Int32) ≤ (30 : Int32)) && decide ((30 : Int32) ≤ 100)) = true := by decide
  have n30 : (30 : Int32).toNatClampNeg = 30 := by decide
  have n3 : (3 : Int32).toNatClampNeg = 3 := by decide
  have l1 : t < HN h := by omega
  have l2 : t < HN (sR (hnew h 100 30) t 0 (t + 1)) := by
    rw [HN_sR, HN_hnew]
    omega
  have l3 : t < HN (sR (hnew2 (sR (hnew h 100 30) t 0 (t + 1)) 3 30) t 1 (t + 2)) := by
    rw [HN_sR, HN_hnew2, HN_sR, HN_hnew]
    omega
  rw [e0, ini_ok hk (by decide)]
  simp only [s1, s2, n30, n3, cond_true, hN, HN_sR, HN_hnew, HN_hnew2, ckK_sR, ckK_sI, ckK_hnew h l1, ckK_hnew2 _ l2, ckK_hnew2 _ l3, hck]
  simp only [lz0, mkT]
theorem mkT_k {h : Hp} {t : Nat} (hN : HN h = t + 1) (a : Nat) : (mkT h t).2.1 a = if a = t + 6 ∨ a = t + 2 then (106, 3) else if t < a ∧ a < t + 10 then (100, 30) else h.2.1 a := by
  have hN' : h.1.1 = t + 1 := hN
  unfold mkT
  simp only [sI, sR, hnew2, hnew, HN, HI, HR, hN']
  repeat' split
  all_goals first | rfl | omega
theorem mkT_i {h : Hp} {t : Nat} (hN : HN h = t + 1) (a k : Nat) : HI (mkT h t) a k = if (t < a ∧ a < t + 10) ∨ (a = t ∧ (k = 3 ∨ k = 4)) then nI 0 else HI h a k := by
  have hN' : h.1.1 = t + 1 := hN
  unfold mkT
  simp only [sI, sR, hnew2, hnew, HN, HI, HR, u2, u1, hN']
  repeat' split
  all_goals first | rfl | omega
theorem mkT_r {h : Hp} {t : Nat} (hN : HN h = t + 1) (a k : Nat) : HR (mkT h t) a k = if a = t ∧ k = 0 then t + 1 else if a = t ∧ k = 1 then t + 2 else if a = t ∧ k = 2 then t + 6 else if (a = t + 2 ∨ a = t + 6) ∧ k < 3 then a + 1 + k else if t < a ∧ a < t + 10 then 0 else HR h a k := by
  have hN' : h.1.1 = t + 1 := hN
  unfold mkT
  simp only [sI, sR, hnew2, hnew, HN, HI, HR, u2, u1, hN']
  repeat' split
  all_goals first | rfl | omega
theorem mkT_w {h : Hp} {t : Nat} (hN : HN h = t + 1) : Nw h (mkT h t) t 9 216 := by
  refine ⟨?_, ?_, ?_, fun a ha => ⟨?_, fun hat k => ⟨?_, ?_⟩⟩⟩
  · rfl
  · rfl
  · rfl
  · rw [mkT_k hN, if_neg (by omega), if_neg (by omega)]
  · rw [mkT_i hN, if_neg (by omega)]
  · rw [mkT_r hN, if_neg (by omega), if_neg (by omega), if_neg (by omega), if_neg (by omega), if_neg (by omega)]
theorem mkT_S {h : Hp} {t : Nat} (hk : HK h t = 5) (hN : HN h = t + 1) : TbS (mkT h t) t := by
  have k : ∀ a, (mkT h t).2.1 a = _ := mkT_k hN
  have r : ∀ a i, HR (mkT h t) a i = _ := mkT_r hN
  have kk : ∀ a, t < a → a < t + 10 → a ≠ t + 6 → a ≠ t + 2 → HK (mkT h t) a = 100 ∧ HL (mkT h t) a = 30 := fun a h1 h2 h3 h4 => by
    unfold HK HL
    rw [k a, if_neg (by omega), if_pos ⟨h1, h2⟩]
    exact ⟨rfl, rfl⟩
  have k6 : ∀ a, a = t + 6 ∨ a = t + 2 → HK (mkT h t) a = 106 ∧ HL (mkT h t) a = 3 := fun a h1 => by
    unfold HK HL
    rw [k a, if_pos h1]
    exact ⟨rfl, rfl⟩
  refine ⟨?_, ?_, ?_, ?_, kk _ (by omega) (by omega) (by omega) (by omega), k6 _ (by omega), k6 _ (by omega), fun s hs => ⟨?_, ?_, kk _ (by omega) (by omega) (by omega) (by omega), kk _ (by omega) (by omega) (by omega) (by omega)⟩⟩
  · unfold HK
    rw [k t, if_neg (by omega), if_neg (by omega)]
    exact hk
  · rw [r, if_pos (by omega)]
  · rw [r, if_neg (by omega), if_pos (by omega)]
  · rw [r, if_neg (by omega), if_neg (by omega), if_pos (by omega)]
  · rw [r, if_neg (by omega), if_neg (by omega), if_neg (by omega), if_pos (by omega)]
  · rw [r, if_neg (by omega), if_neg (by omega), if_neg (by omega), if_pos (by omega)]
def mkB (h : Hp) (t : Nat) : Hp := sI (sR (hnew (sR (hnew (sR (hnew h 100 12) t 0 (t + 1)) 100 12) t 1 (t + 2)) 100 12) t 2 (t + 3)) t 3 (nI 0)
theorem s12 : (decide ((0 : Int32) ≤ (12 : Int32)) && decide ((12 : Int32) ≤ 100000)) = true := by decide
theorem n12 : (12 : Int32).toNatClampNeg = 12 := by decide
theorem mkB_ok {h : Hp} {t : Nat} (hk : HK h t = 1) (hN : HN h = t + 1) : CL 1 [.ref t] h = some (.ok .null, mkB h t) := by
  have hck := ck_of hk
  have l1 : t < HN h := by omega
  have e2' : HN (sR (hnew h 100 12) t 0 (t + 1)) = t + 2 := by
    rw [HN_sR, HN_hnew]
    omega
  have e3' : HN (sR (hnew (sR (hnew h 100 12) t 0 (t + 1)) 100 12) t 1 (t + 2)) = t + 3 := by
    rw [HN_sR, HN_hnew, e2']
  have l2 : t < HN (sR (hnew h 100 12) t 0 (t + 1)) := by omega
  have l3 : t < HN (sR (hnew (sR (hnew h 100 12) t 0 (t + 1)) 100 12) t 1 (t + 2)) := by omega
  rw [e1, ini_ok hk (by decide)]
  dsimp only
  rw [s12, n12, hN, e2', e3', ckK_hnew h l1, hck, ckK_hnew _ l2, ckK_hnew _ l3, ckK_sR, ckK_sR, ckK_sR, ckK_hnew h l1]
  simp only [cond_true, ckK_sR, ckK_sI, ckK_hnew _ l3, ckK_hnew _ l2, ckK_hnew h l1, hck, lz0, mkB]
theorem mkB_k {h : Hp} {t : Nat} (hN : HN h = t + 1) (a : Nat) : (mkB h t).2.1 a = if t < a ∧ a < t + 4 then (100, 12) else h.2.1 a := by
  have hN' : h.1.1 = t + 1 := hN
  unfold mkB
  simp only [sI, sR, hnew, HN, HI, HR, hN']
  repeat' split
  all_goals first | rfl | omega
theorem mkB_i {h : Hp} {t : Nat} (hN : HN h = t + 1) (a k : Nat) : HI (mkB h t) a k = if (t < a ∧ a < t + 4) ∨ (a = t ∧ k = 3) then nI 0 else HI h a k := by
  have hN' : h.1.1 = t + 1 := hN
  unfold mkB
  simp only [sI, sR, hnew, HN, HI, HR, u2, u1, hN']
  repeat' split
  all_goals first | rfl | omega
theorem mkB_r {h : Hp} {t : Nat} (hN : HN h = t + 1) (a k : Nat) : HR (mkB h t) a k = if a = t ∧ k < 3 then t + 1 + k else if t < a ∧ a < t + 4 then 0 else HR h a k := by
  have hN' : h.1.1 = t + 1 := hN
  unfold mkB
  simp only [sI, sR, hnew, HN, HI, HR, u2, u1, hN']
  repeat' split
  all_goals first | rfl | omega
theorem mkB_w {h : Hp} {t : Nat} (hN : HN h = t + 1) : Nw h (mkB h t) t 3 36 := by
  refine ⟨rfl, rfl, rfl, fun a ha => ⟨?_, fun hat k => ⟨?_, ?_⟩⟩⟩
  · rw [mkB_k hN, if_neg (by omega)]
  · rw [mkB_i hN, if_neg (by omega)]
  · rw [mkB_r hN, if_neg (by omega), if_neg (by omega)]
theorem mkB_S {h : Hp} {t : Nat} (hk : HK h t = 1) (hN : HN h = t + 1) : BtS (mkB h t) t := by
  have kk : ∀ a, t < a → a < t + 4 → HK (mkB h t) a = 100 ∧ HL (mkB h t) a = 12 := fun a h1 h2 => by
    unfold HK HL
    rw [mkB_k hN a, if_pos ⟨h1, h2⟩]
    exact ⟨rfl, rfl⟩
  have r : ∀ k, k < 3 → HR (mkB h t) t k = t + 1 + k := fun k hk => by rw [mkB_r hN, if_pos ⟨rfl, hk⟩]
  refine ⟨?_, r 0 (by decide), r 1 (by decide), r 2 (by decide), kk _ (by omega) (by omega), kk _ (by omega) (by omega), kk _ (by omega) (by omega)⟩
  unfold HK
  rw [mkB_k hN t, if_neg (by omega)]
  exact hk

