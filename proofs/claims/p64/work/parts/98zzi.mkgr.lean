/-! THE OBJECTS MADE: the groups -/
def mkG (h : Hp) (t : Nat) : Hp := sI (sR (hnew (sR (hnew (sR (hnew h 100 30) t 0 (t + 1)) 100 30) t 1 (t + 2)) 100 30) t 2 (t + 3)) t 3 (nI 0)
theorem mkG_ok {h : Hp} {t : Nat} (hk : HK h t = 3) (hN : HN h = t + 1) : CL 6 [.ref t] h = some (.ok .null, mkG h t) := by
  have hck := ck_of hk
  have l1 : t < HN h := by omega
  have e2' : HN (sR (hnew h 100 30) t 0 (t + 1)) = t + 2 := by
    rw [HN_sR, HN_hnew]
    omega
  have e3' : HN (sR (hnew (sR (hnew h 100 30) t 0 (t + 1)) 100 30) t 1 (t + 2)) = t + 3 := by
    rw [HN_sR, HN_hnew, e2']
  have l2 : t < HN (sR (hnew h 100 30) t 0 (t + 1)) := by omega
  have l3 : t < HN (sR (hnew (sR (hnew h 100 30) t 0 (t + 1)) 100 30) t 1 (t + 2)) := by omega
  rw [e6, ini_ok hk (by decide)]
  dsimp only
  rw [sz30, nz30, hN, e2', e3', ckK_hnew h l1, hck, ckK_hnew _ l2, ckK_hnew _ l3, ckK_sR, ckK_sR, ckK_sR, ckK_hnew h l1]
  simp only [cond_true, ckK_sR, ckK_sI, ckK_hnew _ l3, ckK_hnew _ l2, ckK_hnew h l1, hck, lz0, mkG]
theorem mkG_k {h : Hp} {t : Nat} (hN : HN h = t + 1) (a : Nat) : (mkG h t).2.1 a = if t < a ∧ a < t + 4 then (100, 30) else h.2.1 a := by
  have hN' : h.1.1 = t + 1 := hN
  unfold mkG
  simp only [sI, sR, hnew, HN, HI, HR, hN']
  repeat' split
  all_goals first | rfl | omega
theorem mkG_i {h : Hp} {t : Nat} (hN : HN h = t + 1) (a k : Nat) : HI (mkG h t) a k = if (t < a ∧ a < t + 4) ∨ (a = t ∧ k = 3) then nI 0 else HI h a k := by
  have hN' : h.1.1 = t + 1 := hN
  unfold mkG
  simp only [sI, sR, hnew, HN, HI, HR, u2, u1, hN']
  repeat' split
  all_goals first | rfl | omega
theorem mkG_r {h : Hp} {t : Nat} (hN : HN h = t + 1) (a k : Nat) : HR (mkG h t) a k = if a = t ∧ k < 3 then t + 1 + k else if t < a ∧ a < t + 4 then 0 else HR h a k := by
  have hN' : h.1.1 = t + 1 := hN
  unfold mkG
  simp only [sI, sR, hnew, HN, HI, HR, u2, u1, hN']
  repeat' split
  all_goals first | rfl | omega
theorem mkG_w {h : Hp} {t : Nat} (hN : HN h = t + 1) : Nw h (mkG h t) t 3 90 := by
  refine ⟨rfl, rfl, rfl, fun a ha => ⟨?_, fun hat k => ⟨?_, ?_⟩⟩⟩
  · rw [mkG_k hN, if_neg (by omega)]
  · rw [mkG_i hN, if_neg (by omega)]
  · rw [mkG_r hN, if_neg (by omega), if_neg (by omega)]
theorem mkG_S {h : Hp} {t : Nat} (hk : HK h t = 3) (hN : HN h = t + 1) : HK (mkG h t) t = 3 ∧ (∀ k, k < 3 → HR (mkG h t) t k = t + 1 + k) ∧ ∀ i, i < 3 → HK (mkG h t) (t + 1 + i) = 100 ∧ HL (mkG h t) (t + 1 + i) = 30 := by
  refine ⟨?_, fun k hk => by rw [mkG_r hN, if_pos ⟨rfl, hk⟩], fun i hi => ?_⟩
  · unfold HK
    rw [mkG_k hN t, if_neg (by omega)]
    exact hk
  · unfold HK HL
    rw [mkG_k hN (t + 1 + i), if_pos (by omega)]
    exact ⟨rfl, rfl⟩

