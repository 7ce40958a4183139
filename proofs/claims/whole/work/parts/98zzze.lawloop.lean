/-! THE LAW: its loop -/
section LL
variable {N : Nat} {xs : Nat → Int32} {s y p : Nat} {h : Hp} {u v : Value}
theorem LWc.up {b : Bk} {m : Nat} {H : HF} {sv : Option Bk} {oe oq : Option Nat} {x : Nat → Nat} {n : Nat} {L : List Nat} (K : LWc N xs s y h b m H sv oe oq x n L) : LWc N xs (s + 1) (y + 6000) h b m H sv oe oq x n L := by
  obtain ⟨k1, k2, k3, k4, ⟨c, A, s1, s2, s3⟩, k6⟩ := K
  exact ⟨k1, k2, k3, k4, ⟨c, A, s1, by omega, by omega⟩, k6.up (by omega)⟩
theorem LW.up (W : LW N xs s y h) : LW N xs (s + 1) (y + 6000) h := by
  obtain ⟨b, m, H, sv, oe, oq, x, n, L, K⟩ := W
  exact ⟨b, m, H, sv, oe, oq, x, n, L, K.up⟩
theorem sw_ok (W : LW N xs s y h) (hy : y + 6000 < 1000000000) (hp : p + 4 < N) (hN : N ≤ 2560) : ∀ j : Nat, j ≤ 60 → DN N xs s y p (tsel [304, 386, 468, 512, 525, 595, 665, 721, 734, 747, 803, 859, 915, 971, 984, 997, 1055, 1132, 1202, 1272, 1342, 1400, 1456, 1469, 1482, 1495, 1551, 1607, 1620, 1678, 1781, 1853, 1925, 1997, 2088, 2101, 2114, 2184, 2242, 2255, 2268, 2281, 2294, 2307, 2320, 2333, 2346, 2411, 2477, 2490, 2560, 2616, 2629, 2685, 2743, 2787, 2831, 2875, 2888, 2932, 2945] j 2989).toNat h u v
  | 0, _ => show DN N xs s y p 304 h u v from l304 W hy (by omega) hN
  | 1, _ => show DN N xs s y p 386 h u v from l386 W hy (by omega) hN
  | 2, _ => show DN N xs s y p 468 h u v from l468 W hy
  | 3, _ => show DN N xs s y p 512 h u v from l512 W hy
  | 4, _ => show DN N xs s y p 525 h u v from l525 W hy (by omega) hN
  | 5, _ => show DN N xs s y p 595 h u v from l595 W hy (by omega) hN
  | 6, _ => show DN N xs s y p 665 h u v from l665 W hy (by omega) hN
  | 7, _ => show DN N xs s y p 721 h u v from l721 W
  | 8, _ => show DN N xs s y p 734 h u v from l734 W
  | 9, _ => show DN N xs s y p 747 h u v from l747 W (by omega) hN
  | 10, _ => show DN N xs s y p 803 h u v from l803 W (by omega) hN
  | 11, _ => show DN N xs s y p 859 h u v from l859 W (by omega) hN
  | 12, _ => show DN N xs s y p 915 h u v from l915 W (by omega) hN
  | 13, _ => show DN N xs s y p 971 h u v from l971 W
  | 14, _ => show DN N xs s y p 984 h u v from l984 W
  | 15, _ => show DN N xs s y p 997 h u v from l997 W (by omega) hN
  | 16, _ => show DN N xs s y p 1055 h u v from l1055 W (by omega) hN
  | 17, _ => show DN N xs s y p 1132 h u v from l1132 W (by omega) hN
  | 18, _ => show DN N xs s y p 1202 h u v from l1202 W (by omega) hN
  | 19, _ => show DN N xs s y p 1272 h u v from l1272 W (by omega) hN
  | 20, _ => show DN N xs s y p 1342 h u v from l1342 W (by omega) hN
  | 21, _ => show DN N xs s y p 1400 h u v from l1400 W (by omega) hN
  | 22, _ => show DN N xs s y p 1456 h u v from l1456 W
  | 23, _ => show DN N xs s y p 1469 h u v from l1469 W
  | 24, _ => show DN N xs s y p 1482 h u v from l1482 W
  | 25, _ => show DN N xs s y p 1495 h u v from l1495 W (by omega) hN
  | 26, _ => show DN N xs s y p 1551 h u v from l1551 W (by omega) hN
  | 27, _ => show DN N xs s y p 1607 h u v from l1607 W
  | 28, _ => show DN N xs s y p 1620 h u v from l1620 W (by omega) hN
  | 29, _ => show DN N xs s y p 1678 h u v from l1678 W (by omega) hN
  | 30, _ => show DN N xs s y p 1781 h u v from l1781 W (by omega) hN
  | 31, _ => show DN N xs s y p 1853 h u v from l1853 W (by omega) hN
  | 32, _ => show DN N xs s y p 1925 h u v from l1925 W (by omega) hN
  | 33, _ => show DN N xs s y p 1997 h u v from l1997 W (by omega) hN
  | 34, _ => show DN N xs s y p 2088 h u v from l2088 W
  | 35, _ => show DN N xs s y p 2101 h u v from l2101 W
  | 36, _ => show DN N xs s y p 2114 h u v from l2114 W (by omega) hN
  | 37, _ => show DN N xs s y p 2184 h u v from l2184 W (by omega) hN
  | 38, _ => show DN N xs s y p 2242 h u v from l2242 W
  | 39, _ => show DN N xs s y p 2255 h u v from l2255 W
  | 40, _ => show DN N xs s y p 2268 h u v from l2268 W
  | 41, _ => show DN N xs s y p 2281 h u v from l2281 W
  | 42, _ => show DN N xs s y p 2294 h u v from l2294 W
  | 43, _ => show DN N xs s y p 2307 h u v from l2307 W
  | 44, _ => show DN N xs s y p 2320 h u v from l2320 W
  | 45, _ => show DN N xs s y p 2333 h u v from l2333 W
  | 46, _ => show DN N xs s y p 2346 h u v from l2346 W
  | 47, _ => show DN N xs s y p 2411 h u v from l2411 W
  | 48, _ => show DN N xs s y p 2477 h u v from l2477 W hy
  | 49, _ => show DN N xs s y p 2490 h u v from l2490 W (by omega) hN
  | 50, _ => show DN N xs s y p 2560 h u v from l2560 W (by omega) hN
  | 51, _ => show DN N xs s y p 2616 h u v from l2616 W
  | 52, _ => show DN N xs s y p 2629 h u v from l2629 W (by omega) hN
  | 53, _ => show DN N xs s y p 2685 h u v from l2685 W (by omega) hN
  | 54, _ => show DN N xs s y p 2743 h u v from l2743 W hy
  | 55, _ => show DN N xs s y p 2787 h u v from l2787 W
  | 56, _ => show DN N xs s y p 2831 h u v from l2831 W
  | 57, _ => show DN N xs s y p 2875 h u v from l2875 W
  | 58, _ => show DN N xs s y p 2888 h u v from l2888 W
  | 59, _ => show DN N xs s y p 2932 h u v from l2932 W
  | 60, _ => show DN N xs s y p 2945 h u v from l2945 W
  | j + 61, hj => absurd hj (by omega)
theorem s44_ok (W : LW N xs s y h) (hy : y + 6000 < 1000000000) (hp : p + 4 < N) (hN : N ≤ 2560) (s0 : Int32) : ∃ h' u' v', RF 343 44 [.ref 30, .ref 31, .ref 241, .ref 253, .ref 254, .int (nI p), u, v, .null] [.int s0] h = RF 343 2989 [.ref 30, .ref 31, .ref 241, .ref 253, .ref 254, .int (nI p), u', v', .null] [] h' ∧ LW N xs (s + 1) (y + 6000) h' := by
  rw [e343_44]
  by_cases q1 : s0.toInt < 0
  · rw [if_pos q1]
    exact ⟨h, u, v, rfl, W.up⟩
  · rw [if_neg q1]
    by_cases q2 : 60 < s0.toInt
    · rw [if_pos q2]
      exact ⟨h, u, v, rfl, W.up⟩
    · rw [if_neg q2]
      exact sw_ok W hy hp hN (s0.toInt - 0).toNat (by omega)
theorem stop_eq {N p : Nat} (hN : N ≤ 2560) (hp : p ≤ 3000) : (Int32.ofNat N - (5 : Int32) < nI p) = (N < p + 5) := by
  rw [show Int32.ofNat N = nI N from rfl, show (5 : Int32) = nI 5 from rfl]
  by_cases h5 : 5 ≤ N
  · rw [sub_nI h5, lt_nI (by omega) (by omega)]
    exact propext ⟨fun e => by omega, fun e => by omega⟩
  · have : nI N - nI 5 < nI p := by
      rw [Int32.lt_iff_toInt_lt, nI_toInt (show p < 2147483648 by omega)]
      have e : N = 0 ∨ N = 1 ∨ N = 2 ∨ N = 3 ∨ N = 4 := by omega
      rcases e with rfl | rfl | rfl | rfl | rfl
      · exact Int.lt_of_lt_of_le (show (nI 0 - nI 5).toInt < 0 by decide) (Int.natCast_nonneg p)
      · exact Int.lt_of_lt_of_le (show (nI 1 - nI 5).toInt < 0 by decide) (Int.natCast_nonneg p)
      · exact Int.lt_of_lt_of_le (show (nI 2 - nI 5).toInt < 0 by decide) (Int.natCast_nonneg p)
      · exact Int.lt_of_lt_of_le (show (nI 3 - nI 5).toInt < 0 by decide) (Int.natCast_nonneg p)
      · exact Int.lt_of_lt_of_le (show (nI 4 - nI 5).toInt < 0 by decide) (Int.natCast_nonneg p)
    exact propext ⟨fun _ => by omega, fun _ => this⟩
theorem capt_le (c : Nat) (hc : c ≤ 3) : capt c ≤ 246 := by
  have e : c = 0 ∨ c = 1 ∨ c = 2 ∨ c = 3 := by omega
  rcases e with rfl | rfl | rfl | rfl <;> decide
theorem loop_ok (hN : N ≤ 2560) : ∀ (d s : Nat) (h : Hp) (u v : Value), s ≤ 512 → N < 5 * s + 5 * (d + 1) → LW N xs s (6000 * s) h → ∃ h', RF 343 28 [.ref 30, .ref 31, .ref 241, .ref 253, .ref 254, .int (nI (5 * s)), u, v, .null] [] h = some (.ok (.int 1), h') ∧ HC h' ≤ 915 ∧ HS h' ≤ 11318 := by
  have stop : ∀ (s : Nat) (h : Hp) (u v : Value), s ≤ 512 → N < 5 * s + 5 → LW N xs s (6000 * s) h → ∃ h', RF 343 28 [.ref 30, .ref 31, .ref 241, .ref 253, .ref 254, .int (nI (5 * s)), u, v, .null] [] h = some (.ok (.int 1), h') ∧ HC h' ≤ 915 ∧ HS h' ≤ 11318 := by
    intro s h u v hs hl W
    refine ⟨h, ?_, ?_⟩
    · rw [e343_28, W.sc.1, W.sc.2, if_pos ((stop_eq hN (by omega)).mpr hl)]
      rfl
    · obtain ⟨b, m, H, sv, oe, oq, x, n, L, K⟩ := W
      obtain ⟨c, A, s1, s2, s3⟩ := K.ln
      have c3 := s1.c3
      have := capt_le c c3
      omega
  intro d
  induction d with
  | zero => exact fun s h u v hs hl W => stop s h u v hs (by omega) W
  | succ d ih =>
    intro s h u v hs hl W
    by_cases q : N < 5 * s + 5
    · exact stop s h u v hs q W
    · obtain ⟨h1, u1, v1, e1, W1⟩ := s44_ok (p := 5 * s) (u := u) (v := v) W (by omega) (by omega) hN ((HI h 30 (5 * s)) &&& (63 : Int32))
      obtain ⟨h', e2, e3⟩ := ih (s + 1) h1 u1 v1 (by omega) (by omega) (by rw [show 6000 * (s + 1) = 6000 * s + 6000 by omega]; exact W1)
      refine ⟨h', ?_, e3⟩
      rw [e343_28, W.sc.1, W.sc.2, if_neg (fun e => q ((stop_eq hN (by omega)).mp e)), chI_nI W.sc.1 W.sc.2 (by omega) (by omega), cl_nI (by omega)]
      rw [e1, e343_2989, show (5 : Int32) = nI 5 from rfl, add_nI, show 5 * s + 5 = 5 * (s + 1) by omega, e2]
      rfl
end LL
