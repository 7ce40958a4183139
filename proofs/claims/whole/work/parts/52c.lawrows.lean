/-! EVERY ROW CHECKED: the law, buckets 32 to 46 -/
theorem code_okL32 : (nth2 [] (ct 343) 32).all (chkRow 343) = true := by decide +kernel
theorem code_okL33 : (nth2 [] (ct 343) 33).all (chkRow 343) = true := by decide +kernel
theorem code_okL34 : (nth2 [] (ct 343) 34).all (chkRow 343) = true := by decide +kernel
theorem code_okL35 : (nth2 [] (ct 343) 35).all (chkRow 343) = true := by decide +kernel
theorem code_okL36 : (nth2 [] (ct 343) 36).all (chkRow 343) = true := by decide +kernel
theorem code_okL37 : (nth2 [] (ct 343) 37).all (chkRow 343) = true := by decide +kernel
theorem code_okL38 : (nth2 [] (ct 343) 38).all (chkRow 343) = true := by decide +kernel
theorem code_okL39 : (nth2 [] (ct 343) 39).all (chkRow 343) = true := by decide +kernel
theorem code_okL40 : (nth2 [] (ct 343) 40).all (chkRow 343) = true := by decide +kernel
theorem code_okL41 : (nth2 [] (ct 343) 41).all (chkRow 343) = true := by decide +kernel
theorem code_okL42 : (nth2 [] (ct 343) 42).all (chkRow 343) = true := by decide +kernel
theorem code_okL43 : (nth2 [] (ct 343) 43).all (chkRow 343) = true := by decide +kernel
theorem code_okL44 : (nth2 [] (ct 343) 44).all (chkRow 343) = true := by decide +kernel
theorem code_okL45 : (nth2 [] (ct 343) 45).all (chkRow 343) = true := by decide +kernel
theorem code_okL46 : (nth2 [] (ct 343) 46).all (chkRow 343) = true := by decide +kernel
theorem nth2_of {α : Type} {d b : α} : ∀ {l : List α}, b ∈ l → ∃ j, j < l.length ∧ nth2 d l j = b
  | [], h => nomatch h
  | a :: l, h => by
    rcases List.mem_cons.mp h with rfl | h
    · exact ⟨0, Nat.succ_pos _, rfl⟩
    · obtain ⟨j, h1, h2⟩ := nth2_of (d := d) h
      exact ⟨j + 1, Nat.succ_lt_succ h1, h2⟩
theorem ctL_len : (ct 343).length = 47 := by decide +kernel
theorem code_okL : (ct 343).all (fun b => b.all (chkRow 343)) = true := by
  refine List.all_eq_true.mpr (fun b hb => ?_)
  obtain ⟨j, h1, rfl⟩ := nth2_of (d := []) hb
  rw [ctL_len] at h1
  rcases Nat.eq_or_lt_of_le (show 0 ≤ j by omega) with rfl | h0
  · exact code_okL0
  rcases Nat.eq_or_lt_of_le (show 1 ≤ j by omega) with rfl | h1
  · exact code_okL1
  rcases Nat.eq_or_lt_of_le (show 2 ≤ j by omega) with rfl | h2
  · exact code_okL2
  rcases Nat.eq_or_lt_of_le (show 3 ≤ j by omega) with rfl | h3
  · exact code_okL3
  rcases Nat.eq_or_lt_of_le (show 4 ≤ j by omega) with rfl | h4
  · exact code_okL4
  rcases Nat.eq_or_lt_of_le (show 5 ≤ j by omega) with rfl | h5
  · exact code_okL5
  rcases Nat.eq_or_lt_of_le (show 6 ≤ j by omega) with rfl | h6
  · exact code_okL6
  rcases Nat.eq_or_lt_of_le (show 7 ≤ j by omega) with rfl | h7
  · exact code_okL7
  rcases Nat.eq_or_lt_of_le (show 8 ≤ j by omega) with rfl | h8
  · exact code_okL8
  rcases Nat.eq_or_lt_of_le (show 9 ≤ j by omega) with rfl | h9
  · exact code_okL9
  rcases Nat.eq_or_lt_of_le (show 10 ≤ j by omega) with rfl | h10
  · exact code_okL10
  rcases Nat.eq_or_lt_of_le (show 11 ≤ j by omega) with rfl | h11
  · exact code_okL11
  rcases Nat.eq_or_lt_of_le (show 12 ≤ j by omega) with rfl | h12
  · exact code_okL12
  rcases Nat.eq_or_lt_of_le (show 13 ≤ j by omega) with rfl | h13
  · exact code_okL13
  rcases Nat.eq_or_lt_of_le (show 14 ≤ j by omega) with rfl | h14
  · exact code_okL14
  rcases Nat.eq_or_lt_of_le (show 15 ≤ j by omega) with rfl | h15
  · exact code_okL15
  rcases Nat.eq_or_lt_of_le (show 16 ≤ j by omega) with rfl | h16
  · exact code_okL16
  rcases Nat.eq_or_lt_of_le (show 17 ≤ j by omega) with rfl | h17
  · exact code_okL17
  rcases Nat.eq_or_lt_of_le (show 18 ≤ j by omega) with rfl | h18
  · exact code_okL18
  rcases Nat.eq_or_lt_of_le (show 19 ≤ j by omega) with rfl | h19
  · exact code_okL19
  rcases Nat.eq_or_lt_of_le (show 20 ≤ j by omega) with rfl | h20
  · exact code_okL20
  rcases Nat.eq_or_lt_of_le (show 21 ≤ j by omega) with rfl | h21
  · exact code_okL21
  rcases Nat.eq_or_lt_of_le (show 22 ≤ j by omega) with rfl | h22
  · exact code_okL22
  rcases Nat.eq_or_lt_of_le (show 23 ≤ j by omega) with rfl | h23
  · exact code_okL23
  rcases Nat.eq_or_lt_of_le (show 24 ≤ j by omega) with rfl | h24
  · exact code_okL24
  rcases Nat.eq_or_lt_of_le (show 25 ≤ j by omega) with rfl | h25
  · exact code_okL25
  rcases Nat.eq_or_lt_of_le (show 26 ≤ j by omega) with rfl | h26
  · exact code_okL26
  rcases Nat.eq_or_lt_of_le (show 27 ≤ j by omega) with rfl | h27
  · exact code_okL27
  rcases Nat.eq_or_lt_of_le (show 28 ≤ j by omega) with rfl | h28
  · exact code_okL28
  rcases Nat.eq_or_lt_of_le (show 29 ≤ j by omega) with rfl | h29
  · exact code_okL29
  rcases Nat.eq_or_lt_of_le (show 30 ≤ j by omega) with rfl | h30
  · exact code_okL30
  rcases Nat.eq_or_lt_of_le (show 31 ≤ j by omega) with rfl | h31
  · exact code_okL31
  rcases Nat.eq_or_lt_of_le (show 32 ≤ j by omega) with rfl | h32
  · exact code_okL32
  rcases Nat.eq_or_lt_of_le (show 33 ≤ j by omega) with rfl | h33
  · exact code_okL33
  rcases Nat.eq_or_lt_of_le (show 34 ≤ j by omega) with rfl | h34
  · exact code_okL34
  rcases Nat.eq_or_lt_of_le (show 35 ≤ j by omega) with rfl | h35
  · exact code_okL35
  rcases Nat.eq_or_lt_of_le (show 36 ≤ j by omega) with rfl | h36
  · exact code_okL36
  rcases Nat.eq_or_lt_of_le (show 37 ≤ j by omega) with rfl | h37
  · exact code_okL37
  rcases Nat.eq_or_lt_of_le (show 38 ≤ j by omega) with rfl | h38
  · exact code_okL38
  rcases Nat.eq_or_lt_of_le (show 39 ≤ j by omega) with rfl | h39
  · exact code_okL39
  rcases Nat.eq_or_lt_of_le (show 40 ≤ j by omega) with rfl | h40
  · exact code_okL40
  rcases Nat.eq_or_lt_of_le (show 41 ≤ j by omega) with rfl | h41
  · exact code_okL41
  rcases Nat.eq_or_lt_of_le (show 42 ≤ j by omega) with rfl | h42
  · exact code_okL42
  rcases Nat.eq_or_lt_of_le (show 43 ≤ j by omega) with rfl | h43
  · exact code_okL43
  rcases Nat.eq_or_lt_of_le (show 44 ≤ j by omega) with rfl | h44
  · exact code_okL44
  rcases Nat.eq_or_lt_of_le (show 45 ≤ j by omega) with rfl | h45
  · exact code_okL45
  rcases Nat.eq_or_lt_of_le (show 46 ≤ j by omega) with rfl | h46
  · exact code_okL46
  omega
theorem code_ok : ∀ y, y < 344 → (ct y).all (fun b => b.all (chkRow y)) = true := by
  intro y hy
  rcases Nat.lt_or_ge y 12 with h0 | h0
  · exact List.all_eq_true.mp code_ok0 y (by simp only [List.mem_cons, List.not_mem_nil, or_false]; omega)
  rcases Nat.lt_or_ge y 24 with h1 | h1
  · exact List.all_eq_true.mp code_ok1 y (by simp only [List.mem_cons, List.not_mem_nil, or_false]; omega)
  rcases Nat.lt_or_ge y 36 with h2 | h2
  · exact List.all_eq_true.mp code_ok2 y (by simp only [List.mem_cons, List.not_mem_nil, or_false]; omega)
  rcases Nat.lt_or_ge y 48 with h3 | h3
  · exact List.all_eq_true.mp code_ok3 y (by simp only [List.mem_cons, List.not_mem_nil, or_false]; omega)
  rcases Nat.lt_or_ge y 60 with h4 | h4
  · exact List.all_eq_true.mp code_ok4 y (by simp only [List.mem_cons, List.not_mem_nil, or_false]; omega)
  rcases Nat.lt_or_ge y 72 with h5 | h5
  · exact List.all_eq_true.mp code_ok5 y (by simp only [List.mem_cons, List.not_mem_nil, or_false]; omega)
  rcases Nat.lt_or_ge y 84 with h6 | h6
  · exact List.all_eq_true.mp code_ok6 y (by simp only [List.mem_cons, List.not_mem_nil, or_false]; omega)
  rcases Nat.lt_or_ge y 96 with h7 | h7
  · exact List.all_eq_true.mp code_ok7 y (by simp only [List.mem_cons, List.not_mem_nil, or_false]; omega)
  rcases Nat.lt_or_ge y 108 with h8 | h8
  · exact List.all_eq_true.mp code_ok8 y (by simp only [List.mem_cons, List.not_mem_nil, or_false]; omega)
  rcases Nat.lt_or_ge y 120 with h9 | h9
  · exact List.all_eq_true.mp code_ok9 y (by simp only [List.mem_cons, List.not_mem_nil, or_false]; omega)
  rcases Nat.lt_or_ge y 132 with h10 | h10
  · exact List.all_eq_true.mp code_ok10 y (by simp only [List.mem_cons, List.not_mem_nil, or_false]; omega)
  rcases Nat.lt_or_ge y 144 with h11 | h11
  · exact List.all_eq_true.mp code_ok11 y (by simp only [List.mem_cons, List.not_mem_nil, or_false]; omega)
  rcases Nat.lt_or_ge y 156 with h12 | h12
  · exact List.all_eq_true.mp code_ok12 y (by simp only [List.mem_cons, List.not_mem_nil, or_false]; omega)
  rcases Nat.lt_or_ge y 168 with h13 | h13
  · exact List.all_eq_true.mp code_ok13 y (by simp only [List.mem_cons, List.not_mem_nil, or_false]; omega)
  rcases Nat.lt_or_ge y 180 with h14 | h14
  · exact List.all_eq_true.mp code_ok14 y (by simp only [List.mem_cons, List.not_mem_nil, or_false]; omega)
  rcases Nat.lt_or_ge y 192 with h15 | h15
  · exact List.all_eq_true.mp code_ok15 y (by simp only [List.mem_cons, List.not_mem_nil, or_false]; omega)
  rcases Nat.lt_or_ge y 204 with h16 | h16
  · exact List.all_eq_true.mp code_ok16 y (by simp only [List.mem_cons, List.not_mem_nil, or_false]; omega)
  rcases Nat.lt_or_ge y 216 with h17 | h17
  · exact List.all_eq_true.mp code_ok17 y (by simp only [List.mem_cons, List.not_mem_nil, or_false]; omega)
  rcases Nat.lt_or_ge y 228 with h18 | h18
  · exact List.all_eq_true.mp code_ok18 y (by simp only [List.mem_cons, List.not_mem_nil, or_false]; omega)
  rcases Nat.lt_or_ge y 240 with h19 | h19
  · exact List.all_eq_true.mp code_ok19 y (by simp only [List.mem_cons, List.not_mem_nil, or_false]; omega)
  rcases Nat.lt_or_ge y 252 with h20 | h20
  · exact List.all_eq_true.mp code_ok20 y (by simp only [List.mem_cons, List.not_mem_nil, or_false]; omega)
  rcases Nat.lt_or_ge y 264 with h21 | h21
  · exact List.all_eq_true.mp code_ok21 y (by simp only [List.mem_cons, List.not_mem_nil, or_false]; omega)
  rcases Nat.lt_or_ge y 276 with h22 | h22
  · exact List.all_eq_true.mp code_ok22 y (by simp only [List.mem_cons, List.not_mem_nil, or_false]; omega)
  rcases Nat.lt_or_ge y 288 with h23 | h23
  · exact List.all_eq_true.mp code_ok23 y (by simp only [List.mem_cons, List.not_mem_nil, or_false]; omega)
  rcases Nat.lt_or_ge y 300 with h24 | h24
  · exact List.all_eq_true.mp code_ok24 y (by simp only [List.mem_cons, List.not_mem_nil, or_false]; omega)
  rcases Nat.lt_or_ge y 312 with h25 | h25
  · exact List.all_eq_true.mp code_ok25 y (by simp only [List.mem_cons, List.not_mem_nil, or_false]; omega)
  rcases Nat.lt_or_ge y 324 with h26 | h26
  · exact List.all_eq_true.mp code_ok26 y (by simp only [List.mem_cons, List.not_mem_nil, or_false]; omega)
  rcases Nat.lt_or_ge y 336 with h27 | h27
  · exact List.all_eq_true.mp code_ok27 y (by simp only [List.mem_cons, List.not_mem_nil, or_false]; omega)
  rcases Nat.lt_or_ge y 343 with h28 | h28
  · exact List.all_eq_true.mp code_ok28 y (by simp only [List.mem_cons, List.not_mem_nil, or_false]; omega)
  obtain rfl : y = 343 := by omega
  exact code_okL
theorem c8_ok : (List.range 344).all (fun y => (ct y).all (fun b => b.all (fun r => chk8 y r.2.2.2))) = true := by decide +kernel
theorem rok : ROK := ⟨code_ok, fun y hy => List.all_eq_true.mp c8_ok y (List.mem_range.mpr hy)⟩
theorem snd : ∀ n, SND n := snd_all tok tok2 tok3 rok
