/-! EVERY ROW CHECKED: together -/
theorem code_ok : ∀ y, y < 344 → (ct y).all (fun b => b.all (chkRow y)) = true := by
  intro y hy
  rcases Nat.lt_or_ge y 12 with h0 | h0
  · exact List.all_eq_true.mp code_ok0 y (by simp only [List.mem_cons, List.not_mem_nil, or_false]; omega)
  rcases Nat.lt_or_ge y 24 with h1 | h1
  · exact List.all_eq_true.mp code_ok1 y (by simp only [List.mem_cons, List.not_mem_nil, or_false]; omega)
  rcases Nat.lt_or_ge y 36 with h2 | h2
  · exact List.all_eq_true.mp code_ok2 y (by simp only [List.mem_cons, List.not_mem_nil, or_false]; omega)
  rcases Nat.lt_or_ge y 48 with h3 | h3
  · exact List.all_eq_true.mp code_ok3 y (by simp only [List.mem_cons, List.not_mem_nil, or_false]; omega)
  rcases Nat.lt_or_ge y 60 with h4 | h4
  · exact List.all_eq_true.mp code_ok4 y (by simp only [List.mem_cons, List.not_mem_nil, or_false]; omega)
  rcases Nat.lt_or_ge y 72 with h5 | h5
  · exact List.all_eq_true.mp code_ok5 y (by simp only [List.mem_cons, List.not_mem_nil, or_false]; omega)
  rcases Nat.lt_or_ge y 84 with h6 | h6
  · exact List.all_eq_true.mp code_ok6 y (by simp only [List.mem_cons, List.not_mem_nil, or_false]; omega)
  rcases Nat.lt_or_ge y 96 with h7 | h7
  · exact List.all_eq_true.mp code_ok7 y (by simp only [List.mem_cons, List.not_mem_nil, or_false]; omega)
  rcases Nat.lt_or_ge y 108 with h8 | h8
  · exact List.all_eq_true.mp code_ok8 y (by simp only [List.mem_cons, List.not_mem_nil, or_false]; omega)
  rcases Nat.lt_or_ge y 120 with h9 | h9
  · exact List.all_eq_true.mp code_ok9 y (by simp only [List.mem_cons, List.not_mem_nil, or_false]; omega)
  rcases Nat.lt_or_ge y 132 with h10 | h10
  · exact List.all_eq_true.mp code_ok10 y (by simp only [List.mem_cons, List.not_mem_nil, or_false]; omega)
  rcases Nat.lt_or_ge y 144 with h11 | h11
  · exact List.all_eq_true.mp code_ok11 y (by simp only [List.mem_cons, List.not_mem_nil, or_false]; omega)
  rcases Nat.lt_or_ge y 156 with h12 | h12
  · exact List.all_eq_true.mp code_ok12 y (by simp only [List.mem_cons, List.not_mem_nil, or_false]; omega)
  rcases Nat.lt_or_ge y 168 with h13 | h13
  · exact List.all_eq_true.mp code_ok13 y (by simp only [List.mem_cons, List.not_mem_nil, or_false]; omega)
  rcases Nat.lt_or_ge y 180 with h14 | h14
  · exact List.all_eq_true.mp code_ok14 y (by simp only [List.mem_cons, List.not_mem_nil, or_false]; omega)
  rcases Nat.lt_or_ge y 192 with h15 | h15
  · exact List.all_eq_true.mp code_ok15 y (by simp only [List.mem_cons, List.not_mem_nil, or_false]; omega)
  rcases Nat.lt_or_ge y 204 with h16 | h16
  · exact List.all_eq_true.mp code_ok16 y (by simp only [List.mem_cons, List.not_mem_nil, or_false]; omega)
  rcases Nat.lt_or_ge y 216 with h17 | h17
  · exact List.all_eq_true.mp code_ok17 y (by simp only [List.mem_cons, List.not_mem_nil, or_false]; omega)
  rcases Nat.lt_or_ge y 228 with h18 | h18
  · exact List.all_eq_true.mp code_ok18 y (by simp only [List.mem_cons, List.not_mem_nil, or_false]; omega)
  rcases Nat.lt_or_ge y 240 with h19 | h19
  · exact List.all_eq_true.mp code_ok19 y (by simp only [List.mem_cons, List.not_mem_nil, or_false]; omega)
  rcases Nat.lt_or_ge y 252 with h20 | h20
  · exact List.all_eq_true.mp code_ok20 y (by simp only [List.mem_cons, List.not_mem_nil, or_false]; omega)
  rcases Nat.lt_or_ge y 264 with h21 | h21
  · exact List.all_eq_true.mp code_ok21 y (by simp only [List.mem_cons, List.not_mem_nil, or_false]; omega)
  rcases Nat.lt_or_ge y 276 with h22 | h22
  · exact List.all_eq_true.mp code_ok22 y (by simp only [List.mem_cons, List.not_mem_nil, or_false]; omega)
  rcases Nat.lt_or_ge y 288 with h23 | h23
  · exact List.all_eq_true.mp code_ok23 y (by simp only [List.mem_cons, List.not_mem_nil, or_false]; omega)
  rcases Nat.lt_or_ge y 300 with h24 | h24
  · exact List.all_eq_true.mp code_ok24 y (by simp only [List.mem_cons, List.not_mem_nil, or_false]; omega)
  rcases Nat.lt_or_ge y 312 with h25 | h25
  · exact List.all_eq_true.mp code_ok25 y (by simp only [List.mem_cons, List.not_mem_nil, or_false]; omega)
  rcases Nat.lt_or_ge y 324 with h26 | h26
  · exact List.all_eq_true.mp code_ok26 y (by simp only [List.mem_cons, List.not_mem_nil, or_false]; omega)
  rcases Nat.lt_or_ge y 336 with h27 | h27
  · exact List.all_eq_true.mp code_ok27 y (by simp only [List.mem_cons, List.not_mem_nil, or_false]; omega)
  rcases Nat.lt_or_ge y 343 with h28 | h28
  · exact List.all_eq_true.mp code_ok28 y (by simp only [List.mem_cons, List.not_mem_nil, or_false]; omega)
  obtain rfl : y = 343 := by omega
  exact code_okL
theorem c8_ok : (List.range 344).all (fun y => (ct y).all (fun b => b.all (fun r => chk8 y r.2.2.2))) = true := by decide +kernel
theorem rok : ROK := ⟨code_ok, fun y hy => List.all_eq_true.mp c8_ok y (List.mem_range.mpr hy)⟩
theorem snd : ∀ n, SND n := snd_all tok tok2 tok3 rok
