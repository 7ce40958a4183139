/-! THE CHECKS DONE: throws, handlers -/
theorem thr_ok : thrA.all chkThr = true := by decide +kernel
theorem hs_ok : (List.range 344).all (fun y => chkHs y (hd y) (hh y)) = true := by decide +kernel
theorem ex_ok1 : chkEx 1 = true := by decide +kernel
theorem ex_ok2 : chkEx 2 = true := by decide +kernel
theorem ex_ok3 : chkEx 3 = true := by decide +kernel
theorem ex_ok4 : chkEx 4 = true := by decide +kernel
theorem ex_ok5 : chkEx 5 = true := by decide +kernel
theorem tok3 : TOK3 := ⟨fun e h1 h2 => by
  rcases (show e = 1 ∨ e = 2 ∨ e = 3 ∨ e = 4 ∨ e = 5 by omega) with rfl | rfl | rfl | rfl | rfl
  · exact ex_ok1
  · exact ex_ok2
  · exact ex_ok3
  · exact ex_ok4
  · exact ex_ok5, thr_ok, fun y hy => List.all_eq_true.mp hs_ok y (List.mem_range.mpr hy)⟩
