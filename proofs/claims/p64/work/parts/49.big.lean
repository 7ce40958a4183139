/-! THE CHECKS DONE: two long methods -/
set_option maxRecDepth 1000000 in
theorem met_at204 : TBL[1318]? = some (codeW 204) := rfl
theorem met_big204 : okAt 1318 (codeW 204) = true := by
  unfold okAt
  rw [decide_eq_true met_at204, Bool.true_and]
  decide +kernel
set_option maxRecDepth 1000000 in
theorem met_at240 : TBL[988]? = some (codeW 240) := rfl
theorem met_big240 : okAt 988 (codeW 240) = true := by
  unfold okAt
  rw [decide_eq_true met_at240, Bool.true_and]
  decide +kernel
