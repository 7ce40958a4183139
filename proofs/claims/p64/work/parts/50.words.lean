/-! THE CHECKS DONE: words and rows -/
theorem fld_ok : fldA.all chkFld = true := by decide +kernel
theorem new_ok : newA.all chkNew = true := by decide +kernel
theorem ldi_ok : ldiA.all chkLdi = true := by decide +kernel
theorem lnk_ok0 : lnkA_0.all chkLnk = true := by decide +kernel
theorem lnk_ok1 : lnkA_1.all chkLnk = true := by decide +kernel
theorem lnk_ok2 : lnkA_2.all chkLnk = true := by decide +kernel
theorem lnk_ok3 : lnkA_3.all chkLnk = true := by decide +kernel
theorem lnk_ok4 : lnkA_4.all chkLnk = true := by decide +kernel
theorem lnk_ok5 : lnkA_5.all chkLnk = true := by decide +kernel
theorem lnk_ok6 : lnkA_6.all chkLnk = true := by decide +kernel
theorem lnk_ok7 : lnkA_7.all chkLnk = true := by decide +kernel
theorem lnk_ok8 : lnkA_8.all chkLnk = true := by decide +kernel
theorem lnk_ok9 : lnkA_9.all chkLnk = true := by decide +kernel
theorem lnk_ok10 : lnkA_10.all chkLnk = true := by decide +kernel
theorem lnk_ok11 : lnkA_11.all chkLnk = true := by decide +kernel
theorem lnk_ok : ∀ r ∈ lnkA, chkLnk r = true := by
  intro r hr
  unfold lnkA at hr
  simp only [List.mem_append] at hr
  rcases hr with h | h | h | h | h | h | h | h | h | h | h | h
  · exact List.all_eq_true.mp lnk_ok0 r h
  · exact List.all_eq_true.mp lnk_ok1 r h
  · exact List.all_eq_true.mp lnk_ok2 r h
  · exact List.all_eq_true.mp lnk_ok3 r h
  · exact List.all_eq_true.mp lnk_ok4 r h
  · exact List.all_eq_true.mp lnk_ok5 r h
  · exact List.all_eq_true.mp lnk_ok6 r h
  · exact List.all_eq_true.mp lnk_ok7 r h
  · exact List.all_eq_true.mp lnk_ok8 r h
  · exact List.all_eq_true.mp lnk_ok9 r h
  · exact List.all_eq_true.mp lnk_ok10 r h
  · exact List.all_eq_true.mp lnk_ok11 r h
theorem met_ok0 : chkMets 0 metA_0 = true := by decide +kernel
theorem met_ok1 : chkMets 20 metA_1 = true := by decide +kernel
theorem met_ok2 : chkMets 40 metA_2 = true := by decide +kernel
theorem met_ok3 : chkMets 60 metA_3 = true := by decide +kernel
theorem met_ok4 : chkMets 80 metA_4 = true := by decide +kernel
theorem met_ok5 : chkMets 100 metA_5 = true := by decide +kernel
theorem met_ok6 : chkMets 120 metA_6 = true := by decide +kernel
theorem met_ok7 : chkMets 140 metA_7 = true := by decide +kernel
theorem met_ok8 : chkMets 160 metA_8 = true := by decide +kernel
theorem met_ok9 : chkMets 180 metA_9 = true := by decide +kernel
theorem met_ok10 : chkMets 200 metA_10 = true := by decide +kernel
theorem met_ok11 : chkMets 204 metA_11 = true := by
  unfold metA_11 chkMets chkMet
  rw [met_big204]
  decide +kernel
theorem met_ok12 : chkMets 205 metA_12 = true := by decide +kernel
theorem met_ok13 : chkMets 225 metA_13 = true := by decide +kernel
theorem met_ok14 : chkMets 240 metA_14 = true := by
  unfold metA_14 chkMets chkMet
  rw [met_big240]
  decide +kernel
theorem met_ok15 : chkMets 241 metA_15 = true := by decide +kernel
theorem met_ok16 : chkMets 261 metA_16 = true := by decide +kernel
theorem met_ok17 : chkMets 281 metA_17 = true := by decide +kernel
theorem met_ok18 : chkMets 301 metA_18 = true := by decide +kernel
theorem met_ok19 : chkMets 321 metA_19 = true := by decide +kernel
theorem met_ok20 : chkMets 341 metA_20 = true := by decide +kernel
theorem chkMets_at {y : Nat} : ∀ {l : List (Nat × Nat)} {y0 : Nat}, chkMets y0 l = true → y0 ≤ y → y < y0 + l.length → ∃ r, chkMet y r = true
  | [], y0, _, h1, h2 => absurd h2 (by simp; omega)
  | r :: l, y0, h, h1, h2 => by
    simp only [chkMets, Bool.and_eq_true] at h
    rcases Nat.eq_or_lt_of_le h1 with e | e
    · exact ⟨r, by rw [← e]; exact h.1⟩
    · exact chkMets_at h.2 e (by simp only [List.length_cons] at h2; omega)
theorem met_ok {y : Nat} (h : y < 343) : ∃ r, chkMet y r = true := by
  rcases Nat.lt_or_ge y 20 with h0 | h0
  · exact chkMets_at met_ok0 (by omega) (by show y < 0 + 20; omega)
  rcases Nat.lt_or_ge y 40 with h1 | h1
  · exact chkMets_at met_ok1 (by omega) (by show y < 20 + 20; omega)
  rcases Nat.lt_or_ge y 60 with h2 | h2
  · exact chkMets_at met_ok2 (by omega) (by show y < 40 + 20; omega)
  rcases Nat.lt_or_ge y 80 with h3 | h3
  · exact chkMets_at met_ok3 (by omega) (by show y < 60 + 20; omega)
  rcases Nat.lt_or_ge y 100 with h4 | h4
  · exact chkMets_at met_ok4 (by omega) (by show y < 80 + 20; omega)
  rcases Nat.lt_or_ge y 120 with h5 | h5
  · exact chkMets_at met_ok5 (by omega) (by show y < 100 + 20; omega)
  rcases Nat.lt_or_ge y 140 with h6 | h6
  · exact chkMets_at met_ok6 (by omega) (by show y < 120 + 20; omega)
  rcases Nat.lt_or_ge y 160 with h7 | h7
  · exact chkMets_at met_ok7 (by omega) (by show y < 140 + 20; omega)
  rcases Nat.lt_or_ge y 180 with h8 | h8
  · exact chkMets_at met_ok8 (by omega) (by show y < 160 + 20; omega)
  rcases Nat.lt_or_ge y 200 with h9 | h9
  · exact chkMets_at met_ok9 (by omega) (by show y < 180 + 20; omega)
  rcases Nat.lt_or_ge y 204 with h10 | h10
  · exact chkMets_at met_ok10 (by omega) (by show y < 200 + 4; omega)
  rcases Nat.lt_or_ge y 205 with h11 | h11
  · exact chkMets_at met_ok11 (by omega) (by show y < 204 + 1; omega)
  rcases Nat.lt_or_ge y 225 with h12 | h12
  · exact chkMets_at met_ok12 (by omega) (by show y < 205 + 20; omega)
  rcases Nat.lt_or_ge y 240 with h13 | h13
  · exact chkMets_at met_ok13 (by omega) (by show y < 225 + 15; omega)
  rcases Nat.lt_or_ge y 241 with h14 | h14
  · exact chkMets_at met_ok14 (by omega) (by show y < 240 + 1; omega)
  rcases Nat.lt_or_ge y 261 with h15 | h15
  · exact chkMets_at met_ok15 (by omega) (by show y < 241 + 20; omega)
  rcases Nat.lt_or_ge y 281 with h16 | h16
  · exact chkMets_at met_ok16 (by omega) (by show y < 261 + 20; omega)
  rcases Nat.lt_or_ge y 301 with h17 | h17
  · exact chkMets_at met_ok17 (by omega) (by show y < 281 + 20; omega)
  rcases Nat.lt_or_ge y 321 with h18 | h18
  · exact chkMets_at met_ok18 (by omega) (by show y < 301 + 20; omega)
  rcases Nat.lt_or_ge y 341 with h19 | h19
  · exact chkMets_at met_ok19 (by omega) (by show y < 321 + 20; omega)
  rcases Nat.lt_or_ge y 343 with h20 | h20
  · exact chkMets_at met_ok20 (by omega) (by show y < 341 + 2; omega)
  omega
theorem lay_ok : chkLay 1 layA = true := by decide +kernel
theorem tok : TOK := ⟨fld_ok, new_ok, ldi_ok, lnk_ok, fun _ h => met_ok h, lay_ok⟩
theorem fix_ok : chkFix fixA fixW = true := by decide +kernel
theorem stz_ok : chkZip stW stzA stzH = true := by decide +kernel
theorem stf_ok : chkZip sfW stfA stfH = true := by decide +kernel
theorem anw_ok : chkQ anW anwA anwAH = true := by decide +kernel
theorem oin_ok : chkQ oiW oinA oinAH = true := by decide +kernel
theorem mth_ok : chkQ mtW mthA mthAH = true := by decide +kernel
theorem tok2 : TOK2 := ⟨fix_ok, stz_ok, stf_ok, anw_ok, oin_ok, mth_ok⟩
