/-! ROWS of copies, ends, throws -/
section ROWS5
variable {p : Program} {l : Launch} {e : Env} {R : Room} {s : State} {m : MethodId} {args : Array Value} {below : List Frame} {meth : Method} {c : Code} {H : Heap} {locs : List Loc} {cells slots : Nat} {Q : State → Prop}
variable {x : Ctx} {ad : Nat → Option Nat} {h : Hp} {y pc : Nat} {rls : Array Slot} {rest : List Value}
theorem nn_toInt {z : Int32} (hz : ¬ z < 0) : z.toInt = (z.toNatClampNeg : Int) := by
  have hz0 : (0 : Int) ≤ z.toInt := by
    have := Int32.not_lt.mp hz
    simpa using Int32.le_iff_toInt_le.mp this
  show z.toInt = ((z.toInt.toNat : Nat) : Int)
  omega
/-- System.arraycopy out of a row of bytes that was there before -/
theorem va_copyT {D : va_G} {cl : List vw_C} {ws : va_W} {tys : List (ClassId × FieldType)} {A : Nat → Prop} {a : Nat} {ls : Array Slot} {cc : ByteArray} (hexec : p.tables.exec = Jvm.exec) (hb : c.code = cc) (hml : c.maxLocals = ls.size) {own : String} {index : Nat} (hown : s.vm.findClass own = some m.cls) (hlink : (Cond.methodLink own index arraycopyName).before args s = true) (hnat : (Cond.native arraycopyName).before args s = true) (hstat : (Cond.static arraycopyName).before args s = true) (hini : (Cond.initialized "java/lang/System").before args s = true)
    (hK : va_K D cl tys s) (hP : va_P D cl ws H) (hD : va_D A ws) (hS : va_S A s.heap H locs) {b0 n0 : Nat} {f : Nat → Int32} (hX : va_T .byte b0 n0 (fun j => .int (f j)) A s s.heap) (q1 t1 : Nat) {c1 : ClassId} {n1 : Nat} {g : Nat → Int32} (ha1 : ws[q1]? = some (a, .inl (c1, n1, .inl g))) (ht1 : tys[t1]? = some (c1, .byte))
    {sp dp n : Int32} (h1 : ¬ sp < 0) (h2 : ¬ dp < 0) (h3 : ¬ n < 0) (h4 : sp.toNatClampNeg + n.toNatClampNeg ≤ n0) (h5 : dp.toNatClampNeg + n.toNatClampNeg ≤ n1) (hfit : ∀ i, i < n.toNatClampNeg → fits .byte (.int (f (sp.toNatClampNeg + i))) = true)
    (hframes : 1 ≤ R.frames) (hlocals : (rest.map fun v => v.category).sum + (nativeFrameWords "java/lang/System" "arraycopy" 5 + 11) ≤ R.locals) (hdg : decode cc pc = .ok (.invokestatic index, 3))
    (kk : ∀ (H1 : Heap) (locs1 : List Loc), va_P D cl (ws.set q1 (a, .inl (c1, n1, .inl (va_cpy f g sp.toNatClampNeg dp.toNatClampNeg n.toNatClampNeg)))) H1 → va_D A (ws.set q1 (a, .inl (c1, n1, .inl (va_cpy f g sp.toNatClampNeg dp.toNatClampNeg n.toNatClampNeg)))) → va_S A s.heap H1 locs1 → W p l e R s m args below meth c H1 locs1 cells slots Q (F0 m (pc + 3) ls rest)) : W p l e R s m args below meth c H locs cells slots Q (F0 m pc ls (.int n :: .int dp :: .ref a :: .int sp :: .ref b0 :: rest)) := by
  intro T hT X
  obtain ⟨scr, hs1, hs2, hs3, hs4, -, hs5, hs7⟩ := hX
  have hbl : b0 < s.heap.size := (Array.getElem?_eq_some_iff.mp hs1).1
  have hc0 : H[b0]? = some scr := by rw [hS.2.1 b0 hbl hs7]; exact hs1
  have hc1 : H[a]? = some (vp_cell c1 (n1, .inl g)) := hP q1 _ ha1
  obtain ⟨hs6, k0, hk0, cm0, hkk0⟩ := hs2
  obtain ⟨-, k1, hk1, cm1, hkk1⟩ := (hK.2 t1 _ ht1).1 n1 (fun j => .int (g j))
  obtain ⟨vm', X', step⟩ := X.arraycopy hexec hown hlink hnat hstat hini (src := b0) (dst := a) (cs := scr) (cd := vp_cell c1 (n1, .inl g)) (srcPos := sp) (destPos := dp) (n := n) (by rw [hT]; exact hc0) (by rw [hT]; exact hc1)
    hs6 (fun _ h => by cases h) hs3 (fun h => by cases h) hk0 hk1 hkk0 hkk1 (by simp [refKind]) h1 h2 h3
    (by rw [nn_toInt h1, nn_toInt h3]; omega)
    (by rw [nn_toInt h2, nn_toInt h3]; show ¬ _ > ((arrV c1 n1 (fun j => .int (g j))).slots.size : Int); rw [arrV_size]; omega)
    (fun vm₁ _ i hi => by
      have e : scr.slots.getD (sp.toNatClampNeg + i) .null = .int (f (sp.toNatClampNeg + i)) := by
        rw [Array.getD_eq_getD_getElem?, hs5 _ (by omega)]
        rfl
      refine ⟨?_, ?_⟩
      · rw [e]
        exact hfit i hi
      · rw [e]
        exact trivial)
    (g := F0 m pc ls (.int n :: .int dp :: .ref a :: .int sp :: .ref b0 :: rest)) rfl (by rw [hml]) (rest := rest) rfl (by rw [hb]; exact hdg) hframes (by show 2 * 0 + _ + _ ≤ _; omega)
  have e1 : copied scr (vp_cell c1 (n1, .inl g)) sp dp n = vp_cell c1 (n1, .inl (va_cpy f g sp.toNatClampNeg dp.toNatClampNeg n.toNatClampNeg)) := va_copiedX (fun z => .int z) scr c1 f g hs5 h4
  rw [e1] at X' step
  have hl : a < H.size := (Array.getElem?_eq_some_iff.mp hc1).1
  have hheap : ((T.setVm vm').setCell a (vp_cell c1 (n1, .inl (va_cpy f g sp.toNatClampNeg dp.toNatClampNeg n.toNatClampNeg)))).heap = H.setIfInBounds a (vp_cell c1 (n1, .inl (va_cpy f g sp.toNatClampNeg dp.toNatClampNeg n.toNatClampNeg))) := by rw [← hT]; rfl
  have oq : ∀ q : Nat, q ≠ a → (H.setIfInBounds a (vp_cell c1 (n1, .inl (va_cpy f g sp.toNatClampNeg dp.toNatClampNeg n.toNatClampNeg))))[q]? = H[q]? := fun q hq => by simp [Array.getElem?_setIfInBounds, Ne.symm hq]
  obtain ⟨t, a1, b1⟩ := kk _ _ (hP.set hD ha1 (show (H.setIfInBounds a _)[a]? = some _ by simp [Array.getElem?_setIfInBounds, hl]) oq) (hD.set ha1) ⟨by simp; exact hS.1, fun q g1 g2 => by
      rw [oq q (fun e => g2 (by rw [e]; exact hD.2 q1 _ ha1))]
      exact hS.2.1 q g1 g2, fun q hq => by
      rcases List.mem_append.mp hq with h | h
      · exact hS.2.2 q h
      · obtain ⟨z, -, hz⟩ := List.mem_map.mp h
        rw [← hz]
        exact hD.2 q1 _ ha1⟩ _ hheap X'
  exact ⟨t, step t a1, b1⟩
theorem HI_hcpy {sa sp da dp n : Nat} : HI (hcpy h sa sp da dp n) da = va_cpy (HI h sa) (HI h da) sp dp n := by
  funext k
  show (if da = da ∧ dp ≤ k ∧ k < dp + n then _ else _) = _
  unfold va_cpy
  by_cases hk : dp ≤ k ∧ k < dp + n
  · rw [if_pos ⟨rfl, hk⟩, if_pos hk]
  · rw [if_neg (fun z => hk z.2), if_neg hk]
theorem HI_hcpy_ne {sa sp da dp n b : Nat} (hb : b ≠ da) : HI (hcpy h sa sp da dp n) b = HI h b := by
  funext k
  show (if b = da ∧ dp ≤ k ∧ k < dp + n then _ else _) = _
  rw [if_neg (fun z => hb z.1)]
theorem St.cpy (S : St x ad h H) {H1 : Heap} {sa sp da dp n q kd : Nat} (hk : HK h da = kd) (h1 : kd = 100 ∨ kd = 101 ∨ kd = 102) (hq : ad da = some q) (g1 : 31 ≤ da) (g2 : da < HN h)
    (P : va_P (xD x) clL ((wl x ad h).set (da - 31) (q, .inl (xA x kd, HL h da, .inl (va_cpy (HI h sa) (HI h da) sp dp n)))) H1) (Dd : va_D (fr x) ((wl x ad h).set (da - 31) (q, .inl (xA x kd, HL h da, .inl (va_cpy (HI h sa) (HI h da) sp dp n))))) : St x ad (hcpy h sa sp da dp n) H1 :=
  S.wr2 (h' := hcpy h sa sp da dp n) g1 g2 hq (by rw [cE_arr (h := hcpy h sa sp da dp n) (kd := kd) hk (by omega), HI_hcpy]; rfl) rfl rfl (fun b hb => HI_hcpy_ne hb) (fun _ _ => rfl) (fun _ _ => rfl) (fun _ _ => rfl) (S.2.2.2.2.2.2.1 da) P Dd
theorem bfit_in {a sp n : Nat} (hf : bfit h a sp n = true) : ∀ i, i < n → fits .byte (.int (HI h a (sp + i))) = true := by
  intro i hi
  have h1 := List.all_eq_true.mp hf i (List.mem_range.mpr hi)
  exact (fit3 (x := HI h a (sp + i)) h1).2.2
theorem m_copy (hT2 : TOK2) (F : FX p m c meth s args y) (hK : va_K (xD x) clL (tysL x) s) (hO : OLDs x s s.heap) (S : St x ad h H) (hS : va_S (fr x) s.heap H locs) (hsz : rls.size = nl y) {i sa da : Nat} {sp dp n : Int32} (hf : fnd3 mthA (yo y) i 0 = true) {w : Nat} (hc : cpOK h sa da sp dp n w = true) (hw : (rest.map fun v => v.category).sum = w) (hd : decode (yb y) pc = .ok (.invokestatic i, 3)) (hR : 1 ≤ R.frames) (hRl : 30 ≤ R.locals)
    (kk : ∀ (H1 : Heap) (locs1 : List Loc), St x ad (hcpy h sa sp.toNatClampNeg da dp.toNatClampNeg n.toNatClampNeg) H1 → va_S (fr x) s.heap H1 locs1 → W p l e R s m args below meth c H1 locs1 cells slots Q (F0 m (pc + 3) rls rest)) : W p l e R s m args below meth c H locs cells slots Q (F0 m pc rls (.int n :: .int dp :: va_rf (ad da) :: .int sp :: va_rf (ad sa) :: rest)) := by
  simp only [cpOK, Bool.and_eq_true, Bool.or_eq_true, decide_eq_true_eq] at hc
  obtain ⟨⟨⟨⟨⟨⟨⟨hc1, hc2⟩, hc3⟩, hc4⟩, hc5⟩, hc6⟩, hc7⟩, hc8⟩ := hc
  have hw8 := Nat.le_of_ble_eq_true hc2
  have k4 := Nat.le_of_ble_eq_true hc7
  have k5 := Nat.le_of_ble_eq_true hc8
  have n1 : ¬ sp < 0 := Int32.not_lt.mpr hc5
  have n2 : ¬ dp < 0 := Int32.not_lt.mpr hc6
  have n3 : ¬ n < 0 := Int32.not_lt.mpr hc4
  have hml : c.maxLocals = rls.size := by rw [hsz, F.2.2.1]
  have hl := F.2.2.2.2.1 _ (chkZip_in hT2.2.2.2.2.2 _ (fnd3_in hf))
  have w1 := F.2.2.2.2.1 (.native arraycopyName) (chkFix_in hT2.1 _ (by unfold fixW; simp))
  have w2 := F.2.2.2.2.1 (.static arraycopyName) (chkFix_in hT2.1 _ (by unfold fixW; simp))
  have w3 := F.2.2.2.2.1 (.initialized "java/lang/System") (chkFix_in hT2.1 _ (by unfold fixW; simp))
  have hloc : (rest.map fun v => v.category).sum + (nativeFrameWords "java/lang/System" "arraycopy" 5 + 11) ≤ R.locals := by
    have : nativeFrameWords "java/lang/System" "arraycopy" 5 = 7 := by decide +kernel
    omega
  rcases hc1 with ⟨⟨ka, kb⟩, kf⟩ | ⟨ka, kb⟩
  · have ka := Nat.eq_of_beq_eq_true ka
    obtain ⟨q, hq, g1, g2, g3⟩ := S.at (a := da) (by rw [ka]; unfold KOK; omega)
    rw [cE_arr ka (by omega)] at g3
    rw [hq]
    rcases kb with kb | kb
    · have kb := Nat.eq_of_beq_eq_true kb
      obtain ⟨q', hq', g1', g2', g3'⟩ := S.at (a := sa) (by rw [kb]; unfold KOK; omega)
      rw [cE_arr kb (by omega)] at g3'
      rw [hq']
      exact va_copyi F.1 F.2.1 hml F.2.2.2.1 hl w1 w2 w3 hK S.1 S.2.1 hS (sa - 31) (da - 31) 2 2 g3' g3 rfl rfl rfl n1 n2 n3 k4 k5 (bfit_in kf) hR hloc hd (fun H1 locs1 P Dd S1 => kk H1 locs1 (S.cpy ka (by omega) hq g1 g2 P Dd) S1)
    · have kb := Nat.eq_of_beq_eq_true kb
      obtain ⟨o1, o2, o3, o4, o5, -⟩ := S.old kb (by omega)
      obtain ⟨q', hq', hT⟩ := (hO.1 sa o1).1 o2
      rw [o3, hq']
      have e5 : icT (xS x) sa = HI h sa := by funext k; rw [o5]
      rw [show (fun j => Value.int (icT (xS x) sa j)) = fun j => Value.int (HI h sa j) by rw [e5]] at hT
      exact va_copyT F.1 F.2.1 hml F.2.2.2.1 hl w1 w2 w3 hK S.1 S.2.1 hS hT (da - 31) 2 g3 rfl n1 n2 n3 (by rw [← o4]; exact k4) k5 (bfit_in kf) hR hloc hd (fun H1 locs1 P Dd S1 => kk H1 locs1 (S.cpy ka (by omega) hq g1 g2 P Dd) S1)
  · have ka := Nat.eq_of_beq_eq_true ka
    have kb := Nat.eq_of_beq_eq_true kb
    obtain ⟨q, hq, g1, g2, g3⟩ := S.at (a := da) (by rw [ka]; unfold KOK; omega)
    obtain ⟨q', hq', g1', g2', g3'⟩ := S.at (a := sa) (by rw [kb]; unfold KOK; omega)
    rw [cE_arr ka (by omega)] at g3
    rw [cE_arr kb (by omega)] at g3'
    rw [hq, hq']
    exact va_copyi F.1 F.2.1 hml F.2.2.2.1 hl w1 w2 w3 hK S.1 S.2.1 hS (sa - 31) (da - 31) 0 0 g3' g3 rfl rfl rfl n1 n2 n3 k4 k5 (fun _ _ => rfl) hR hloc hd (fun H1 locs1 P Dd S1 => kk H1 locs1 (S.cpy ka (by omega) hq g1 g2 P Dd) S1)
end ROWS5
