/-! SOUNDNESS, instruction by instruction: stores, branches, constants -/
theorem LH.putD {ad : Nat → Option Nat} {n y nL i : Nat} {ls : List Value} {rls rls' : Array Slot} {v : UInt64} (h : LH ad n y nL ls rls) (hi : mem' (dsl y) i = true) (hd : mem' ((dsl y).map (· + 1)) i = false)
    (h' : lv_has rls' nL ((i, .double v) :: (lvl rls).filter (fun q => !(q.1 == i) && (!(q.1 == i + 1) && !(q.1 + 1 == i && q.2.category == 2))))) : LH ad n y nL (sl (sl ls i (.double v)) (i + 1) .null) rls' := by
  refine ⟨h'.1, h'.2.1, fun k => ?_⟩
  rw [gl_sl]
  split
  · exact ⟨trivial, Or.inl rfl⟩
  · rename_i hk1
    rw [gl_sl]
    split
    · rename_i hk2
      rw [hk2.1]
      exact ⟨hi, Or.inr ⟨_, rfl, h'.2.2 (i, .double v) List.mem_cons_self⟩⟩
    · rename_i hk2
      have hz : ∀ (l : List Value) (j : Nat), ¬ j < l.length → gl l j = .null := by
        intro l
        induction l with
        | nil => intro j _; rfl
        | cons a l ih =>
          intro j hj
          cases j with
          | zero => simp at hj
          | succ j => exact ih j (by simpa using hj)
      have hlen : ∀ (l : List Value) (j : Nat) (w : Value), (sl l j w).length = l.length := by
        intro l
        induction l with
        | nil => intro j w; cases j <;> rfl
        | cons a l ih =>
          intro j w
          cases j with
          | zero => rfl
          | succ j => simp only [sl, List.length_cons, ih]
      refine ⟨(h.2.2 k).1, ?_⟩
      rcases (h.2.2 k).2 with e | ⟨w1, h1, h2⟩
      · exact Or.inl e
      · by_cases hki : k = i
        · exact Or.inl (by rw [hki]; exact hz ls i (fun q => hk2 ⟨hki, q⟩))
        · by_cases hki1 : k = i + 1
          · exact Or.inl (by rw [hki1]; exact hz ls (i + 1) (fun q => hk1 ⟨hki1, by rw [hlen]; exact q⟩))
          · refine Or.inr ⟨w1, h1, h'.2.2 (k, w1) (List.mem_cons_of_mem _ (List.mem_filter.mpr ⟨lvl_mem.mpr h2, ?_⟩))⟩
            have hcat := h1.cat
            have hok := (h.2.2 k).1
            have : ¬ (k + 1 = i ∧ w1.category = 2) := by
              rintro ⟨e1, e2⟩
              rw [hcat] at e2
              have hm : ∀ (l : List Nat), mem' l k = true → mem' (l.map (· + 1)) (k + 1) = true := by
                intro l
                induction l with
                | nil => intro z; cases z
                | cons a l ih =>
                  intro z
                  simp only [mem', List.map_cons] at z ⊢
                  cases hb : Nat.beq a k with
                  | true =>
                    have : a = k := Nat.eq_of_beq_eq_true hb
                    subst this
                    simp
                  | false =>
                    rw [hb] at z
                    have hb2 : Nat.beq (a + 1) (k + 1) = false := by
                      rw [← Bool.not_eq_true] at hb ⊢
                      intro z2
                      exact hb (by have := Nat.eq_of_beq_eq_true z2; have : a = k := by omega
                                   subst this; simp)
                    rw [hb2]
                    exact ih z
              cases hg : gl ls k with
              | double d =>
                rw [hg] at hok
                have := hm _ hok
                rw [e1, hd] at this
                cases this
              | long d => rw [hg] at hok; exact hok
              | _ => rw [hg] at e2; simp [Value.category] at e2
            simp only [Bool.and_eq_true, Bool.not_eq_true', beq_eq_false_iff_ne, ne_eq, Bool.and_eq_false_iff]
            refine ⟨hki, hki1, ?_⟩
            by_cases e1 : k + 1 = i
            · exact Or.inr (fun z => this ⟨e1, z⟩)
            · exact Or.inl e1
theorem chk8_ok {y k : Nat} (hy : y < 344) (h : (Nat.blt y 343 || !(Nat.beq k 8)) = true) : mem' ((dsl y).map (· + 1)) k = false := by
  by_cases h1 : y = 343
  · subst h1
    have h2 : Nat.beq k 8 = false := by
      cases hb : Nat.beq k 8 with
      | false => rfl
      | true => rw [hb] at h; cases h
    show mem' [8] k = false
    simp only [mem']
    have : Nat.beq 8 k = false := by
      rw [← Bool.not_eq_true] at h2 ⊢
      intro z
      exact h2 (by rw [Nat.eq_of_beq_eq_true z]; exact Nat.beq_refl k)
    rw [this]
  · rw [dsl_no (by omega)]
    rfl
theorem jmp_ok {pc : Nat} {off t : Int} (h : jmp pc off t = true) : (pc : Int) + off = (t.toNat : Int) := by
  simp only [jmp, Bool.and_eq_true, decide_eq_true_eq] at h
  omega
theorem jmps_at {pc : Nat} {d : Int} : ∀ {l k : List Int} {i : Nat}, jmps pc l k = true → i < k.length → ∃ off, l[i]? = some off ∧ jmp pc off (tsel k i d) = true
  | [], [], i, _, h => by simp at h
  | [], _ :: _, _, h, _ => by cases h
  | _ :: _, [], _, _, h => by simp at h
  | a :: l, b :: k, 0, h, _ => by
    simp only [jmps, Bool.and_eq_true] at h
    exact ⟨a, rfl, h.1⟩
  | a :: l, b :: k, i + 1, h, hi => by
    simp only [jmps, Bool.and_eq_true] at h
    obtain ⟨off, h1, h2⟩ := jmps_at (d := d) (i := i) h.2 (by simpa using hi)
    exact ⟨off, by simpa using h1, h2⟩
theorem cat_rf (o : Option Nat) : (va_rf o).category = 1 := by cases o <;> rfl
theorem fndLdi_in {o i : Nat} {v : Int} : ∀ {l : List (Nat × Nat × Int × Nat)}, fndLdi l o i v = true → ∃ r ∈ l, r.1 = o ∧ r.2.1 = i ∧ r.2.2.1 = v
  | [], h => by cases h
  | r :: l, h => by
    simp only [fndLdi, Bool.or_eq_true, Bool.and_eq_true, decide_eq_true_eq] at h
    rcases h with h | h
    · exact ⟨r, List.mem_cons_self, Nat.eq_of_beq_eq_true h.1.1, Nat.eq_of_beq_eq_true h.1.2, h.2⟩
    · obtain ⟨r', h1, h2⟩ := fndLdi_in h
      exact ⟨r', List.mem_cons_of_mem _ h1, h2⟩
theorem ldi_at (hT : TOK) {o i : Nat} {v : Int} (h : fndLdi ldiA o i v = true) : Cond.constant (cn o) i (Int32.ofInt v) ∈ TW := by
  obtain ⟨r, hr, rfl, rfl, rfl⟩ := fndLdi_in h
  exact tw_of (List.all_eq_true.mp hT.2.2.1 r hr)
theorem stz_lt0 : stzA.all (fun r => Nat.ble r.2.2 130) = true := by decide
theorem sls_lt0 : slsA.all (fun r => Nat.ble r.2.2 30) = true := by decide
theorem stz_lt {o i a : Nat} (h : fnd3 stzA o i (a + 100) = true) : a < 31 := by
  have := Nat.le_of_ble_eq_true (List.all_eq_true.mp stz_lt0 _ (fnd3_in h))
  dsimp only at this
  omega
theorem sls_lt {o i a : Nat} (h : fnd3 slsA o i a = true) : a < 31 := by
  have := Nat.le_of_ble_eq_true (List.all_eq_true.mp sls_lt0 _ (fnd3_in h))
  dsimp only at this
  omega
section WALK3
variable {p : Program} {l : Launch} {e : Env} {R : Room} {s : State} {m : MethodId} {args : Array Value} {below : List Frame} {meth : Method} {c : Code} {H : Heap} {locs : List Loc} {cells slots : Nat}
variable {x : Ctx} {ad ad0 : Nat → Option Nat} {h h' : Hp} {y pc nx n0 mc ms n : Nat} {rls : Array Slot} {ls st rst : List Value} {r : Except Nat Value} {orig : Instr}

theorem w_istore {k : Nat} (C : CX p l R s m args meth c x y mc ms) (G : Go p l e R s m args below meth c x ad0 n0 y mc ms n r h') (hr : stp none some (ev n y) (callp (hd y) (ev n y) (fun y2 as h => ev n y2 0 (padn (nl y2) as) [] h) pc nx) rk y (.istore k) nx ls st h = some (r, h')) (hd : decode (yb y) pc = .ok (orig, nx - pc)) (hm : matchop y pc nx orig (.istore k) = true) (h8 : chk8 y (.istore k) = true) (T : Wt s x ad0 n0 y h' mc ms ad h H locs cells slots ls st rls rst) : W p l e R s m args below meth c H locs cells slots (QE below y x ad0 n0 r h' args s mc ms) (F0 m pc rls rst) := by
  simp only [stp] at hr
  split at hr
  · obtain ⟨_, rfl, k1⟩ := SKi T.2.2.2.2.1
    have h8 := chk8_ok C.2.2.2.2.2.2.2.2.2.2.2.2.2 h8
    simp only [matchop, Bool.and_eq_true] at hm
    obtain ⟨hlt, hm⟩ := hm
    have hlt : k < nl y := Nat.le_of_ble_eq_true hlt
    split at hm
    · simp only [Bool.and_eq_true] at hm
      obtain ⟨hk, hnx⟩ := hm
      obtain rfl := Nat.eq_of_beq_eq_true hnx
      rw [show pc + 1 - pc = 1 by omega] at hd
      exact lv_istore_n C.1.1 C.1.2.1 hd (Nat.eq_of_beq_eq_true hk) T.2.2.2.1.has hlt rfl (fun rls' h9 => G _ _ _ _ _ _ _ _ _ _ _ hr (T.loc (T.2.2.2.1.put (by exact rfl) rfl h8 h9) k1))
    · simp only [Bool.and_eq_true] at hm
      obtain ⟨hk, hnx⟩ := hm
      obtain rfl := Nat.eq_of_beq_eq_true hnx
      obtain rfl := Nat.eq_of_beq_eq_true hk
      rw [show pc + 2 - pc = 2 by omega] at hd
      exact lv_istore C.1.1 C.1.2.1 hd T.2.2.2.1.has hlt rfl (fun rls' h9 => G _ _ _ _ _ _ _ _ _ _ _ hr (T.loc (T.2.2.2.1.put (by exact rfl) rfl h8 h9) k1))
    · cases hm
  · cases hr

theorem w_fstore {k : Nat} (C : CX p l R s m args meth c x y mc ms) (G : Go p l e R s m args below meth c x ad0 n0 y mc ms n r h') (hr : stp none some (ev n y) (callp (hd y) (ev n y) (fun y2 as h => ev n y2 0 (padn (nl y2) as) [] h) pc nx) rk y (.fstore k) nx ls st h = some (r, h')) (hd : decode (yb y) pc = .ok (orig, nx - pc)) (hm : matchop y pc nx orig (.fstore k) = true) (h8 : chk8 y (.fstore k) = true) (T : Wt s x ad0 n0 y h' mc ms ad h H locs cells slots ls st rls rst) : W p l e R s m args below meth c H locs cells slots (QE below y x ad0 n0 r h' args s mc ms) (F0 m pc rls rst) := by
  simp only [stp] at hr
  split at hr
  · obtain ⟨_, rfl, k1⟩ := SKf T.2.2.2.2.1
    have h8 := chk8_ok C.2.2.2.2.2.2.2.2.2.2.2.2.2 h8
    simp only [matchop, Bool.and_eq_true] at hm
    obtain ⟨hlt, hm⟩ := hm
    have hlt : k < nl y := Nat.le_of_ble_eq_true hlt
    split at hm
    · simp only [Bool.and_eq_true] at hm
      obtain ⟨hk, hnx⟩ := hm
      obtain rfl := Nat.eq_of_beq_eq_true hnx
      rw [show pc + 1 - pc = 1 by omega] at hd
      exact lv_fstore_n C.1.1 C.1.2.1 hd (Nat.eq_of_beq_eq_true hk) T.2.2.2.1.has hlt rfl (fun rls' h9 => G _ _ _ _ _ _ _ _ _ _ _ hr (T.loc (T.2.2.2.1.put (by exact rfl) rfl h8 h9) k1))
    · simp only [Bool.and_eq_true] at hm
      obtain ⟨hk, hnx⟩ := hm
      obtain rfl := Nat.eq_of_beq_eq_true hnx
      obtain rfl := Nat.eq_of_beq_eq_true hk
      rw [show pc + 2 - pc = 2 by omega] at hd
      exact lv_fstore C.1.1 C.1.2.1 hd T.2.2.2.1.has hlt rfl (fun rls' h9 => G _ _ _ _ _ _ _ _ _ _ _ hr (T.loc (T.2.2.2.1.put (by exact rfl) rfl h8 h9) k1))
    · cases hm
  · cases hr

theorem w_astore {k : Nat} (C : CX p l R s m args meth c x y mc ms) (G : Go p l e R s m args below meth c x ad0 n0 y mc ms n r h') (hr : stp none some (ev n y) (callp (hd y) (ev n y) (fun y2 as h => ev n y2 0 (padn (nl y2) as) [] h) pc nx) rk y (.astore k) nx ls st h = some (r, h')) (hd : decode (yb y) pc = .ok (orig, nx - pc)) (hm : matchop y pc nx orig (.astore k) = true) (h8 : chk8 y (.astore k) = true) (T : Wt s x ad0 n0 y h' mc ms ad h H locs cells slots ls st rls rst) : W p l e R s m args below meth c H locs cells slots (QE below y x ad0 n0 r h' args s mc ms) (F0 m pc rls rst) := by
  simp only [stp] at hr
  split at hr
  · rename_i x0 st0
    obtain ⟨_, rfl, hx, k1⟩ := SKr T.2.2.2.2.1
    have h8 := chk8_ok C.2.2.2.2.2.2.2.2.2.2.2.2.2 h8
    simp only [matchop, Bool.and_eq_true] at hm
    obtain ⟨hlt, hm⟩ := hm
    have hlt : k < nl y := Nat.le_of_ble_eq_true hlt
    split at hm
    · simp only [Bool.and_eq_true] at hm
      obtain ⟨hk, hnx⟩ := hm
      obtain rfl := Nat.eq_of_beq_eq_true hnx
      rw [show pc + 1 - pc = 1 by omega] at hd
      cases hz : ad x0 with
      | none =>
        rw [hz] at T
        exact lv_astore_nN C.1.1 C.1.2.1 hd (Nat.eq_of_beq_eq_true hk) T.2.2.2.1.has hlt rfl (fun rls' h9 => G _ _ _ _ _ _ _ _ _ _ _ hr (T.loc (T.2.2.2.1.put (v := .ref x0) ⟨hx, by rw [hz]; rfl⟩ rfl h8 h9) k1))
      | some q =>
        rw [hz] at T
        exact lv_astore_n C.1.1 C.1.2.1 hd (Nat.eq_of_beq_eq_true hk) T.2.2.2.1.has hlt rfl (fun rls' h9 => G _ _ _ _ _ _ _ _ _ _ _ hr (T.loc (T.2.2.2.1.put (v := .ref x0) ⟨hx, by rw [hz]; rfl⟩ rfl h8 h9) k1))
    · simp only [Bool.and_eq_true] at hm
      obtain ⟨hk, hnx⟩ := hm
      obtain rfl := Nat.eq_of_beq_eq_true hnx
      obtain rfl := Nat.eq_of_beq_eq_true hk
      rw [show pc + 2 - pc = 2 by omega] at hd
      cases hz : ad x0 with
      | none =>
        rw [hz] at T
        exact lv_astoreN C.1.1 C.1.2.1 hd T.2.2.2.1.has hlt rfl (fun rls' h9 => G _ _ _ _ _ _ _ _ _ _ _ hr (T.loc (T.2.2.2.1.put (v := .ref x0) ⟨hx, by rw [hz]; rfl⟩ rfl h8 h9) k1))
      | some q =>
        rw [hz] at T
        exact lv_astore C.1.1 C.1.2.1 hd T.2.2.2.1.has hlt rfl (fun rls' h9 => G _ _ _ _ _ _ _ _ _ _ _ hr (T.loc (T.2.2.2.1.put (v := .ref x0) ⟨hx, by rw [hz]; rfl⟩ rfl h8 h9) k1))
    · cases hm
  · cases hr

theorem w_dstore {k : Nat} (C : CX p l R s m args meth c x y mc ms) (G : Go p l e R s m args below meth c x ad0 n0 y mc ms n r h') (hr : stp none some (ev n y) (callp (hd y) (ev n y) (fun y2 as h => ev n y2 0 (padn (nl y2) as) [] h) pc nx) rk y (.dstore k) nx ls st h = some (r, h')) (hd : decode (yb y) pc = .ok (orig, nx - pc)) (hm : matchop y pc nx orig (.dstore k) = true) (h8 : chk8 y (.dstore k) = true) (T : Wt s x ad0 n0 y h' mc ms ad h H locs cells slots ls st rls rst) : W p l e R s m args below meth c H locs cells slots (QE below y x ad0 n0 r h' args s mc ms) (F0 m pc rls rst) := by
  simp only [stp] at hr
  split at hr
  · obtain ⟨_, rfl, k1⟩ := SKd T.2.2.2.2.1
    simp only [chk8, Bool.and_eq_true] at h8
    obtain ⟨hy, hk7⟩ := h8
    have hy := Nat.eq_of_beq_eq_true hy
    have hk7 := Nat.eq_of_beq_eq_true hk7
    have i1 : mem' (dsl y) k = true := by rw [hy, hk7]; rfl
    have i2 : mem' ((dsl y).map (· + 1)) k = false := by rw [hy, hk7]; rfl
    simp only [matchop, Bool.and_eq_true] at hm
    obtain ⟨hlt, hm⟩ := hm
    have hlt : k + 1 < nl y := Nat.le_of_ble_eq_true hlt
    split at hm
    · simp only [Bool.and_eq_true] at hm
      obtain ⟨hk, hnx⟩ := hm
      obtain rfl := Nat.eq_of_beq_eq_true hnx
      rw [show pc + 1 - pc = 1 by omega] at hd
      exact lv_dstore_n C.1.1 C.1.2.1 hd (Nat.eq_of_beq_eq_true hk) T.2.2.2.1.has hlt rfl (fun rls' h9 => G _ _ _ _ _ _ _ _ _ _ _ hr (T.loc (T.2.2.2.1.putD i1 i2 h9) k1))
    · simp only [Bool.and_eq_true] at hm
      obtain ⟨hk, hnx⟩ := hm
      obtain rfl := Nat.eq_of_beq_eq_true hnx
      obtain rfl := Nat.eq_of_beq_eq_true hk
      rw [show pc + 2 - pc = 2 by omega] at hd
      exact lv_dstore C.1.1 C.1.2.1 hd T.2.2.2.1.has hlt rfl (fun rls' h9 => G _ _ _ _ _ _ _ _ _ _ _ hr (T.loc (T.2.2.2.1.putD i1 i2 h9) k1))
    · cases hm
  · cases hr

theorem w_iinc {k : Nat} {v : Int} (C : CX p l R s m args meth c x y mc ms) (G : Go p l e R s m args below meth c x ad0 n0 y mc ms n r h') (hr : stp none some (ev n y) (callp (hd y) (ev n y) (fun y2 as h => ev n y2 0 (padn (nl y2) as) [] h) pc nx) rk y (.iinc k v) nx ls st h = some (r, h')) (hd : decode (yb y) pc = .ok (orig, nx - pc)) (hm : matchop y pc nx orig (.iinc k v) = true) (h8 : chk8 y (.iinc k v) = true) (T : Wt s x ad0 n0 y h' mc ms ad h H locs cells slots ls st rls rst) : W p l e R s m args below meth c H locs cells slots (QE below y x ad0 n0 r h' args s mc ms) (F0 m pc rls rst) := by
  simp only [stp] at hr
  split at hr
  · rename_i x0 hg
    have h8 := chk8_ok C.2.2.2.2.2.2.2.2.2.2.2.2.2 h8
    simp only [matchop, Bool.and_eq_true, decide_eq_true_eq] at hm
    obtain ⟨⟨hlt, rfl⟩, hnx⟩ := hm
    have hlt : k < nl y := Nat.le_of_ble_eq_true hlt
    obtain rfl := Nat.eq_of_beq_eq_true hnx
    rw [show pc + 3 - pc = 3 by omega] at hd
    obtain hL := (T.2.2.2.1.2.2 k).2
    rw [hg] at hL
    rcases hL with hL | ⟨w, rfl, hL⟩
    · cases hL
    · obtain ⟨z, hz⟩ := List.getElem?_of_mem (lvl_mem.mpr hL)
      exact lv_iinc C.1.1 C.1.2.1 hd T.2.2.2.1.has hz rfl hlt rfl (fun rls' h9 => G _ _ _ _ _ _ _ _ _ _ _ hr (T.loc (T.2.2.2.1.put (by exact rfl) rfl h8 h9) T.2.2.2.2.1))
  · cases hr

theorem w_dup (C : CX p l R s m args meth c x y mc ms) (G : Go p l e R s m args below meth c x ad0 n0 y mc ms n r h') (hr : stp none some (ev n y) (callp (hd y) (ev n y) (fun y2 as h => ev n y2 0 (padn (nl y2) as) [] h) pc nx) rk y .dup nx ls st h = some (r, h')) (hd : decode (yb y) pc = .ok (orig, nx - pc)) (hm : matchop y pc nx orig .dup = true) (T : Wt s x ad0 n0 y h' mc ms ad h H locs cells slots ls st rls rst) : W p l e R s m args below meth c H locs cells slots (QE below y x ad0 n0 r h' args s mc ms) (F0 m pc rls rst) := by
  have hm : (decide (orig = .dup) && Nat.beq nx (pc + 1)) = true := hm
  simp only [Bool.and_eq_true, decide_eq_true_eq] at hm
  obtain ⟨rfl, hnx⟩ := hm
  obtain rfl := Nat.eq_of_beq_eq_true hnx
  rw [show pc + 1 - pc = 1 by omega] at hd
  simp only [stp] at hr
  split at hr
  · obtain ⟨_, rfl, k1⟩ := SKi T.2.2.2.2.1
    exact lv_dup C.1.1 C.1.2.1 hd rfl (G _ _ _ _ _ _ _ _ _ _ _ hr (T.stk k1.i.i))
  · obtain ⟨_, rfl, hx, k1⟩ := SKr T.2.2.2.2.1
    exact lv_dup C.1.1 C.1.2.1 hd (cat_rf _) (G _ _ _ _ _ _ _ _ _ _ _ hr (T.stk ((k1.r hx).r hx)))
  · cases hr

theorem w_dup_x1 (C : CX p l R s m args meth c x y mc ms) (G : Go p l e R s m args below meth c x ad0 n0 y mc ms n r h') (hr : stp none some (ev n y) (callp (hd y) (ev n y) (fun y2 as h => ev n y2 0 (padn (nl y2) as) [] h) pc nx) rk y .dup_x1 nx ls st h = some (r, h')) (hd : decode (yb y) pc = .ok (orig, nx - pc)) (hm : matchop y pc nx orig .dup_x1 = true) (T : Wt s x ad0 n0 y h' mc ms ad h H locs cells slots ls st rls rst) : W p l e R s m args below meth c H locs cells slots (QE below y x ad0 n0 r h' args s mc ms) (F0 m pc rls rst) := by
  have hm : (decide (orig = .dup_x1) && Nat.beq nx (pc + 1)) = true := hm
  simp only [Bool.and_eq_true, decide_eq_true_eq] at hm
  obtain ⟨rfl, hnx⟩ := hm
  obtain rfl := Nat.eq_of_beq_eq_true hnx
  rw [show pc + 1 - pc = 1 by omega] at hd
  simp only [stp] at hr
  split at hr
  · obtain ⟨_, rfl, k1⟩ := SKi T.2.2.2.2.1
    obtain ⟨_, rfl, hx, k2⟩ := SKr k1
    exact lv_dup_x1 C.1.1 C.1.2.1 hd rfl (cat_rf _) (G _ _ _ _ _ _ _ _ _ _ _ hr (T.stk (k2.i.r hx).i))
  · obtain ⟨_, rfl, k1⟩ := SKi T.2.2.2.2.1
    obtain ⟨_, rfl, k2⟩ := SKi k1
    exact lv_dup_x1 C.1.1 C.1.2.1 hd rfl rfl (G _ _ _ _ _ _ _ _ _ _ _ hr (T.stk k2.i.i.i))
  · cases hr

theorem w_dup2 (C : CX p l R s m args meth c x y mc ms) (G : Go p l e R s m args below meth c x ad0 n0 y mc ms n r h') (hr : stp none some (ev n y) (callp (hd y) (ev n y) (fun y2 as h => ev n y2 0 (padn (nl y2) as) [] h) pc nx) rk y .dup2 nx ls st h = some (r, h')) (hd : decode (yb y) pc = .ok (orig, nx - pc)) (hm : matchop y pc nx orig .dup2 = true) (T : Wt s x ad0 n0 y h' mc ms ad h H locs cells slots ls st rls rst) : W p l e R s m args below meth c H locs cells slots (QE below y x ad0 n0 r h' args s mc ms) (F0 m pc rls rst) := by
  have hm : (decide (orig = .dup2) && Nat.beq nx (pc + 1)) = true := hm
  simp only [Bool.and_eq_true, decide_eq_true_eq] at hm
  obtain ⟨rfl, hnx⟩ := hm
  obtain rfl := Nat.eq_of_beq_eq_true hnx
  rw [show pc + 1 - pc = 1 by omega] at hd
  simp only [stp] at hr
  split at hr
  · obtain ⟨_, rfl, k1⟩ := SKi T.2.2.2.2.1
    obtain ⟨_, rfl, hx, k2⟩ := SKr k1
    exact lv_dup2_11 C.1.1 C.1.2.1 hd rfl (cat_rf _) (G _ _ _ _ _ _ _ _ _ _ _ hr (T.stk (((k2.r hx).i.r hx).i)))
  · cases hr

theorem w_pop (C : CX p l R s m args meth c x y mc ms) (G : Go p l e R s m args below meth c x ad0 n0 y mc ms n r h') (hr : stp none some (ev n y) (callp (hd y) (ev n y) (fun y2 as h => ev n y2 0 (padn (nl y2) as) [] h) pc nx) rk y .pop nx ls st h = some (r, h')) (hd : decode (yb y) pc = .ok (orig, nx - pc)) (hm : matchop y pc nx orig .pop = true) (T : Wt s x ad0 n0 y h' mc ms ad h H locs cells slots ls st rls rst) : W p l e R s m args below meth c H locs cells slots (QE below y x ad0 n0 r h' args s mc ms) (F0 m pc rls rst) := by
  have hm : (decide (orig = .pop) && Nat.beq nx (pc + 1)) = true := hm
  simp only [Bool.and_eq_true, decide_eq_true_eq] at hm
  obtain ⟨rfl, hnx⟩ := hm
  obtain rfl := Nat.eq_of_beq_eq_true hnx
  rw [show pc + 1 - pc = 1 by omega] at hd
  simp only [stp] at hr
  split at hr
  · obtain ⟨_, rfl, k1⟩ := SKi T.2.2.2.2.1
    exact lv_pop C.1.1 C.1.2.1 hd rfl (G _ _ _ _ _ _ _ _ _ _ _ hr (T.stk k1))
  · obtain ⟨_, rfl, hx, k1⟩ := SKr T.2.2.2.2.1
    exact lv_pop C.1.1 C.1.2.1 hd (cat_rf _) (G _ _ _ _ _ _ _ _ _ _ _ hr (T.stk k1))
  · cases hr

theorem w_goto {t : Int} (C : CX p l R s m args meth c x y mc ms) (G : Go p l e R s m args below meth c x ad0 n0 y mc ms n r h') (hr : stp none some (ev n y) (callp (hd y) (ev n y) (fun y2 as h => ev n y2 0 (padn (nl y2) as) [] h) pc nx) rk y (.goto t) nx ls st h = some (r, h')) (hd : decode (yb y) pc = .ok (orig, nx - pc)) (hm : matchop y pc nx orig (.goto t) = true) (T : Wt s x ad0 n0 y h' mc ms ad h H locs cells slots ls st rls rst) : W p l e R s m args below meth c H locs cells slots (QE below y x ad0 n0 r h' args s mc ms) (F0 m pc rls rst) := by
  simp only [stp] at hr
  simp only [matchop] at hm
  split at hm
  · simp only [Bool.and_eq_true] at hm
    obtain ⟨hm, hnx⟩ := hm
    obtain rfl := Nat.eq_of_beq_eq_true hnx
    rw [show pc + 3 - pc = 3 by omega] at hd
    exact lv_goto C.1.1 C.1.2.1 hd (jmp_ok hm) (G _ _ _ _ _ _ _ _ _ _ _ hr T)
  · cases hm

theorem w_ifCond {cc : ClassFile.Cond} {t : Int} (C : CX p l R s m args meth c x y mc ms) (G : Go p l e R s m args below meth c x ad0 n0 y mc ms n r h') (hr : stp none some (ev n y) (callp (hd y) (ev n y) (fun y2 as h => ev n y2 0 (padn (nl y2) as) [] h) pc nx) rk y (.ifCond cc t) nx ls st h = some (r, h')) (hd : decode (yb y) pc = .ok (orig, nx - pc)) (hm : matchop y pc nx orig (.ifCond cc t) = true) (T : Wt s x ad0 n0 y h' mc ms ad h H locs cells slots ls st rls rst) : W p l e R s m args below meth c H locs cells slots (QE below y x ad0 n0 r h' args s mc ms) (F0 m pc rls rst) := by
  simp only [stp] at hr
  split at hr
  · obtain ⟨_, rfl, k1⟩ := SKi T.2.2.2.2.1
    simp only [matchop, Bool.and_eq_true] at hm
    obtain ⟨hnx, hm⟩ := hm
    obtain rfl := Nat.eq_of_beq_eq_true hnx
    rw [show pc + 3 - pc = 3 by omega] at hd
    split at hm
    · simp only [Bool.and_eq_true, decide_eq_true_eq] at hm
      obtain ⟨rfl, hj⟩ := hm
      have hj := jmp_ok hj
      cases cc <;> simp only [cint] at hr
      · exact lv_if_eq C.1.1 C.1.2.1 hd hj (fun q => G _ _ _ _ _ _ _ _ _ _ _ (by rw [if_pos q] at hr; exact hr) (T.stk k1)) (fun q => G _ _ _ _ _ _ _ _ _ _ _ (by rw [if_neg q] at hr; exact hr) (T.stk k1))
      · exact lv_if_ne C.1.1 C.1.2.1 hd hj (fun q => G _ _ _ _ _ _ _ _ _ _ _ (by rw [if_neg q] at hr; exact hr) (T.stk k1)) (fun q => G _ _ _ _ _ _ _ _ _ _ _ (by rw [if_pos q] at hr; exact hr) (T.stk k1))
      · exact lv_if_lt C.1.1 C.1.2.1 hd hj (fun q => G _ _ _ _ _ _ _ _ _ _ _ (by rw [if_pos q] at hr; exact hr) (T.stk k1)) (fun q => G _ _ _ _ _ _ _ _ _ _ _ (by rw [if_neg q] at hr; exact hr) (T.stk k1))
      · exact lv_if_ge C.1.1 C.1.2.1 hd hj (fun q => G _ _ _ _ _ _ _ _ _ _ _ (by rw [if_neg (Int32.not_lt.mpr q)] at hr; exact hr) (T.stk k1)) (fun q => G _ _ _ _ _ _ _ _ _ _ _ (by rw [if_pos (Int32.not_le.mp q)] at hr; exact hr) (T.stk k1))
      · exact lv_if_gt C.1.1 C.1.2.1 hd hj (fun q => G _ _ _ _ _ _ _ _ _ _ _ (by rw [if_pos q] at hr; exact hr) (T.stk k1)) (fun q => G _ _ _ _ _ _ _ _ _ _ _ (by rw [if_neg q] at hr; exact hr) (T.stk k1))
      · exact lv_if_le C.1.1 C.1.2.1 hd hj (fun q => G _ _ _ _ _ _ _ _ _ _ _ (by rw [if_neg (Int32.not_lt.mpr q)] at hr; exact hr) (T.stk k1)) (fun q => G _ _ _ _ _ _ _ _ _ _ _ (by rw [if_pos (Int32.not_le.mp q)] at hr; exact hr) (T.stk k1))
    · cases hm
  · cases hr

theorem w_if_icmp {cc : ClassFile.Cond} {t : Int} (C : CX p l R s m args meth c x y mc ms) (G : Go p l e R s m args below meth c x ad0 n0 y mc ms n r h') (hr : stp none some (ev n y) (callp (hd y) (ev n y) (fun y2 as h => ev n y2 0 (padn (nl y2) as) [] h) pc nx) rk y (.if_icmp cc t) nx ls st h = some (r, h')) (hd : decode (yb y) pc = .ok (orig, nx - pc)) (hm : matchop y pc nx orig (.if_icmp cc t) = true) (T : Wt s x ad0 n0 y h' mc ms ad h H locs cells slots ls st rls rst) : W p l e R s m args below meth c H locs cells slots (QE below y x ad0 n0 r h' args s mc ms) (F0 m pc rls rst) := by
  simp only [stp] at hr
  split at hr
  · obtain ⟨_, rfl, k1⟩ := SKi T.2.2.2.2.1
    obtain ⟨_, rfl, k2⟩ := SKi k1
    simp only [matchop, Bool.and_eq_true] at hm
    obtain ⟨hnx, hm⟩ := hm
    obtain rfl := Nat.eq_of_beq_eq_true hnx
    rw [show pc + 3 - pc = 3 by omega] at hd
    split at hm
    · simp only [Bool.and_eq_true, decide_eq_true_eq] at hm
      obtain ⟨rfl, hj⟩ := hm
      have hj := jmp_ok hj
      cases cc <;> simp only [cint] at hr
      · exact lv_icmp_eq C.1.1 C.1.2.1 hd hj (fun q => G _ _ _ _ _ _ _ _ _ _ _ (by rw [if_pos q] at hr; exact hr) (T.stk k2)) (fun q => G _ _ _ _ _ _ _ _ _ _ _ (by rw [if_neg q] at hr; exact hr) (T.stk k2))
      · exact lv_icmp_ne C.1.1 C.1.2.1 hd hj (fun q => G _ _ _ _ _ _ _ _ _ _ _ (by rw [if_neg q] at hr; exact hr) (T.stk k2)) (fun q => G _ _ _ _ _ _ _ _ _ _ _ (by rw [if_pos q] at hr; exact hr) (T.stk k2))
      · exact lv_icmp_lt C.1.1 C.1.2.1 hd hj (fun q => G _ _ _ _ _ _ _ _ _ _ _ (by rw [if_pos q] at hr; exact hr) (T.stk k2)) (fun q => G _ _ _ _ _ _ _ _ _ _ _ (by rw [if_neg q] at hr; exact hr) (T.stk k2))
      · exact lv_icmp_ge C.1.1 C.1.2.1 hd hj (fun q => G _ _ _ _ _ _ _ _ _ _ _ (by rw [if_neg (Int32.not_lt.mpr q)] at hr; exact hr) (T.stk k2)) (fun q => G _ _ _ _ _ _ _ _ _ _ _ (by rw [if_pos (Int32.not_le.mp q)] at hr; exact hr) (T.stk k2))
      · exact lv_icmp_gt C.1.1 C.1.2.1 hd hj (fun q => G _ _ _ _ _ _ _ _ _ _ _ (by rw [if_pos q] at hr; exact hr) (T.stk k2)) (fun q => G _ _ _ _ _ _ _ _ _ _ _ (by rw [if_neg q] at hr; exact hr) (T.stk k2))
      · exact lv_icmp_le C.1.1 C.1.2.1 hd hj (fun q => G _ _ _ _ _ _ _ _ _ _ _ (by rw [if_neg (Int32.not_lt.mpr q)] at hr; exact hr) (T.stk k2)) (fun q => G _ _ _ _ _ _ _ _ _ _ _ (by rw [if_pos (Int32.not_le.mp q)] at hr; exact hr) (T.stk k2))
    · cases hm
  · cases hr

theorem w_ifnonnull {t : Int} (C : CX p l R s m args meth c x y mc ms) (G : Go p l e R s m args below meth c x ad0 n0 y mc ms n r h') (hr : stp none some (ev n y) (callp (hd y) (ev n y) (fun y2 as h => ev n y2 0 (padn (nl y2) as) [] h) pc nx) rk y (.ifnonnull t) nx ls st h = some (r, h')) (hd : decode (yb y) pc = .ok (orig, nx - pc)) (hm : matchop y pc nx orig (.ifnonnull t) = true) (T : Wt s x ad0 n0 y h' mc ms ad h H locs cells slots ls st rls rst) : W p l e R s m args below meth c H locs cells slots (QE below y x ad0 n0 r h' args s mc ms) (F0 m pc rls rst) := by
  simp only [stp] at hr
  split at hr
  · rename_i a st0
    cases hb : Nat.blt 0 (HK h a) with
    | false => rw [hb] at hr; cases hr
    | true =>
      rw [hb] at hr
      obtain ⟨_, rfl, hx, k1⟩ := SKr T.2.2.2.2.1
      simp only [matchop, Bool.and_eq_true] at hm
      obtain ⟨hnx, hm⟩ := hm
      obtain rfl := Nat.eq_of_beq_eq_true hnx
      rw [show pc + 3 - pc = 3 by omega] at hd
      split at hm
      · obtain ⟨q, hq⟩ := T.1.adr C.2.2.2.1 (show 0 < HK h a from Nat.le_of_ble_eq_true hb)
        rw [hq]
        exact lv_ifnonnull C.1.1 C.1.2.1 hd (jmp_ok hm) (G _ _ _ _ _ _ _ _ _ _ _ hr (T.stk k1))
      · cases hm
  · cases hr

theorem w_tableswitch {d lo hi : Int} {os : Array Int} (C : CX p l R s m args meth c x y mc ms) (G : Go p l e R s m args below meth c x ad0 n0 y mc ms n r h') (hr : stp none some (ev n y) (callp (hd y) (ev n y) (fun y2 as h => ev n y2 0 (padn (nl y2) as) [] h) pc nx) rk y (.tableswitch d lo hi os) nx ls st h = some (r, h')) (hd : decode (yb y) pc = .ok (orig, nx - pc)) (hm : matchop y pc nx orig (.tableswitch d lo hi os) = true) (T : Wt s x ad0 n0 y h' mc ms ad h H locs cells slots ls st rls rst) : W p l e R s m args below meth c H locs cells slots (QE below y x ad0 n0 r h' args s mc ms) (F0 m pc rls rst) := by
  simp only [stp] at hr
  split at hr
  · rename_i x0 st0
    obtain ⟨_, rfl, k1⟩ := SKi T.2.2.2.2.1
    simp only [matchop] at hm
    split at hm
    · simp only [Bool.and_eq_true, decide_eq_true_eq] at hm
      obtain ⟨⟨⟨⟨⟨rfl, rfl⟩, j1⟩, j2⟩, j3⟩, j4⟩ := hm
      split at hr
      · rename_i hlt
        exact lv_tableOut C.1.1 C.1.2.1 hd (Or.inl hlt) (jmp_ok j1) (G _ _ _ _ _ _ _ _ _ _ _ hr (T.stk k1))
      · rename_i hlt
        split at hr
        · rename_i hgt
          exact lv_tableOut C.1.1 C.1.2.1 hd (Or.inr hgt) (jmp_ok j1) (G _ _ _ _ _ _ _ _ _ _ _ hr (T.stk k1))
        · rename_i hgt
          obtain ⟨off, o1, o2⟩ := jmps_at (d := d) (i := (x0.toInt - lo).toNat) j2 (by omega)
          exact lv_tableIn C.1.1 C.1.2.1 hd hlt hgt (by rw [← Array.getElem?_toList]; exact o1) (jmp_ok o2) (G _ _ _ _ _ _ _ _ _ _ _ hr (T.stk k1))
    · cases hm
  · cases hr

theorem w_iconst {v : Int} (hT : TOK) (hT2 : TOK2) (C : CX p l R s m args meth c x y mc ms) (G : Go p l e R s m args below meth c x ad0 n0 y mc ms n r h') (hr : stp none some (ev n y) (callp (hd y) (ev n y) (fun y2 as h => ev n y2 0 (padn (nl y2) as) [] h) pc nx) rk y (.iconst v) nx ls st h = some (r, h')) (hd : decode (yb y) pc = .ok (orig, nx - pc)) (hm : matchop y pc nx orig (.iconst v) = true) (T : Wt s x ad0 n0 y h' mc ms ad h H locs cells slots ls st rls rst) : W p l e R s m args below meth c H locs cells slots (QE below y x ad0 n0 r h' args s mc ms) (F0 m pc rls rst) := by
  simp only [stp] at hr
  have K := fun (q : Nat) (hq : ev n y q ls (.int (Int32.ofInt v) :: st) h = some (r, h')) => G _ _ _ _ _ _ _ _ _ _ _ hq (T.stk T.2.2.2.2.1.i)
  simp only [matchop] at hm
  split at hm
  · simp only [Bool.and_eq_true, decide_eq_true_eq] at hm
    obtain ⟨rfl, hnx⟩ := hm
    obtain rfl := Nat.eq_of_beq_eq_true hnx
    rw [show pc + 1 - pc = 1 by omega] at hd
    exact lv_iconst C.1.1 C.1.2.1 hd rfl (K _ hr)
  · simp only [Bool.and_eq_true, decide_eq_true_eq] at hm
    obtain ⟨hv, hnx⟩ := hm
    obtain rfl := Nat.eq_of_beq_eq_true hnx
    rw [show pc + 2 - pc = 2 by omega] at hd
    exact lv_bipush C.1.1 C.1.2.1 hd hv.symm (K _ hr)
  · simp only [Bool.and_eq_true, decide_eq_true_eq] at hm
    obtain ⟨hv, hnx⟩ := hm
    obtain rfl := Nat.eq_of_beq_eq_true hnx
    rw [show pc + 3 - pc = 3 by omega] at hd
    exact lv_sipush C.1.1 C.1.2.1 hd hv.symm (K _ hr)
  · simp only [Bool.and_eq_true] at hm
    obtain ⟨hv, hnx⟩ := hm
    obtain rfl := Nat.eq_of_beq_eq_true hnx
    rw [show pc + 2 - pc = 2 by omega] at hd
    exact lv_ldc C.1.1 C.1.2.1 C.1.2.2.2.1 (C.1.2.2.2.2.1 _ (ldi_at hT hv)) hd (K _ hr)
  · simp only [Bool.and_eq_true] at hm
    obtain ⟨hv, hnx⟩ := hm
    obtain rfl := Nat.eq_of_beq_eq_true hnx
    rw [show pc + 3 - pc = 3 by omega] at hd
    exact lv_ldcw C.1.1 C.1.2.1 C.1.2.2.2.1 (C.1.2.2.2.2.1 _ (ldi_at hT hv)) hd (K _ hr)
  · simp only [Bool.and_eq_true, decide_eq_true_eq] at hm
    obtain ⟨⟨rfl, hf⟩, hnx⟩ := hm
    obtain rfl := Nat.eq_of_beq_eq_true hnx
    rw [show pc + 3 - pc = 3 by omega] at hd
    exact m_gets hT2 C.1 C.2.2.2.1 T.2.1 hf hd (K _ hr)
  · cases hm

theorem w_getstatic {a : Nat} (hT2 : TOK2) (C : CX p l R s m args meth c x y mc ms) (G : Go p l e R s m args below meth c x ad0 n0 y mc ms n r h') (hr : stp none some (ev n y) (callp (hd y) (ev n y) (fun y2 as h => ev n y2 0 (padn (nl y2) as) [] h) pc nx) rk y (.getstatic a) nx ls st h = some (r, h')) (hd : decode (yb y) pc = .ok (orig, nx - pc)) (hm : matchop y pc nx orig (.getstatic a) = true) (T : Wt s x ad0 n0 y h' mc ms ad h H locs cells slots ls st rls rst) : W p l e R s m args below meth c H locs cells slots (QE below y x ad0 n0 r h' args s mc ms) (F0 m pc rls rst) := by
  simp only [stp] at hr
  simp only [matchop] at hm
  have K : a < 31 → ∀ (q : Nat) (hq : ev n y q ls (.ref a :: st) h = some (r, h')), W p l e R s m args below meth c H locs cells slots (QE below y x ad0 n0 r h' args s mc ms) (F0 m q rls (va_rf (xC x a) :: rst)) := fun ha q hq => by
    have h31 := T.1.2.2.1
    have := G _ _ _ _ _ _ _ _ _ _ _ hq (T.stk (T.2.2.2.2.1.r (show a < HN h by omega)))
    rw [T.1.2.2.2.2.1 a ha] at this
    exact this
  split at hm
  · simp only [Bool.and_eq_true] at hm
    obtain ⟨ha0, hnx⟩ := hm
    obtain rfl := Nat.eq_of_beq_eq_true hnx
    obtain rfl := Nat.eq_of_beq_eq_true ha0
    rw [show pc + 1 - pc = 1 by omega] at hd
    have k0 := K (by decide) _ hr
    rw [C.2.2.2.2.2.1] at k0
    exact lv_null C.1.1 C.1.2.1 hd k0
  · simp only [Bool.and_eq_true] at hm
    obtain ⟨hf, hnx⟩ := hm
    obtain rfl := Nat.eq_of_beq_eq_true hnx
    rw [show pc + 3 - pc = 3 by omega] at hd
    have ha := stz_lt hf
    refine m_gets hT2 C.1 C.2.2.2.1 T.2.1 hf hd ?_
    have e : stV x (a + 100) = va_rf (xC x a) := by unfold stV; rw [if_neg (by omega), show a + 100 - 100 = a by omega]
    rw [e]
    exact K ha _ hr
  · simp only [Bool.and_eq_true] at hm
    obtain ⟨hf, hnx⟩ := hm
    obtain rfl := Nat.eq_of_beq_eq_true hnx
    rw [show pc + 2 - pc = 2 by omega] at hd
    exact m_lds C.1 C.2.2.2.1 hf hd (K (sls_lt hf) _ hr)
  · simp only [Bool.and_eq_true] at hm
    obtain ⟨hf, hnx⟩ := hm
    obtain rfl := Nat.eq_of_beq_eq_true hnx
    rw [show pc + 3 - pc = 3 by omega] at hd
    exact m_ldsw C.1 C.2.2.2.1 hf hd (K (sls_lt hf) _ hr)
  · cases hm

end WALK3
