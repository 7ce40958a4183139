/-! SOUNDNESS: the call's step, and the theorem -/
theorem rk_pos (hT : TOK) {o i kd y2 : Nat} (hl : fndLnk lnkA o i kd y2 = true) (hk : kd = 0 ∨ kd = 5 ∨ kd = 2 ∨ kd = 3 ∨ kd = 6 ∨ kd = 8) : (if rk y2 = 0 then 0 else 1) = 1 := by
  obtain ⟨⟨o', i', kd', y', hs2⟩, hrr, e1, e2, e3, e4⟩ := fndLnk_in hl
  dsimp only at e1 e2 e3 e4
  subst e1 e2 e3 e4
  have hck := hT.2.2.2.1 _ hrr
  have : 1 ≤ rk y' := by
    rcases hk with rfl | rfl | rfl | rfl | rfl | rfl
    · exact (lnk0 hck).2.2.2.2.1
    · have := (lnk5 hck).2.2.2.2.1; omega
    · exact (lnk2 hck).2.2.2.1
    · exact (lnk3 hck).2.2.1
    · have := (lnk6 hck).2.2.2.2.1; omega
    · have h8 := (lnk8 hck).2.2.2.2.2
      rw [h8]
      decide +kernel
  rw [if_neg (by omega)]
section WALK6
variable {p : Program} {l : Launch} {e : Env} {R : Room} {s : State} {m : MethodId} {args : Array Value} {below : List Frame} {meth : Method} {c : Code} {H : Heap} {locs : List Loc} {cells slots : Nat}
variable {x : Ctx} {ad ad0 : Nat → Option Nat} {h h' : Hp} {y pc nx n0 mc ms n : Nat} {rls : Array Slot} {ls st rst : List Value} {r : Except Nat Value} {orig : Instr}
theorem w_call {y2 cc : Nat} (hT : TOK) (hT3 : TOK3) (hN : SND n) (C : CX p l R s m args meth c x y mc ms) (G : Go p l e R s m args below meth c x ad0 n0 y mc ms n r h') (hr : stp none some (ev n y) (callp (hd y) (ev n y) (fun y2 as h => ev n y2 0 (padn (nl y2) as) [] h) pc nx) rk y (.invokeinterface y2 cc) nx ls st h = some (r, h')) (hd : decode (yb y) pc = .ok (orig, nx - pc)) (hm : matchop y pc nx orig (.invokeinterface y2 cc) = true)
    (T : Wt s x ad0 n0 y h' mc ms ad h H locs cells slots ls st rls rst) : W p l e R s m args below meth c H locs cells slots (QE below y x ad0 n0 r h' args s mc ms) (F0 m pc rls rst) := by
  simp only [stp] at hr
  split at hr
  case h_2 => cases hr
  rename_i as st0 hp
  cases hb : (Nat.blt y2 y && Nat.ble (wgt st0) 8 && Nat.beq (wgt as) as.length) with
  | false => rw [hb] at hr; cases hr
  | true =>
    rw [hb] at hr
    simp only [cond_true] at hr
    cases hrk : rkOK (rk y2) as h with
    | false => rw [hrk] at hr; cases hr
    | true =>
      rw [hrk] at hr
      simp only [cond_true] at hr
      simp only [Bool.and_eq_true] at hb
      obtain ⟨⟨b1, b2⟩, b3⟩ := hb
      have b1 : y2 < y := Nat.le_of_ble_eq_true b1
      have b2 := Nat.le_of_ble_eq_true b2
      have b3 := Nat.eq_of_beq_eq_true b3
      obtain ⟨l0, e1, e2, e3⟩ := popn_ok hp
      rw [List.append_nil] at e1
      subst e1 e2
      obtain ⟨wa, wb, rfl, k1, k2⟩ := SK.split T.2.2.2.2.1
      have k1 := k1.rev
      rw [List.reverse_reverse] at k1
      have hwa : wa ++ wb = wa.reverse.reverse ++ wb := by rw [List.reverse_reverse]
      have hlen : wa.reverse.length = cc / 8 := by rw [k1.len]; exact e3
      obtain ⟨r1, h1, hq, ho⟩ := callp_out hr
      have m1 : Mo h h1 := ev_mo _ _ _ _ _ _ _ _ hq
      have m2 : Mo h1 h' := by
        rcases ho with ⟨k, -, ho⟩ | ⟨-, -, ho⟩ | ⟨-, z, -, ho⟩ | ⟨-, z, -, ho⟩ | ⟨-, z, -, ho⟩ | ⟨-, z, -, ho⟩
        · rcases hsel_out ho with ⟨a, b, h2⟩ | h2
          · exact ev_mo _ _ _ _ _ _ _ _ h2
          · cases h2
            exact Mo.rf _
        all_goals exact ev_mo _ _ _ _ _ _ _ _ ho
      simp only [matchop, Bool.and_eq_true] at hm
      obtain ⟨⟨⟨hnx, hy2⟩, hrt⟩, hm⟩ := hm
      obtain rfl := Nat.eq_of_beq_eq_true hnx
      have hy2 : y2 < 343 := Nat.le_of_ble_eq_true hy2
      have hrt := Nat.eq_of_beq_eq_true hrt
      rw [show pc + 3 - pc = 3 by omega] at hd
      have t1 := T.2.2.2.2.2.1
      have t2 := T.2.2.2.2.2.2
      have c1 := C.2.2.2.2.2.2.2.2.2.2.2.1
      have c2 := C.2.2.2.2.2.2.2.2.2.2.2.2.1
      obtain ⟨m11, m12, m13⟩ := m1
      obtain ⟨m21, m22, m23⟩ := m2
      have hnp := np_nl hy2
      have key : ∃ i kd, fndLnk lnkA (yo y) i kd y2 = true ∧ ((orig = .invokevirtual i ∧ (kd = 0 ∨ kd = 5 ∨ kd = 8) ∧ cc / 8 = np y2 + 1) ∨ (orig = .invokestatic i ∧ (kd = 1 ∨ kd = 4 ∨ kd = 7) ∧ cc / 8 = np y2) ∨ (orig = .invokespecial i ∧ (kd = 2 ∨ kd = 3 ∨ kd = 6) ∧ cc / 8 = np y2 + 1)) := by
        split at hm
        · simp only [Bool.and_eq_true, Bool.or_eq_true] at hm
          obtain ⟨hm, hn⟩ := hm
          have hn := Nat.eq_of_beq_eq_true hn
          rcases hm with (hm | hm) | hm
          · exact ⟨_, 0, hm, Or.inl ⟨rfl, Or.inl rfl, hn⟩⟩
          · exact ⟨_, 5, hm, Or.inl ⟨rfl, Or.inr (Or.inl rfl), hn⟩⟩
          · exact ⟨_, 8, hm, Or.inl ⟨rfl, Or.inr (Or.inr rfl), hn⟩⟩
        · simp only [Bool.and_eq_true, Bool.or_eq_true] at hm
          obtain ⟨hm, hn⟩ := hm
          have hn := Nat.eq_of_beq_eq_true hn
          rcases hm with (hm | hm) | hm
          · exact ⟨_, 1, hm, Or.inr (Or.inl ⟨rfl, Or.inl rfl, hn⟩)⟩
          · exact ⟨_, 4, hm, Or.inr (Or.inl ⟨rfl, Or.inr (Or.inl rfl), hn⟩)⟩
          · exact ⟨_, 7, hm, Or.inr (Or.inl ⟨rfl, Or.inr (Or.inr rfl), hn⟩)⟩
        · simp only [Bool.and_eq_true, Bool.or_eq_true] at hm
          obtain ⟨hm, hn⟩ := hm
          have hn := Nat.eq_of_beq_eq_true hn
          rcases hm with (hm | hm) | hm
          · exact ⟨_, 2, hm, Or.inr (Or.inr ⟨rfl, Or.inl rfl, hn⟩)⟩
          · exact ⟨_, 3, hm, Or.inr (Or.inr ⟨rfl, Or.inr (Or.inl rfl), hn⟩)⟩
          · exact ⟨_, 6, hm, Or.inr (Or.inr ⟨rfl, Or.inr (Or.inr rfl), hn⟩)⟩
        · cases hm
      obtain ⟨i, kd, hl, hor⟩ := key
      have hfit : as.length ≤ nl y2 := by
        have hle : cc / 8 ≤ np y2 + (if rk y2 = 0 then 0 else 1) := by
          rcases hor with ⟨-, hkd, hn⟩ | ⟨-, -, hn⟩ | ⟨-, hkd, hn⟩
          · rw [hn, rk_pos hT hl (by omega)]
            exact Nat.le_refl _
          · omega
          · rw [hn, rk_pos hT hl (by omega)]
            exact Nat.le_refl _
        omega
      have hM := met_of hT hN C.2.1 hy2 C.2.2.2.2.2.1 hq k1 b3 hfit
      have hw8 : (wb.map fun v => v.category).sum ≤ 8 := by rw [k2.wgt]; exact b2
      have run := m_run (p := p) (e := e) (R := R) (below := below) (cells := cells) (slots := slots) (rest := wb) hT C.1 C.2.2.1 C.2.2.2.1 T.1 T.2.1 C.2.2.2.2.1 T.2.2.2.1.1 C.2.2.2.2.2.2.1 C.2.2.2.2.2.2.2.1 hl hy2 b1 k1 hlen hor hrk hw8 hM hd (by omega) (by omega)
      rw [hwa]
      have hgrow : ∀ (u : Nat → Option Nat) (H1 : Heap) (locs1 : List Loc) (st1 rst1 : List Value), Ext ad u (HN h) → St x u h1 H1 → va_S (fr x) s.heap H1 locs1 → SK u (HN h1) st1 rst1 → Wt s x ad0 n0 y h' mc ms u h1 H1 locs1 (cells + (HC h1 - HC h)) (slots + (HS h1 - HS h)) ls st1 rls rst1 := fun u H1 locs1 st1 rst1 hx S1 hS1 hk1 => T.grow hx m11 (by omega) (by omega) ⟨m21, m22, m23⟩ S1 hS1 hk1
      have kx : ∀ (E : String) (ce : Cell) (q9 : Addr) (u : Nat → Option Nat) (t : State) (H1 : Heap) (locs1 : List Loc), t.heap = H1 → s.vm.Alike t.vm → True → ((∃ k, r1 = .error k ∧ E = exN k ∧ 1 ≤ k ∧ k ≤ 5) ∧ QB x ad (HN h) h1 u t) → H.size ≤ H1.size → (∀ q : Nat, q < H.size → ¬ fr x q → H1[q]? = H[q]?) → va_S (fr x) s.heap H1 locs1 → H1[q9]? = some ce → ce.vm = .none → s.vm.findClass E = some ce.cls →
          vx_W p l e R s m args below meth c H1 locs1 (cells + (HC h1 - HC h)) (slots + (HS h1 - HS h)) (QE below y x ad0 n0 r h' args s mc ms) (F0 m pc rls wb) q9 := by
        rintro E ce q9 u t H1 locs1 rfl - - ⟨⟨k, rfl, rfl, k5, k6⟩, hx, S1⟩ - - hS1 hce hcv hcl
        have ho : hsel (Jvm.Pilot.CRecordReconcilerLaw_law_r8796_3f684c.hd y) pc k (fun q k => ev n y q (sl ls k .null) [] h1) (some (.error k, h1)) = some (r, h') := by
          rcases ho with ⟨k', hk', ho⟩ | ⟨-, hk', -⟩ | ⟨-, z, hk', -⟩ | ⟨-, z, hk', -⟩ | ⟨-, z, hk', -⟩ | ⟨-, z, hk', -⟩
          · cases hk'
            exact ho
          all_goals cases hk'
        refine m_handle (h := h1) (ad := u) C.1 C.2.2.2.1 (T.2.2.2.1.ext hx m11) hce hcv hcl k5 k6 _ (hh y) [] (hT3.2.2 y C.2.2.2.2.2.2.2.2.2.2.2.2.2) (by rw [C.2.2.2.2.2.2.2.2.2.1]; rfl) (fun z hz => nomatch hz) ho (fun nx k9 rls' hq2 hL2 => ?_) (fun ho2 hps => ?_)
        · exact G _ _ _ _ _ _ _ _ _ _ _ hq2 ((hgrow u t.heap locs1 [] [] hx S1 hS1 rfl).loc hL2 rfl)
        · cases ho2
          have hlast := hgrow u t.heap locs1 [] [] hx S1 hS1 rfl
          refine vx_outP C.1.2.2.2.1 C.2.2.2.2.2.2.2.2.1 hps hce hcv hcl (fun t2 ht2 _ => ⟨u, trivial, ⟨⟨k, rfl, rfl, k5, k6⟩, hlast.2.2.1.1, by rw [ht2]; exact S1⟩, hS1.F ht2⟩) (fun z hz => hS1.2.2 z hz) (by omega) (by omega)
      unfold QC at run
      rw [← hrt] at run
      have hrt8 : cc % 8 < 8 := Nat.mod_lt _ (by decide)
      rcases (show cc % 8 = 0 ∨ cc % 8 = 1 ∨ cc % 8 = 2 ∨ cc % 8 = 3 ∨ 4 ≤ cc % 8 by omega) with hz | hz | hz | hz | hz
      · rw [hz] at run
        refine vx_callv (a := wa.reverse.toArray) run T.2.1 (fun _ _ h => h) (fun _ h => h) (fun _ _ h => h) kx (fun u t H1 locs1 ht _ hpo hB _ _ hS1 => ?_)
        subst ht
        obtain ⟨hx, S1⟩ := hB
        rcases ho with ⟨k', hk', ho⟩ | ⟨hz2, hk', ho⟩ | ⟨hz2, z, hk', ho⟩ | ⟨hz2, z, hk', ho⟩ | ⟨hz2, z, hk', ho⟩ | ⟨hz2, z, hk', ho⟩
        · rw [hpo] at hk'; cases hk'
        · exact G _ _ _ _ _ _ _ _ _ _ _ ho (hgrow u _ _ _ _ hx S1 hS1 (k2.ext hx m11))
        all_goals omega
      · rw [hz] at run
        refine vx_calli (a := wa.reverse.toArray) run T.2.1 (fun _ _ h => h) (fun _ h => h) (fun _ _ h => h) kx (fun v u t H1 locs1 ht _ hpo hB _ _ hS1 => ?_)
        subst ht
        obtain ⟨hx, S1⟩ := hB
        rcases ho with ⟨k', hk', ho⟩ | ⟨hz2, hk', ho⟩ | ⟨hz2, z, hk', ho⟩ | ⟨hz2, z, hk', ho⟩ | ⟨hz2, z, hk', ho⟩ | ⟨hz2, z, hk', ho⟩
        · rw [hpo] at hk'; cases hk'
        · omega
        · rw [hpo] at hk'
          cases hk'
          exact G _ _ _ _ _ _ _ _ _ _ _ ho (hgrow u _ _ _ _ hx S1 hS1 (k2.ext hx m11).i)
        all_goals omega
      · rw [hz] at run
        refine vx_callq (a := wa.reverse.toArray) run T.2.1 (fun _ _ h => h) (fun _ h => h) (fun _ _ h => h) kx (fun v u t H1 locs1 ht _ hpo hB _ _ hS1 => ?_)
        subst ht
        obtain ⟨hx, S1⟩ := hB
        obtain ⟨b, hpo, hbl, rfl⟩ := hpo
        rcases ho with ⟨k', hk', ho⟩ | ⟨hz2, hk', ho⟩ | ⟨hz2, z, hk', ho⟩ | ⟨hz2, z, hk', ho⟩ | ⟨hz2, z, hk', ho⟩ | ⟨hz2, z, hk', ho⟩
        · rw [hpo] at hk'; cases hk'
        · omega
        · omega
        · rw [hpo] at hk'
          cases hk'
          exact G _ _ _ _ _ _ _ _ _ _ _ ho (hgrow u _ _ _ _ hx S1 hS1 ((k2.ext hx m11).r hbl))
        all_goals omega
      · rw [hz] at run
        refine vx_calld (a := wa.reverse.toArray) run T.2.1 (fun _ _ h => h) (fun _ h => h) (fun _ _ h => h) kx (fun v u t H1 locs1 ht _ hpo hB _ _ hS1 => ?_)
        subst ht
        obtain ⟨hx, S1⟩ := hB
        rcases ho with ⟨k', hk', ho⟩ | ⟨hz2, hk', ho⟩ | ⟨hz2, z, hk', ho⟩ | ⟨hz2, z, hk', ho⟩ | ⟨hz2, z, hk', ho⟩ | ⟨hz2, z, hk', ho⟩
        · rw [hpo] at hk'; cases hk'
        · omega
        · omega
        · omega
        · rw [hpo] at hk'
          cases hk'
          exact G _ _ _ _ _ _ _ _ _ _ _ ho (hgrow u _ _ _ _ hx S1 hS1 (k2.ext hx m11).d)
        · omega
      · rw [show QCk (cc % 8) x ad (HN h) r1 h1 = QCk 4 x ad (HN h) r1 h1 by
          unfold QCk
          split <;> first | omega | rfl] at run
        refine vx_callf (a := wa.reverse.toArray) run T.2.1 (fun _ _ h => h) (fun _ h => h) (fun _ _ h => h) kx (fun v u t H1 locs1 ht _ hpo hB _ _ hS1 => ?_)
        subst ht
        obtain ⟨hx, S1⟩ := hB
        rcases ho with ⟨k', hk', ho⟩ | ⟨hz2, hk', ho⟩ | ⟨hz2, z, hk', ho⟩ | ⟨hz2, z, hk', ho⟩ | ⟨hz2, z, hk', ho⟩ | ⟨hz2, z, hk', ho⟩
        · rw [hpo] at hk'; cases hk'
        · omega
        · omega
        · omega
        · omega
        · rw [hpo] at hk'
          cases hk'
          exact G _ _ _ _ _ _ _ _ _ _ _ ho (hgrow u _ _ _ _ hx S1 hS1 (k2.ext hx m11).f)
end WALK6
theorem snd_all (hT : TOK) (hT2 : TOK2) (hT3 : TOK3) (hR : ROK) : ∀ n, SND n := by
  intro n
  induction n with
  | zero =>
    intro p l e R s m args below meth c x ad0 n0 y mc ms r h' C pc ls st h ad rls rst H locs cells slots hr T
    cases hr
  | succ n ih =>
    intro p l e R s m args below meth c x ad0 n0 y mc ms r h' C pc ls st h ad rls rst H locs cells slots hr T
    have G := ih p l e R s m args below meth c x ad0 n0 y mc ms r h' C
    rw [ev] at hr
    cases hc : cd y pc with
    | none => rw [hc] at hr; cases hr
    | some q =>
      obtain ⟨op, nx⟩ := q
      rw [hc] at hr
      dsimp only at hr
      obtain ⟨orig, hd, -, hm, h8⟩ := row_at hR C.2.2.2.2.2.2.2.2.2.2.2.2.2 hc
      cases op
      case iconst v => exact w_iconst hT hT2 C G hr hd hm T
      case lconst v => exact w_lconst C G hr hd hm T
      case fconst v => exact w_fconst C G hr hd hm T
      case dconst v => exact w_dconst C G hr hd hm T
      case iload k => exact w_iload C G hr hd hm T
      case aload k => exact w_aload C G hr hd hm T
      case dload k => exact w_dload C G hr hd hm T
      case fload k => exact w_fload C G hr hd hm T
      case istore k => exact w_istore C G hr hd hm h8 T
      case astore k => exact w_astore C G hr hd hm h8 T
      case fstore k => exact w_fstore C G hr hd hm h8 T
      case dstore k => exact w_dstore C G hr hd hm h8 T
      case iinc k v => exact w_iinc C G hr hd hm h8 T
      case iadd => exact w_iadd C G hr hd hm T
      case isub => exact w_isub C G hr hd hm T
      case imul => exact w_imul C G hr hd hm T
      case iand => exact w_iand C G hr hd hm T
      case ior => exact w_ior C G hr hd hm T
      case ixor => exact w_ixor C G hr hd hm T
      case ishl => exact w_ishl C G hr hd hm T
      case ishr => exact w_ishr C G hr hd hm T
      case iushr => exact w_iushr C G hr hd hm T
      case ineg => exact w_ineg C G hr hd hm T
      case idiv => exact w_idiv C G hr hd hm T
      case irem => exact w_irem C G hr hd hm T
      case i2b => exact w_i2b C G hr hd hm T
      case i2c => exact w_i2c C G hr hd hm T
      case i2l => exact w_i2l C G hr hd hm T
      case i2d => exact w_i2d C G hr hd hm T
      case i2f => exact w_i2f C G hr hd hm T
      case f2d => exact w_f2d C G hr hd hm T
      case ddiv => exact w_ddiv C G hr hd hm T
      case fdiv => exact w_fdiv C G hr hd hm T
      case lcmp => exact w_lcmp C G hr hd hm T
      case dcmp o => exact w_dcmp C G hr hd hm T
      case fcmp o => exact w_fcmp C G hr hd hm T
      case dup => exact w_dup C G hr hd hm T
      case dup_x1 => exact w_dup_x1 C G hr hd hm T
      case dup2 => exact w_dup2 C G hr hd hm T
      case pop => exact w_pop C G hr hd hm T
      case goto t => exact w_goto C G hr hd hm T
      case ifCond cc t => exact w_ifCond C G hr hd hm T
      case if_icmp cc t => exact w_if_icmp C G hr hd hm T
      case ifnonnull t => exact w_ifnonnull C G hr hd hm T
      case tableswitch d lo hi os => exact w_tableswitch C G hr hd hm T
      case getfield k => exact w_getfield hT hT2 C G hr hd hm T
      case putfield k => exact w_putfield hT C G hr hd hm T
      case getstatic a => exact w_getstatic hT2 C G hr hd hm T
      case new k => exact w_new hT C G hr hd hm T
      case newarray t => exact w_newarray hT2 C G hr hd hm T
      case anewarray kd => exact w_anewarray hT2 C G hr hd hm T
      case multianewarray kd dd => exact w_multianewarray hT2 C G hr hd hm T
      case arraylength => exact w_arraylength C G hr hd hm T
      case iaload => exact w_iaload C G hr hd hm T
      case saload => exact w_saload C G hr hd hm T
      case caload => exact w_caload C G hr hd hm T
      case baload => exact w_baload C G hr hd hm T
      case dup_x2 => exact w_dupx2 C G hr hd hm T
      case swap => exact w_swap C G hr hd hm T
      case nop => exact w_nop C G hr hd hm T
      case checkcast z => exact w_checkcast hT2 C G hr hd hm T
      case instanceof z => exact w_instanceof hT2 C G hr hd hm T
      case faload => exact w_faload C G hr hd hm T
      case aaload => exact w_aaload C G hr hd hm T
      case iastore => exact w_iastore C G hr hd hm T
      case castore => exact w_castore C G hr hd hm T
      case bastore => exact w_bastore C G hr hd hm T
      case aastore => exact w_aastore C G hr hd hm T
      case invokeinterface y2 cc => exact w_call hT hT3 ih C G hr hd hm T
      case invokespecial z => exact w_oinit hT2 C G hr hd hm T
      case invokedynamic k => exact w_throw hT3 C G hr hd hm T
      case invokestatic z => exact w_invokestatic hT2 C G hr hd hm T
      case ireturn => exact w_ireturn C G hr hd hm T
      case ret t => exact w_ret C G hr hd hm T
      case areturn => exact w_areturn C G hr hd hm T
      case dreturn => exact w_dreturn C G hr hd hm T
      case freturn => exact w_freturn C G hr hd hm T
      case return_ => exact w_return C G hr hd hm T
      all_goals (cases hr)
