/-! ROWS of the old world: statics, literals, strings, Object's constructor, Math, copies -/
def nestA : List (Nat × Nat × Nat × String) := [(2, 11, 0, "RecordReconciler"), (2, 20, 1, "RecordReconciler"), (0, 31, 4, "RecordReconciler"), (0, 38, 5, "RecordReconciler"), (0, 45, 6, "RecordReconciler"), (2, 49, 18, "RecordReconciler"), (2, 53, 10, "RecordReconciler"), (7, 95, 18, "RecordReconciler")]
def exN (c : Nat) : String := match c with
  | 1 => "java/lang/IllegalArgumentException" | 2 => "java/lang/IllegalStateException" | 3 => "java/lang/IndexOutOfBoundsException" | 4 => "java/util/NoSuchElementException" | _ => "java/lang/ArithmeticException"
def exU : List String := ["java/lang/RuntimeException", "java/lang/Exception"]
def ikE (e : Nat) : Nat := match e with | 1 => 86 | 2 => 98 | 3 => 179 | 4 => 93 | _ => 263
def icE (e : Nat) : Nat := match e with | 1 => 90 | 2 => 102 | 3 => 183 | 4 => 97 | _ => 267
def exL (e : Nat) : List Cond := if e = 4 then (atN "RecordReconciler" (icE e)).filter vx_no else vx_atS "RecordReconciler" (icE e) (exN e) exU
def exW (e : Nat) : List Cond := Cond.classLink "RecordReconciler" (ikE e) (exN e) :: Cond.initialized (exN e) :: exL e
/-- words that are held beside the good ones -/
def isDC (w : Cond) : Bool := match w with
  | .declares _ => true
  | .castable _ _ => true
  | _ => false
theorem exW_dc : ∀ e, 1 ≤ e → e ≤ 5 → (exW e).all (fun w => goodWord w || isDC w) = true := by
  intro e h1 h2
  rcases (show e = 1 ∨ e = 2 ∨ e = 3 ∨ e = 4 ∨ e = 5 by omega) with rfl | rfl | rfl | rfl | rfl <;> decide +kernel
theorem exW_cast : ∀ e, 1 ≤ e → e ≤ 5 → Cond.castable (exN e) (exN e) ∈ exW e := by
  intro e h1 h2
  refine List.mem_cons_of_mem _ (List.mem_cons_of_mem _ ?_)
  unfold exL
  split
  · rename_i h4
    subst h4
    exact List.mem_filter.mpr ⟨by simp [atN, nseN, exN], rfl⟩
  · exact List.mem_filter.mpr ⟨by simp [Bundle.ownAtoms], rfl⟩
theorem dc_warm {w : Cond} (h : isDC w = true) {s U : State} (hW : s.WarmedH U.vm) (hZ : va_Nw w s) : va_Nw w U := by
  unfold isDC at h
  split at h
  · exact hZ.warmD hW
  · exact hZ.warmC hW
  · cases h
theorem dc_tab {w : Cond} (h : isDC w = true) : w.onTables = true := by
  unfold isDC at h
  split at h
  · rfl
  · rfl
  · cases h
def stV (x : Ctx) (c : Nat) : Value := if c = 1 then .int 1 else va_rf (xC x (c - 100))
/-- all that is known of what was there before, besides the classes -/
def OLDs (x : Ctx) (U : State) (H : Heap) : Prop := OLD x U H ∧ (∀ r ∈ stzA, va_Z (stN r.2.2).1 (stN r.2.2).2.1 (stN r.2.2).2.2 (stV x r.2.2) (fr x) U H) ∧ (∀ r ∈ slsA, ∃ tx q, vk_R (cn r.1) r.2.1 tx q U ∧ xC x r.2.2 = some q) ∧ (∀ r ∈ thrA, ∃ tx q, vk_R (cn r.2.2.1) r.2.2.2.2.1 tx q U) ∧
  vx_Zq Bundle.tN "UNASSIGNED_STACK" Bundle.steD (fr x) U H ∧ vx_Zq Bundle.tN "SUPPRESSED_SENTINEL" Bundle.listD (fr x) U H ∧ (∀ c d : Nat, 1 ≤ c → c ≤ 5 → 1 ≤ d → d ≤ 4 → c ≠ d → va_Nc (exN c) (exN d) U) ∧ (∀ r ∈ nestA, va_Nw (.methodLinkNest (cn r.1) r.2.1 (yn r.2.2.1) r.2.2.2) U) ∧ va_AO "RecordReconciler$Book" U ∧ (va_AOA .int U ∧ va_AOA .boolean U ∧ va_Nw (.castable "[B" "java/lang/Cloneable") U) ∧ ∀ e, 1 ≤ e → e ≤ 5 → ∀ w ∈ exW e, goodWord w = false → va_Nw w U
theorem OLDs.kept {x : Ctx} {U : State} {H H1 : Heap} (h : OLDs x U H) (hq : ∀ a : Nat, a < H.size → ¬ fr x a → H1[a]? = H[a]?) : OLDs x U H1 := by
  obtain ⟨h1, h2, h3, h4, h5, h6, h7, h8, h9, h10, h11⟩ := h
  refine ⟨fun a ha => ⟨fun hk => ?_, fun hk => ?_, fun hk => ?_⟩, fun r hr => (h2 r hr).kept hq, h3, h4, h5.kept hq, h6.kept hq, h7, h8, h9, h10, h11⟩
  · obtain ⟨q, e, t⟩ := (h1 a ha).1 hk
    exact ⟨q, e, t.kept hq⟩
  · obtain ⟨q, e, t⟩ := (h1 a ha).2.1 hk
    exact ⟨q, e, t.kept hq⟩
  · obtain ⟨q, e, t1, t2, t3⟩ := (h1 a ha).2.2 hk
    exact ⟨q, e, t1.kept hq, t2.kept hq, t3.kept hq⟩
theorem OLDs.warm {x : Ctx} {u U : State} {H : Heap} (hW : u.WarmedH U.vm) (h : OLDs x u H) : OLDs x U H := by
  have hvm := hW.alike
  obtain ⟨h1, h2, h3, h4, h5, h6, h7, h8, h9, h10, h11⟩ := h
  refine ⟨fun a ha => ⟨fun hk => ?_, fun hk => ?_, fun hk => ?_⟩, fun r hr => (h2 r hr).moved hvm, fun r hr => ?_, fun r hr => ?_, h5.moved hvm, h6.moved hvm, fun c d a1 a2 a3 a4 a5 => (h7 c d a1 a2 a3 a4 a5).moved hvm, fun r hr => (h8 r hr).warmM hW, h9.moved hvm, ⟨h10.1.moved hvm, h10.2.1.moved hvm, dc_warm rfl hW h10.2.2⟩, fun e a1 a2 w hw hg => dc_warm (by
    have h := List.all_eq_true.mp (exW_dc e a1 a2) w hw
    rw [hg, Bool.false_or] at h
    exact h) hW (h11 e a1 a2 w hw hg)⟩
  · obtain ⟨q, e, t⟩ := (h1 a ha).1 hk
    exact ⟨q, e, t.moved hvm⟩
  · obtain ⟨q, e, t⟩ := (h1 a ha).2.1 hk
    exact ⟨q, e, t.moved hvm⟩
  · obtain ⟨q, e, t1, t2, t3⟩ := (h1 a ha).2.2 hk
    exact ⟨q, e, t1.moved hvm, t2.moved hvm, t3.moved hvm⟩
  · obtain ⟨tx, q, e1, e2⟩ := h3 r hr
    exact ⟨tx, q, e1.warm hW, e2⟩
  · obtain ⟨tx, q, e1⟩ := h4 r hr
    exact ⟨tx, q, e1.warm hW⟩
section ROWS4
variable {p : Program} {l : Launch} {e : Env} {R : Room} {s : State} {m : MethodId} {args : Array Value} {below : List Frame} {meth : Method} {c : Code} {H : Heap} {locs : List Loc} {cells slots : Nat} {Q : State → Prop}
variable {x : Ctx} {ad : Nat → Option Nat} {h : Hp} {y pc : Nat} {rls : Array Slot} {rest : List Value}
theorem OLDs.go {U : State} (h : OLDs x s s.heap) (hS : va_S (fr x) s.heap H locs) (hU : U.heap = H) (hW : s.WarmedH U.vm) : OLDs x U U.heap := by
  rw [hU]
  exact (h.kept hS.2.1).warm hW
theorem m_gets (hT2 : TOK2) (F : FX p m c meth s args y) (hO : OLDs x s s.heap) (hS : va_S (fr x) s.heap H locs) {i k : Nat} (hf : fnd3 stzA (yo y) i k = true) (hd : decode (yb y) pc = .ok (.getstatic i, 3))
    (kk : W p l e R s m args below meth c H locs cells slots Q (F0 m (pc + 3) rls (stV x k :: rest))) : W p l e R s m args below meth c H locs cells slots Q (F0 m pc rls rest) :=
  va_gets F.1 F.2.1 (hO.2.1 _ (fnd3_in hf)) hS F.2.2.2.1 (F.2.2.2.2.1 _ (chkZip_in hT2.2.1 _ (fnd3_in hf))) (fun _ h => h) hd kk
theorem m_lds (F : FX p m c meth s args y) (hO : OLDs x s s.heap) {i a : Nat} (hf : fnd3 slsA (yo y) i a = true) (hd : decode (yb y) pc = .ok (.ldc i, 2))
    (kk : W p l e R s m args below meth c H locs cells slots Q (F0 m (pc + 2) rls (va_rf (xC x a) :: rest))) : W p l e R s m args below meth c H locs cells slots Q (F0 m pc rls rest) := by
  obtain ⟨tx, q, e1, e2⟩ := hO.2.2.1 _ (fnd3_in hf)
  dsimp only at e1 e2
  rw [e2] at kk
  exact va_ldcS F.1 F.2.1 F.2.2.2.1 e1 hd kk
theorem m_ldsw (F : FX p m c meth s args y) (hO : OLDs x s s.heap) {i a : Nat} (hf : fnd3 slsA (yo y) i a = true) (hd : decode (yb y) pc = .ok (.ldc_w i, 3))
    (kk : W p l e R s m args below meth c H locs cells slots Q (F0 m (pc + 3) rls (va_rf (xC x a) :: rest))) : W p l e R s m args below meth c H locs cells slots Q (F0 m pc rls rest) := by
  obtain ⟨tx, q, e1, e2⟩ := hO.2.2.1 _ (fnd3_in hf)
  dsimp only at e1 e2
  rw [e2] at kk
  intro T hT X
  obtain ⟨t, a1, b1⟩ := kk T hT X
  exact ⟨t, X.ldcStringW F.1 F.2.2.2.1 (text := tx) (a := q) e1.1 e1.2 (g := F0 m pc rls rest) rfl (by rw [F.2.1]; exact hd) t a1, b1⟩
theorem kc_str {L a : Nat} (h : (kcT L a).1 = 11) : 4 ≤ a ∧ a < 30 ∧ a % 2 = 0 := by
  unfold kcT at h
  repeat' split at h
  all_goals first | (simp at h; done) | omega
theorem m_getS (hT2 : TOK2) (F : FX p m c meth s args y) (hO : OLDs x s s.heap) (S : St x ad h H) (hS : va_S (fr x) s.heap H locs) {i n a : Nat} (hn : n = 705 ∨ n = 706) (hf : fnd3 stfA (yo y) i n = true) (hk : HK h a = 11) (hd : decode (yb y) pc = .ok (.getfield i, 3))
    (kk : W p l e R s m args below meth c H locs cells slots Q (F0 m (pc + 3) rls ((if n % 2 = 1 then va_rf (ad (HR h a 0)) else .int (HI h a 1)) :: rest))) : W p l e R s m args below meth c H locs cells slots Q (F0 m pc rls (va_rf (ad a) :: rest)) := by
  obtain ⟨o1, o2, o3, -, o5, o6⟩ := S.old hk (by omega)
  obtain ⟨z1, z2, z3⟩ := kc_str o2
  obtain ⟨q, hq, g1, g2, g3⟩ := (hO.1 a o1).2.2 o2
  have hw := F.2.2.2.2.1 _ (chkZip_in hT2.2.2.1 _ (fnd3_in hf))
  rw [o3, hq]
  rcases hn with rfl | rfl
  · have e1 : HR h a 0 = a + 1 := by
      rw [o6]
      unfold rcT
      rw [if_neg (by omega), if_pos z2, if_pos ⟨z3, rfl⟩]
    rw [if_pos (by decide), e1, S.2.2.2.2.1 (a + 1) (by omega)] at kk
    exact vk_getf F.1 F.2.1 g2 hS F.2.2.2.1 hw (fun _ h => h) hd kk
  · have e1 : HI h a 1 = 0 := by
      rw [o5]
      unfold icT
      rw [if_neg (by omega), if_neg (by omega), if_neg (by omega), if_pos z2, if_pos z3]
    rw [if_neg (by decide), e1] at kk
    exact vk_getf F.1 F.2.1 g3 hS F.2.2.2.1 hw (fun _ h => h) hd kk
/-- a cell of a kind stands at an address -/
theorem St.adr (S : St x ad h H) (hO : OLDs x s s.heap) {a : Nat} (hk : 0 < HK h a) : ∃ q, ad a = some q := by
  by_cases h9 : KOK (HK h a)
  · obtain ⟨q, hq, -⟩ := S.at h9
    exact ⟨q, hq⟩
  · have hlt : a < 31 := by
      rcases Nat.lt_or_ge a 31 with z | z
      · exact z
      · rcases Nat.lt_or_ge a (HN h) with z2 | z2
        · exact absurd (S.2.2.2.2.2.2.2 a z z2).1 h9
        · rw [S.2.2.2.2.2.1 a z2] at hk; omega
    have hkc : HK h a = (kcT (xL x) a).1 := by unfold HK; rw [(S.2.2.2.1 a hlt).1]
    rw [hkc] at hk
    rw [S.2.2.2.2.1 a hlt]
    rcases kc_cases (L := xL x) (a := a) with z | z | z | z
    · omega
    · obtain ⟨q, hq, -⟩ := (hO.1 a hlt).2.2 z; exact ⟨q, hq⟩
    · obtain ⟨q, hq, -⟩ := (hO.1 a hlt).1 z; exact ⟨q, hq⟩
    · obtain ⟨q, hq, -⟩ := (hO.1 a hlt).2.1 z; exact ⟨q, hq⟩
theorem m_oinit (hT2 : TOK2) (F : FX p m c meth s args y) (hO : OLDs x s s.heap) (S : St x ad h H) (hsz : rls.size = nl y) {i a : Nat} (hf : fnd3 oinA (yo y) i 0 = true) (hk : 0 < HK h a) (hd : decode (yb y) pc = .ok (.invokespecial i, 3)) (hR : 1 ≤ R.frames) (hW : (rest.map fun v => v.category).sum + 12 ≤ R.locals)
    (kk : W p l e R s m args below meth c H locs cells slots Q (F0 m (pc + 3) rls rest)) : W p l e R s m args below meth c H locs cells slots Q (F0 m pc rls (va_rf (ad a) :: rest)) := by
  obtain ⟨q, hq⟩ := S.adr hO hk
  rw [hq]
  exact W.objInit F.1 F.2.1 F.2.2.2.1 (F.2.2.2.2.1 _ (chkZip_in hT2.2.2.2.2.1 _ (fnd3_in hf))) (F.2.2.2.2.1 _ (chkFix_in hT2.1 _ (by unfold fixW; simp))) (F.2.2.2.2.1 _ (chkFix_in hT2.1 _ (by unfold fixW; simp))) (g := F0 m pc rls (.ref q :: rest)) rfl (by show rls.size = _; rw [hsz, F.2.2.1]) rfl hd hR (by show 2 * 0 + _ + 12 ≤ _; omega) kk
theorem m_min (hT2 : TOK2) (F : FX p m c meth s args y) (hsz : rls.size = nl y) {i : Nat} {a b : Int32} (hf : fnd3 mthA (yo y) i 1 = true) (hd : decode (yb y) pc = .ok (.invokestatic i, 3)) (hR : 1 ≤ R.frames) (hW : (rest.map fun v => v.category).sum + 13 ≤ R.locals) (hc : cells ≤ R.cells) (hs : slots ≤ R.slots)
    (kk : W p l e R s m args below meth c H locs cells slots Q (F0 m (pc + 3) rls (.int (if b < a then b else a) :: rest))) : W p l e R s m args below meth c H locs cells slots Q (F0 m pc rls (.int b :: .int a :: rest)) :=
  va_mmin F.1 F.2.1 (by rw [hsz, F.2.2.1]) F.2.2.2.1 (F.2.2.2.2.1 _ (chkZip_in hT2.2.2.2.2.2 _ (fnd3_in hf))) (F.2.2.2.2.1 _ (chkFix_in hT2.1 _ (by unfold fixW; simp))) (F.2.2.2.2.1 _ (chkFix_in hT2.1 _ (by unfold fixW; simp))) (F.2.2.2.2.1 _ (chkFix_in hT2.1 _ (by unfold fixW; simp))) hR hW hc hs hd kk
theorem m_max (hT2 : TOK2) (F : FX p m c meth s args y) (hsz : rls.size = nl y) {i : Nat} {a b : Int32} (hf : fnd3 mthA (yo y) i 2 = true) (hd : decode (yb y) pc = .ok (.invokestatic i, 3)) (hR : 1 ≤ R.frames) (hW : (rest.map fun v => v.category).sum + 13 ≤ R.locals) (hc : cells ≤ R.cells) (hs : slots ≤ R.slots)
    (kk : W p l e R s m args below meth c H locs cells slots Q (F0 m (pc + 3) rls (.int (if a < b then b else a) :: rest))) : W p l e R s m args below meth c H locs cells slots Q (F0 m pc rls (.int b :: .int a :: rest)) :=
  va_mmax F.1 F.2.1 (by rw [hsz, F.2.2.1]) F.2.2.2.1 (F.2.2.2.2.1 _ (chkZip_in hT2.2.2.2.2.2 _ (fnd3_in hf))) (F.2.2.2.2.1 _ (chkFix_in hT2.1 _ (by unfold fixW; simp))) (F.2.2.2.2.1 _ (chkFix_in hT2.1 _ (by unfold fixW; simp))) (F.2.2.2.2.1 _ (chkFix_in hT2.1 _ (by unfold fixW; simp))) hR hW hc hs hd kk
theorem m_abs (hT2 : TOK2) (F : FX p m c meth s args y) (hsz : rls.size = nl y) {i : Nat} {a : Int32} (hf : fnd3 mthA (yo y) i 3 = true) (hd : decode (yb y) pc = .ok (.invokestatic i, 3)) (hR : 1 ≤ R.frames) (hW : (rest.map fun v => v.category).sum + 13 ≤ R.locals) (hc : cells ≤ R.cells) (hs : slots ≤ R.slots)
    (kk : W p l e R s m args below meth c H locs cells slots Q (F0 m (pc + 3) rls (.int (if 0 ≤ a then a else 0 - a) :: rest))) : W p l e R s m args below meth c H locs cells slots Q (F0 m pc rls (.int a :: rest)) :=
  va_mabs F.1 F.2.1 (by rw [hsz, F.2.2.1]) F.2.2.2.1 (F.2.2.2.2.1 _ (chkZip_in hT2.2.2.2.2.2 _ (fnd3_in hf))) (F.2.2.2.2.1 _ (chkFix_in hT2.1 _ (by unfold fixW; simp))) (F.2.2.2.2.1 _ (chkFix_in hT2.1 _ (by unfold fixW; simp))) (F.2.2.2.2.1 _ (chkFix_in hT2.1 _ (by unfold fixW; simp))) hR hW hc hs hd kk
end ROWS4
