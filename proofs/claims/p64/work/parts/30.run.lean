/-! THE RUN: by fuel; then the partial function itself, with its equation -/
abbrev TT : Type := Option ((Except Nat Value × Hp) ⊕ ((Nat × List Value × List Value × Hp) ⊕ (Nat × Nat × List Value × List Value × List Value × Hp)))
def elT {β : Type} (nn : β) (fin : Except Nat Value × Hp → β) (ks : Nat → List Value → List Value → Hp → β) (call : Nat → Nat → List Value → List Value → List Value → Hp → β) : TT → β
  | none => nn
  | some (.inl r) => fin r
  | some (.inr (.inl c)) => ks c.1 c.2.1 c.2.2.1 c.2.2.2
  | some (.inr (.inr c)) => call c.1 c.2.1 c.2.2.1 c.2.2.2.1 c.2.2.2.2.1 c.2.2.2.2.2
def tKs : Nat → List Value → List Value → Hp → TT := fun a b c d => some (.inr (.inl (a, b, c, d)))
def tCall : Nat → Nat → List Value → List Value → List Value → Hp → TT := fun a b c d e f => some (.inr (.inr (a, b, c, d, e, f)))
section EL
variable {β : Type} (nn : β) (fin : Except Nat Value × Hp → β) (ks : Nat → List Value → List Value → Hp → β) (call : Nat → Nat → List Value → List Value → List Value → Hp → β)
theorem elT_cond (b : Bool) (x y : TT) : elT nn fin ks call (cond b x y) = cond b (elT nn fin ks call x) (elT nn fin ks call y) := by cases b <;> rfl
theorem elT_ite (c : Prop) [Decidable c] (x y : TT) : elT nn fin ks call (if c then x else y) = if c then elT nn fin ks call x else elT nn fin ks call y := by split <;> rfl
theorem elT_cint (c : ClassFile.Cond) (a b : Int32) (x y : TT) : elT nn fin ks call (cint c a b x y) = cint c a b (elT nn fin ks call x) (elT nn fin ks call y) := by
  cases c <;> simp only [cint, elT_ite]
set_option maxHeartbeats 4000000 in
theorem stp_el (rk : Nat → Nat) (y : Nat) (op : Instr) (nx : Nat) (ls st : List Value) (h : Hp) : stp nn fin ks call rk y op nx ls st h = elT nn fin ks call (stp none (fun r => some (.inl r)) tKs tCall rk y op nx ls st h) := by
  cases op <;> simp only [stp] <;> (repeat' split) <;> first | rfl | (simp only [elT_cond, elT_ite, elT_cint]; done) | (simp only [elT_cond, elT_ite, elT_cint]; rfl)
end EL
noncomputable def ev : Nat → Nat → Nat → List Value → List Value → Hp → Res
  | 0, _, _, _, _, _ => none
  | n + 1, y, pc, ls, st, h => match cd y pc with
    | none => none
    | some q => stp none some (ev n y) (callp (hd y) (ev n y) (fun y2 as h => ev n y2 0 (padn (nl y2) as) [] h) pc q.2) rk y q.1 q.2 ls st h
/-- more is known -/
def rle (a b : Res) : Prop := ∀ r, a = some r → b = some r
theorem rle_rf (a : Res) : rle a a := fun _ h => h
theorem rle_none (b : Res) : rle none b := fun _ h => by cases h
theorem hsel_le {l : List (Nat × Nat × Nat × Nat × Nat)} {pc e : Nat} {k k' : Nat → Nat → Res} {o o' : Res} (hk : ∀ a b, rle (k a b) (k' a b)) (ho : rle o o') : rle (hsel l pc e k o) (hsel l pc e k' o') := by
  induction l with
  | nil => exact ho
  | cons r l ih =>
    simp only [hsel]
    cases (Nat.ble r.1 pc && Nat.blt pc r.2.1)
    · exact ih
    · simp only [cond_true]
      split
      · exact hk _ _
      · exact ih
theorem callp_le {hs : List (Nat × Nat × Nat × Nat × Nat)} {ks ks' : Nat → List Value → List Value → Hp → Res} {cl cl' : Nat → List Value → Hp → Res} (hk : ∀ a b c d, rle (ks a b c d) (ks' a b c d)) (hc : ∀ a b c, rle (cl a b c) (cl' a b c)) (pc nx y2 rt : Nat) (ls as st : List Value) (h : Hp) :
    rle (callp hs ks cl pc nx y2 rt ls as st h) (callp hs ks' cl' pc nx y2 rt ls as st h) := by
  have hE : ∀ e h', rle (hsel hs pc e (fun q k => ks q (sl ls k .null) [] h') (some (.error e, h'))) (hsel hs pc e (fun q k => ks' q (sl ls k .null) [] h') (some (.error e, h'))) := fun e h' => hsel_le (fun _ _ => hk _ _ _ _) (rle_rf _)
  have hq := hc y2 as h
  unfold callp
  cases hr : cl y2 as h with
  | none => split <;> exact rle_none _
  | some r =>
    rw [hq r hr]
    obtain ⟨o, h1⟩ := r
    split <;> (cases o with
      | error e => exact hE e h1
      | ok v => cases v <;> first | exact rle_none _ | exact hk _ _ _ _)
theorem ev_mono : ∀ (n : Nat) (y pc : Nat) (ls st : List Value) (h : Hp), rle (ev n y pc ls st h) (ev (n + 1) y pc ls st h) := by
  intro n
  induction n with
  | zero => intro y pc ls st h; exact rle_none _
  | succ n ih =>
    intro y pc ls st h
    rw [ev, ev]
    cases cd y pc with
    | none => exact rle_none _
    | some q =>
      show rle (stp none some (ev n y) _ rk y q.1 q.2 ls st h) (stp none some (ev (n + 1) y) _ rk y q.1 q.2 ls st h)
      rw [stp_el, stp_el (ks := ev (n + 1) y)]
      generalize stp none (fun r => some (.inl r)) tKs tCall rk y q.1 q.2 ls st h = t
      rcases t with _ | r | c | c
      · exact rle_none _
      · exact rle_rf _
      · exact ih _ _ _ _ _
      · exact callp_le (ks := ev n y) (ks' := ev (n + 1) y) (cl := fun y2 as h => ev n y2 0 (padn (nl y2) as) [] h) (cl' := fun y2 as h => ev (n + 1) y2 0 (padn (nl y2) as) [] h) (fun _ _ _ _ => ih _ _ _ _ _) (fun _ _ _ => ih _ _ _ _ _) _ _ _ _ _ _ _ _
theorem ev_le {n m : Nat} (h : n ≤ m) (y pc : Nat) (ls st : List Value) (hh : Hp) : rle (ev n y pc ls st hh) (ev m y pc ls st hh) := by
  induction h with
  | refl => exact rle_rf _
  | step _ ih => exact fun r hr => ev_mono _ _ _ _ _ _ r (ih r hr)
noncomputable def RF (y pc : Nat) (ls st : List Value) (h : Hp) : Res := @dite _ (∃ n, (ev n y pc ls st h).isSome = true) (Classical.propDecidable _) (fun hh => ev (Classical.choose hh) y pc ls st h) (fun _ => none)
theorem RF_iff {y pc : Nat} {ls st : List Value} {h : Hp} {r : Except Nat Value × Hp} : RF y pc ls st h = some r ↔ ∃ n, ev n y pc ls st h = some r := by
  unfold RF
  constructor
  · intro hr
    by_cases hh : ∃ n, (ev n y pc ls st h).isSome = true
    · rw [dif_pos hh] at hr
      exact ⟨_, hr⟩
    · rw [dif_neg hh] at hr
      cases hr
  · rintro ⟨n, hn⟩
    have hh : ∃ n, (ev n y pc ls st h).isSome = true := ⟨n, by rw [hn]; rfl⟩
    rw [dif_pos hh]
    have hs := Classical.choose_spec hh
    obtain ⟨r', hr'⟩ := Option.isSome_iff_exists.mp hs
    rw [hr']
    have h1 := ev_le (Nat.le_max_left (Classical.choose hh) n) y pc ls st h r' hr'
    have h2 := ev_le (Nat.le_max_right (Classical.choose hh) n) y pc ls st h r hn
    exact h1.symm.trans h2
/-- a method called with its arguments -/
noncomputable def CL (y : Nat) (as : List Value) (h : Hp) : Res := RF y 0 (padn (nl y) as) [] h
theorem res_ext {a b : Res} (h1 : rle a b) (h2 : rle b a) : a = b := by
  cases a with
  | some r => exact (h1 r rfl).symm
  | none =>
    cases b with
    | none => rfl
    | some r => exact h2 r rfl
/-- a call is settled by some fuel -/
theorem callp_cont {hs : List (Nat × Nat × Nat × Nat × Nat)} {y : Nat} {pc nx y2 rt : Nat} {ls as st : List Value} {h : Hp} {r : Except Nat Value × Hp} (hr : callp hs (RF y) CL pc nx y2 rt ls as st h = some r) :
    ∃ n, callp hs (ev n y) (fun y2 as h => ev n y2 0 (padn (nl y2) as) [] h) pc nx y2 rt ls as st h = some r := by
  have hks : ∀ (pc' : Nat) (ls' st' : List Value) (h' : Hp), RF y pc' ls' st' h' = some r → ∃ n, ev n y pc' ls' st' h' = some r := fun _ _ _ _ q => RF_iff.mp q
  have hsl : ∀ (l : List (Nat × Nat × Nat × Nat × Nat)) (e : Nat) (h' : Hp), hsel l pc e (fun q k => RF y q (sl ls k .null) [] h') (some (.error e, h')) = some r → ∃ n, hsel l pc e (fun q k => ev n y q (sl ls k .null) [] h') (some (.error e, h')) = some r := by
    intro l e h'
    induction l with
    | nil => exact fun q => ⟨0, q⟩
    | cons a l ih =>
      simp only [hsel]
      cases (Nat.ble a.1 pc && Nat.blt pc a.2.1)
      · exact ih
      · simp only [cond_true]
        split
        · exact hks _ _ _ _
        · exact ih
  unfold callp at hr ⊢
  cases hc : CL y2 as h with
  | none => rw [hc] at hr; split at hr <;> cases hr
  | some q =>
    rw [hc] at hr
    obtain ⟨n1, h1⟩ := RF_iff.mp hc
    obtain ⟨o, hq⟩ := q
    have fin : ∀ {n2 : Nat} {f : Nat → Res}, (∀ n m, n ≤ m → rle (f n) (f m)) → f n2 = some r → ∃ n, n1 ≤ n ∧ f n = some r := fun {n2} {f} hm h2 => ⟨max n1 n2, Nat.le_max_left _ _, hm _ _ (Nat.le_max_right _ _) r h2⟩
    have up : ∀ {n : Nat}, n1 ≤ n → ev n y2 0 (padn (nl y2) as) [] h = some (o, hq) := fun hn => ev_le hn _ _ _ _ _ _ h1
    cases o with
    | error e =>
      have h3 : hsel hs pc e (fun q k => RF y q (sl ls k .null) [] hq) (some (.error e, hq)) = some r := by split at hr <;> exact hr
      obtain ⟨n2, h2⟩ := hsl hs e hq h3
      obtain ⟨n, hn, h4⟩ := fin (f := fun n => hsel hs pc e (fun q k => ev n y q (sl ls k .null) [] hq) (some (.error e, hq))) (fun n m hnm => hsel_le (fun _ _ => ev_le hnm _ _ _ _ _) (rle_rf _)) h2
      refine ⟨n, ?_⟩
      simp only [up hn]
      split <;> exact h4
    | ok v =>
      split at hr <;> cases v <;> first | (exfalso; cases hr; done) | (obtain ⟨n2, h2⟩ := hks _ _ _ _ hr; obtain ⟨n, hn, h4⟩ := fin (f := fun n => ev n y _ _ _ _) (fun n m hnm => ev_le hnm _ _ _ _ _) h2; exact ⟨n, by simp only [up hn, bV, bI, bR, bD, bF]; exact h4⟩)
/-- THE EQUATION -/
theorem RF_eq (y pc : Nat) (ls st : List Value) (h : Hp) : RF y pc ls st h = (match cd y pc with
    | none => none
    | some q => stp none some (RF y) (callp (hd y) (RF y) CL pc q.2) rk y q.1 q.2 ls st h) := by
  refine res_ext (fun r hr => ?_) (fun r hr => ?_)
  · obtain ⟨n, hn⟩ := RF_iff.mp hr
    cases n with
    | zero => cases hn
    | succ n =>
      rw [ev] at hn
      cases hc : cd y pc with
      | none => rw [hc] at hn; cases hn
      | some q =>
        rw [hc] at hn
        dsimp only at hn ⊢
        rw [stp_el] at hn ⊢
        generalize stp none (fun r => some (.inl r)) tKs tCall rk y q.1 q.2 ls st h = t at hn ⊢
        have hE : ∀ (y pc : Nat) (ls st : List Value) (h : Hp), rle (ev n y pc ls st h) (RF y pc ls st h) := fun _ _ _ _ _ r hr => RF_iff.mpr ⟨n, hr⟩
        rcases t with _ | r2 | c | c
        · exact hn
        · exact hn
        · exact hE _ _ _ _ _ r hn
        · exact callp_le (ks := ev n y) (ks' := RF y) (cl := fun y2 as h => ev n y2 0 (padn (nl y2) as) [] h) (cl' := CL) (fun _ _ _ _ => hE _ _ _ _ _) (fun _ _ _ => hE _ _ _ _ _) _ _ _ _ _ _ _ _ r hn
  · cases hc : cd y pc with
    | none => rw [hc] at hr; cases hr
    | some q =>
      rw [hc] at hr
      dsimp only at hr
      rw [stp_el] at hr
      have key : ∃ n, stp none some (ev n y) (callp (hd y) (ev n y) (fun y2 as h => ev n y2 0 (padn (nl y2) as) [] h) pc q.2) rk y q.1 q.2 ls st h = some r := by
        simp only [stp_el (nn := (none : Res)) (fin := some)]
        generalize stp none (fun r => some (.inl r)) tKs tCall rk y q.1 q.2 ls st h = t at hr ⊢
        rcases t with _ | r2 | c | c
        · cases hr
        · exact ⟨0, hr⟩
        · exact RF_iff.mp hr
        · exact callp_cont hr
      obtain ⟨n, hn⟩ := key
      refine RF_iff.mpr ⟨n + 1, ?_⟩
      rw [ev, hc]
      exact hn
/-- some steps of it at once; at the places of a list (loop heads) it stops -/
def mem' : List Nat → Nat → Bool
  | [], _ => false
  | a :: l, k => match Nat.beq a k with
    | true => true
    | false => mem' l k
noncomputable def unr (cut : List Nat) : Nat → Nat → Nat → List Value → List Value → Hp → Res
  | 0, y, pc, ls, st, h => RF y pc ls st h
  | n + 1, y, pc, ls, st, h => match cd y pc with
    | none => none
    | some q => stp none some (fun pc' ls' st' h' => cond (mem' cut pc') (RF y pc' ls' st' h') (unr cut n y pc' ls' st' h')) (callp (hd y) (fun pc' ls' st' h' => cond (mem' cut pc') (RF y pc' ls' st' h') (unr cut n y pc' ls' st' h')) CL pc q.2) rk y q.1 q.2 ls st h
theorem RF_unr (cut : List Nat) : ∀ (n y pc : Nat) (ls st : List Value) (h : Hp), RF y pc ls st h = unr cut n y pc ls st h := by
  intro n
  induction n with
  | zero => intro y pc ls st h; rfl
  | succ n ih =>
    intro y pc ls st h
    have e : (fun (pc' : Nat) (ls' st' : List Value) (h' : Hp) => cond (mem' cut pc') (RF y pc' ls' st' h') (unr cut n y pc' ls' st' h')) = RF y := by
      funext pc' ls' st' h'
      rw [← ih]
      cases mem' cut pc' <;> rfl
    rw [unr, e, RF_eq]
