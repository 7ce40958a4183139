section PG
variable {h : Hp} {x : Nat → Nat} {n : Nat}
theorem Ko.fr {f f' : Nat → Nat → Int32} (F : Ko f) (H : ∀ a y, a < 31 → f' a y = f a y) : Ko f' := fun a h1 h2 k => (H a k (by omega)).trans (F a h1 h2 k)
end PG
section EX
variable {h : Hp}
end EX
