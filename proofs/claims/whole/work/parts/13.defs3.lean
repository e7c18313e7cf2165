theorem lcI_some {j : Nat} : lcI (some j) = nI j := rfl
theorem lcI_none : lcI none = (-9) := rfl
/-- what a day of the reference needs to know: the choice goes by f, z ships long -/
abbrev GO (σ : wS) (f : Nat → Nat) (z n d ly : Nat) : Prop := σ.1 14 7 = nI n ∧ σ.1 14 2 = nI d ∧ σ.1 14 4 = nI ly ∧ (∀ i, i < n → (σ.1 18 i = 0 ∨ σ.1 18 i = 1 ∨ σ.1 18 i = 2)) ∧ (∀ j, j < z → slO (gF (mdS σ d n) f (σ.1 15 d) d ly j).1 d n = some (f j)) ∧ slO (gF (mdS σ d n) f (σ.1 15 d) d ly z).1 d n = none ∧ z ≤ 10
