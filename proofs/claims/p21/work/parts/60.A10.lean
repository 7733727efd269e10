def uA (σ : eS) (k : Int) : Prop := 1 ≤ σ 13 k ∧ σ 13 k ≤ 999999 ∧ 0 ≤ σ 12 k ∧ σ 12 k ≤ 999999
abbrev rgE : Nat → Int → Prop := fun c k => (c = 10 ∧ k = 8) ∨ c = 12 ∨ c = 13
