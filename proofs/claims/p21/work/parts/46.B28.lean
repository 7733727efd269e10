def bz (ρ : eS) (m : Int) : Prop := ∀ k, 0 ≤ k → k < m → ρ 22 k = 0 ∨ ρ 22 k = 1
abbrev rgX : Nat → Int → Prop := fun c _ => c = 21 ∨ c = 22
