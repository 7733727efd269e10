def uRA (σ : eS) : Prop := 0 ≤ σ 10 7 ∧ σ 10 7 ≤ 8 ∧ ∀ i j, 0 ≤ i → i < σ 10 7 → 0 ≤ j → j < σ 10 7 → uA σ (i * 8 + j)
