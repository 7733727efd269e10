abbrev rgR : Nat → Int → Prop := fun c k => (c = 0 ∧ 9 ≤ k ∧ k ≤ 19) ∨ c = 6 ∨ c = 7
/-- the rows read so far -/
def uRows (σ : eS) (r w : Int) : Prop := ∀ i j, 0 ≤ i → i < r → 0 ≤ j → j < w → uOk σ (8 * i + j)
def RR (σ : eS) : Prop := 0 ≤ σ 0 18 ∧ σ 0 18 ≤ 8 ∧ 0 ≤ σ 0 19 ∧ σ 0 19 ≤ 8 ∧ uRows σ (σ 0 18) (σ 0 19)
def QrR (σ : eS) (σ' : eS) (z : Int) : Prop := fr rgR σ σ' ∧ Pz σ' ∧ ((z = 0 ∧ σ' 0 9 ≠ 0) ∨ (z = 1 ∧ σ 0 12 < σ' 0 12 ∧ RR σ' ∧ σ' 0 9 = σ 0 9))
