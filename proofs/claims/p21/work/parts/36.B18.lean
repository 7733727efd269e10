/-- what is kept -/
def wtK (σ : eS) (p m : Int) : Prop := (∀ q, 0 ≤ q → q < p → 1 ≤ σ 12 q) ∧ sm (fun q => σ 12 q) p.toNat = m
def colK (σ : eS) (p n : Int) : Prop := ∀ q i, 0 ≤ q → q < p → 0 ≤ i → i < n → 0 ≤ σ 13 (8 * q + i) ∧ σ 13 (8 * q + i) < n
abbrev rgK : Nat → Int → Prop := fun c k => (c = 0 ∧ 27 ≤ k ∧ k ≤ 30) ∨ c = 9 ∨ c = 10 ∨ c = 11 ∨ c = 12 ∨ c = 13
def QK (σ : eS) (kind m : Int) (σ' : eS) (z : Int) : Prop := fr rgK σ σ' ∧ z = σ' 0 27 ∧ 1 ≤ z ∧ z ≤ 64 ∧ σ' 0 28 = σ 0 22 ∧ σ' 0 29 = m ∧ σ' 0 30 = kind ∧ wtK σ' z m ∧ colK σ' z (σ 0 22)
theorem np_bd (σ : eS) (h : nW σ) : 0 ≤ np σ ∧ np σ ≤ 64 := by
  have hn : 1 ≤ σ 0 22 ∧ σ 0 22 ≤ 8 := h
  obtain ⟨q1, q2⟩ := sq8 (n := σ 0 22) ⟨by omega, by omega⟩
  have := sm_bd (f := fun k => if 0 < σ 9 k then 1 else 0) (B := 1) (by decide) (n := (σ 0 22 * σ 0 22).toNat) (fun k a b => by split <;> omega)
  unfold np
  exact ⟨this.1, by omega⟩
theorem np_pos {σ : eS} {k : Int} (h0 : 0 ≤ k) (h1 : k < σ 0 22 * σ 0 22) (h2 : 0 < σ 9 k) : 1 ≤ np σ := by
  have := sm_le (f := fun k => if 0 < σ 9 k then 1 else 0) (n := (σ 0 22 * σ 0 22).toNat) (fun k a b => by split <;> omega) k h0 (by omega)
  rw [if_pos h2] at this
  exact this
