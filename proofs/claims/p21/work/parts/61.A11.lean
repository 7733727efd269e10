def RA (σ : eS) : Prop := tP σ ∧ 0 ≤ σ 10 7 ∧ σ 10 7 ≤ 8 ∧ 0 ≤ σ 10 8 ∧ σ 10 8 ≤ 8 ∧ 0 ≤ σ 10 9 ∧ σ 10 9 ≤ 8 ∧ (∀ i j, 0 ≤ i → i < σ 10 7 → 0 ≤ j → j < σ 10 9 → uA σ (i * 8 + j)) ∧ (∀ j, σ 10 7 ≤ 7 → 0 ≤ j → j < σ 10 8 → uA σ (σ 10 7 * 8 + j)) ∧ (0 < σ 10 7 → σ 10 8 ≤ σ 10 9)
theorem RA_D {σ τ : eS} (h : RA σ) (q : QD σ τ) : RA τ := by
  obtain ⟨h0, h1, h2, h3, h4, h5, h6, h7, h8, h9⟩ := h
  have e7 : τ 10 7 = σ 10 7 := q.1 10 7 (by simp [rgD])
  have e8 : τ 10 8 = σ 10 8 := q.1 10 8 (by simp [rgD])
  have e9 : τ 10 9 = σ 10 9 := q.1 10 9 (by simp [rgD])
  have eu : ∀ k, uA τ k ↔ uA σ k := fun k => by unfold uA; rw [q.1 12 k (by simp [rgD]), q.1 13 k (by simp [rgD])]
  refine ⟨QD_P h0 q, ?_⟩
  rw [e7, e8, e9]
  exact ⟨h1, h2, h3, h4, h5, h6, fun i j a b c d => (eu _).mpr (h7 i j a b c d), fun j a b c => (eu _).mpr (h8 j a b c), h9⟩
abbrev rgJ : Nat → Int → Prop := fun c k => (c = 10 ∧ 4 ≤ k ∧ k ≤ 9) ∨ c = 12 ∨ c = 13
def QJ (σ σ' : eS) : Prop := fr rgJ σ σ' ∧ RA σ'
theorem QJ_D {σ τ : eS} (h : RA σ) (q : QD σ τ) : QJ σ τ := ⟨q.1.mono (fun c k w => by simp only [rgD, rgJ] at w ⊢; omega), RA_D h q⟩
