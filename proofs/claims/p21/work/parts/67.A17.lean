abbrev rgFi (t : Nat) : Nat → Int → Prop := fun c k => (c = 10 ∧ (k = 4 ∨ k = 5)) ∨ (c = t ∧ (k = 1 ∨ k = 2 ∨ k = 3 ∨ k = 4 ∨ k = 6)) ∨ c = t + 4
theorem mT_cg {σ τ : eS} {t : Nat} (h : mT σ t) (e1 : τ t 1 = σ t 1) (e3 : τ t 3 = σ t 3) (e : ∀ k, τ (t + 4) k = σ (t + 4) k) : mT τ t := by
  have r : rowT τ t = rowT σ t := by funext i; unfold rowT cT; simp only [e1, e]
  have c : colT τ t = colT σ t := by funext i; unfold colT cT; simp only [e1, e]
  unfold mT evT
  rw [r, c, e1, e3]
  exact h
theorem tA_10 {t : Nat} (h : tA t) : t ≠ 10 ∧ t + 4 ≠ 10 ∧ t ≠ 11 ∧ t ≠ 12 ∧ t ≠ 13 ∧ t + 4 ≠ 11 ∧ t + 4 ≠ 12 ∧ t + 4 ≠ 13 ∧ t ≤ 5 ∧ 2 ≤ t := by
  unfold tA at h
  omega
