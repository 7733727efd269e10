abbrev rgD : Nat → Int → Prop := fun c k => c = 10 ∧ (k = 4 ∨ k = 5 ∨ k = 6)
def QD (σ σ' : eS) : Prop := fr rgD σ σ' ∧ σ 10 6 ≤ σ' 10 6 ∧ σ' 10 6 ≤ σ 10 3
theorem QD_tr {σ τ υ : eS} (h : QD σ τ) (g : QD τ υ) : QD σ υ := ⟨h.1.tr g.1, Int.le_trans h.2.1 g.2.1, by have := h.1 10 3 (by simp [rgD]); have := g.2.2; omega⟩
theorem QD_P {σ τ : eS} (hp : tP σ) (h : QD σ τ) : tP τ := by
  have := h.1 10 3 (by simp [rgD])
  obtain ⟨a, b, c, d⟩ := hp
  exact ⟨by omega, by omega, by have := h.2.1; omega, by have := h.2.2; omega⟩
theorem QD_f {σ : eS} (hp : tP σ) (a b : Int) : QD σ (up (up σ 10 4 a) 10 5 b) := ⟨fr_up (fr_up fr.rf (by simp [rgD])) (by simp [rgD]), by simp [up_if], by simp [up_if]; exact hp.2.2.2⟩
