theorem mul_bd2 {a b A B : Int} (h1 : 0 ≤ a ∧ a ≤ A) (h2 : 0 ≤ b ∧ b ≤ B) : 0 ≤ a * b ∧ a * b ≤ A * B :=
  ⟨Int.mul_nonneg h1.1 h2.1, Int.mul_le_mul h1.2 h2.2 h2.1 (by omega)⟩
theorem up_to {P : Int → Prop} {j : Int} (h : ∀ k, 0 ≤ k → k < j → P k) (hj : P j) : ∀ k, 0 ≤ k → k < j + 1 → P k := fun k a b => by
  rcases (by omega : k < j ∨ k = j) with q | q
  · exact h k a q
  · rw [q]; exact hj
def cS (σ : eS) (g n : Int) : Prop := ∀ i j, 0 ≤ i → i < n → 0 ≤ j → j < n → σ 15 (i * 8 + j) / g ≤ 99999999
abbrev rgBr (t : Nat) : Nat → Int → Prop := fun c _ => c = t ∨ c = t + 4
theorem up_su {σ : eS} {j z : Int} (h : iSu σ) (hz : 0 ≤ z) : iSu (up σ 15 j z) := fun k a b => by
  rw [up_if]
  by_cases q : k = j
  · rw [if_pos ⟨rfl, q⟩]; exact hz
  · rw [if_neg (fun y => q y.2)]; exact h k a b
abbrev rgSu : Nat → Int → Prop := fun c _ => c = 15
