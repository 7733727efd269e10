/-! both sides side by side: the tapes -/
def TP (σ τ : eS) : Prop := σ 10 3 = τ 0 6 ∧ aB (σ 11) (τ 5) (τ 0 6) ∧ byt τ ∧ σ 10 4 = τ 0 7 ∧ σ 10 5 = τ 0 8
theorem TP_keep {σ τ σ' τ' : eS} (h : TP σ τ) (a : tpS σ σ') (b : tpB τ τ') : TP σ' τ' := by
  obtain ⟨a1, a2⟩ := a
  obtain ⟨b1, b2, b3, b4⟩ := b
  obtain ⟨h1, h2, h3, h4, h5⟩ := h
  refine ⟨by rw [a1, b1, h1], fun i x y => ?_, fun k x y => ?_, by rw [a1, b2, h4], by rw [a1, b3, h5]⟩
  · rw [a2, b4]; exact h2 i x (by omega)
  · rw [b4]; exact h3 k x (by omega)
theorem TP_feed {σ τ σ' τ' : eS} {zA zB a b c d e : Int} (h : TP σ τ) (qA : (σ 10 3 + 20 ≤ 600 ∧ fdA σ (σ 10 3) a b c d e σ' ∧ zA = σ 10 3 + 20) ∨ (600 < σ 10 3 + 20 ∧ σ' = σ ∧ zA = -1)) (qB : (τ 0 6 + 20 ≤ 600 ∧ τ' = fd τ (τ 0 6) a b c d e ∧ zB = τ 0 6 + 20) ∨ (600 < τ 0 6 + 20 ∧ τ' = τ ∧ zB = -1)) : TP σ' τ' ∧ zA = zB := by
  obtain ⟨h1, h2, h3, h4, h5⟩ := id h
  rcases qA with ⟨a1, a2, a3⟩ | ⟨a1, a2, a3⟩ <;> rcases qB with ⟨b1, b2, b3⟩ | ⟨b1, b2, b3⟩
  · rw [h1] at a2
    subst b2
    refine ⟨⟨by rw [a2.2.1, fd_6], ?_, fun k x y => ?_, ?_, ?_⟩, by omega⟩
    · rw [fd_6]; exact fd_al h2 a2
    · rw [fd_6] at y; exact fd_nn h3 k x y
    · rw [a2.1 10 4 (by simp [rgG]), fd_o _ _ _ _ _ _ _ _ _ (by omega) (by omega)]; exact h4
    · rw [a2.1 10 5 (by simp [rgG]), fd_o _ _ _ _ _ _ _ _ _ (by omega) (by omega)]; exact h5
  · omega
  · omega
  · subst a2; subst b2; exact ⟨h, by omega⟩
theorem TP_end {σ τ σ' τ' : eS} {zA zB n : Int} (h : TP σ τ) (qA : (0 ≤ n ∧ n ≤ σ 10 3 ∧ σ' = up σ 10 3 n ∧ zA = 1) ∨ (¬ (0 ≤ n ∧ n ≤ σ 10 3) ∧ σ' = σ ∧ zA = 0)) (qB : (0 ≤ n ∧ n ≤ τ 0 6 ∧ τ' = up τ 0 6 n ∧ zB = 1) ∨ (¬ (0 ≤ n ∧ n ≤ τ 0 6) ∧ τ' = τ ∧ zB = 0)) : TP σ' τ' ∧ zA = zB := by
  obtain ⟨h1, h2, h3, h4, h5⟩ := id h
  rcases qA with ⟨a1, a2, a3, a4⟩ | ⟨a1, a2, a3⟩ <;> rcases qB with ⟨b1, b2, b3, b4⟩ | ⟨b1, b2, b3⟩
  · subst a3; subst b3
    refine ⟨⟨by rw [up_same, up_same], fun i x y => ?_, fun k x y => ?_, ?_, ?_⟩, by omega⟩
    · rw [up_same] at y
      rw [up_ne _ _ _ _ (by decide), up_ne _ _ _ _ (by decide)]
      exact h2 i x (by omega)
    · rw [up_same] at y
      rw [up_ne _ _ _ _ (by decide)]
      exact h3 k x (by omega)
    · rw [up_nk _ _ _ _ (by decide), up_nk _ _ _ _ (by decide)]; exact h4
    · rw [up_nk _ _ _ _ (by decide), up_nk _ _ _ _ (by decide)]; exact h5
  · omega
  · omega
  · subst a2; subst b2; exact ⟨h, by omega⟩
theorem aO_of {σ τ : eS} (h : TP σ τ) : aO (RAr σ) (RB τ) := by
  unfold RAr RB
  rw [h.1]
  exact PR_al h.2.1 _ _ _ _
theorem TP_table {σ τ σ' τ' : eS} {zA zB s : Int} (h : TP σ τ) (qA : σ' 10 3 = 0 ∧ TA σ s σ' zA) (qB : τ' 0 6 = 0 ∧ TB τ s τ' zB) : TP σ' τ' ∧ zA = zB := by
  have al := aO_of h
  obtain ⟨h1, h2, h3, h4, h5⟩ := id h
  obtain ⟨a6, qA⟩ := qA
  obtain ⟨b6, qB⟩ := qB
  have key : zA = zB ∧ σ' 10 4 = τ' 0 7 ∧ σ' 10 5 = τ' 0 8 := by
    rcases qA with ⟨a0, a1, a2, a3, -⟩ | ⟨a0, aS, a1, -⟩ <;> rcases qB with ⟨b0, b1, b2, b3, -⟩ | ⟨b0, b1, -⟩
    · omega
    · omega
    · omega
    · rw [h1] at a1
      exact tbO_un al aS a1 b1
  exact ⟨⟨by omega, fun i x y => by omega, fun k x y => by omega, key.2.1, key.2.2⟩, key.1⟩
