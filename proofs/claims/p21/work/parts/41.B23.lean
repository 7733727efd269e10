theorem cnt_ex {σ : eS} {s : Int} (hn : 0 ≤ σ 1 s ∧ σ 1 s ≤ 8) (h : ¬ cntB σ s = 0) : ∃ i j, 0 ≤ i ∧ i < σ 1 s ∧ 0 ≤ j ∧ j < σ 1 s ∧ 0 < cB σ s i j := by
  obtain ⟨k, a, b, c⟩ := sm_ex h
  have c' : 0 < σ 3 (64 * s + k) := by
    by_cases q : 0 < σ 3 (64 * s + k)
    · exact q
    · exact absurd (if_neg q) c
  have q8 := sq8 hn
  obtain ⟨n, en⟩ : ∃ n, n = σ 1 s := ⟨_, rfl⟩
  have hn0 : n ≠ 0 := by
    intro q
    rw [← en, q] at b
    simp at b
    omega
  rw [← en] at hn b q8
  have g1 := Int.mul_ediv_add_emod k n
  have g2 := Int.emod_nonneg k hn0
  have g3 := Int.emod_lt_of_pos k (by omega : 0 < n)
  have g4 : k / n < n := Int.ediv_lt_of_lt_mul (by omega) (by omega)
  have g5 : 0 ≤ k / n := Int.ediv_nonneg a (by omega)
  refine ⟨k / n, k % n, g5, by omega, g2, by omega, ?_⟩
  unfold cB
  rw [← en, show 64 * s + n * (k / n) + k % n = 64 * s + k by omega]
  exact c'
