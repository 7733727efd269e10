theorem s_Mo_isTable_r {σ : eS} {s : Int} : MtI shB M_Mo_isTable [vr 0, vi s] σ (fun σ' z => σ' = σ ∧ ((z = 1 ∧ tabB σ s) ∨ (z = 0 ∧ ¬ tabB σ s))) := by
  by_cases h : tabB σ s
  · exact (s_Mo_isTable_y h).weaken (fun σ' v q => by obtain ⟨z, h1, h2, h3⟩ := q; exact ⟨z, h1, h2, Or.inl ⟨h3, h⟩⟩)
  · exact (s_Mo_isTable_n h).weaken (fun σ' v q => by obtain ⟨z, h1, h2, h3⟩ := q; exact ⟨z, h1, h2, Or.inr ⟨h3, h⟩⟩)
theorem s_Mo_isSlot_r {σ : eS} {s : Int} : MtI shB M_Mo_isSlot [vi s] σ (fun σ' z => σ' = σ ∧ ((z = 1 ∧ 0 ≤ s ∧ s < 4) ∨ (z = 0 ∧ ¬ (0 ≤ s ∧ s < 4)))) := by
  by_cases h : 0 ≤ s ∧ s < 4
  · exact (s_Mo_isSlot_y h).weaken (fun σ' v q => by obtain ⟨z, h1, h2, h3⟩ := q; exact ⟨z, h1, h2, Or.inl ⟨h3, h⟩⟩)
  · exact (s_Mo_isSlot_n h).weaken (fun σ' v q => by obtain ⟨z, h1, h2, h3⟩ := q; exact ⟨z, h1, h2, Or.inr ⟨h3, h⟩⟩)
theorem s_Mo_isIn_r {σ : eS} {v a b : Int} : MtI shB M_Mo_isIn [vl v, vl a, vl b] σ (fun σ' z => σ' = σ ∧ ((z = 1 ∧ a ≤ v ∧ v ≤ b) ∨ (z = 0 ∧ ¬ (a ≤ v ∧ v ≤ b)))) := by
  by_cases h : a ≤ v ∧ v ≤ b
  · exact (s_Mo_isIn_y h).weaken (fun σ' v q => by obtain ⟨z, h1, h2, h3⟩ := q; exact ⟨z, h1, h2, Or.inl ⟨h3, h⟩⟩)
  · exact (s_Mo_isIn_n h).weaken (fun σ' v q => by obtain ⟨z, h1, h2, h3⟩ := q; exact ⟨z, h1, h2, Or.inr ⟨h3, h⟩⟩)
/-- what a test says, where it isn't 0 -/
theorem yes1 {z : Int} {P : Prop} (h : (z = 1 ∧ P) ∨ (z = 0 ∧ ¬ P)) (hz : ¬ z = 0) : P := by
  rcases h with q | q
  · exact q.2
  · exact absurd q.1 hz
theorem no1 {z : Int} {P : Prop} (h : (z = 1 ∧ P) ∨ (z = 0 ∧ ¬ P)) (hz : z = 0) : ¬ P := by
  rcases h with q | q
  · omega
  · exact q.2
