/-! calls whose answers are said in full only in their own rows -/
section J10
variable {i : Int} {σ τ σ' τ' : eS} {zA zB : Int}
theorem j_look {x0 x1 : Int} (hi : i ≤ 4096) (h : JJ i σ τ) (qA : QA σ σ' ∧ loA σ x0 x1 zA) (qB : QB τ τ' ∧ loB τ x0 x1 zB) : JJ (i + 8) σ' τ' ∧ zA = zB := ⟨j_keep hi h qA.1 qB.1, look_al h.2.1.1 h.1 h.2.2.2.1 qA.2 qB.2⟩
theorem j_bound {x0 x1 : Int} (hi : i ≤ 4096) (h : JJ i σ τ) (qA : QA σ σ' ∧ boS (evA σ x0) (σ (x0.toNat + 2) 1) (cT σ (x0.toNat + 2)) x1 zA) (qB : QB τ τ' ∧ boS (evB τ x0) (τ 1 x0) (cB τ x0) x1 zB) : JJ (i + 8) σ' τ' ∧ zA = zB := ⟨j_keep hi h qA.1 qB.1, bound_al h.2.1.1 h.1 h.2.2.2.1 qA.2 qB.2⟩
end J10
