/-! the relation of both sides, call by call -/
def JJ (σ τ : eS) : Prop := IA σ ∧ IB τ ∧ TP σ τ
theorem JJ.iby {σ τ : eS} (h : JJ σ τ) : IB τ ∧ byt τ := ⟨h.2.1, h.2.2.2.2.1⟩
section J9
variable {σ τ σ' τ' : eS} {zA zB : Int}
theorem j_keep (h : JJ σ τ) (a : QA σ σ') (b : QB τ τ') : JJ σ' τ' := ⟨a.1, b.1, TP_keep h.2.2 a.2.1 b.2.1⟩
theorem j_make (h : JJ σ τ) (a : QA0 σ σ') (b : QB0 τ τ') : JJ σ' τ' := ⟨a.1, b.1, TP_keep h.2.2 a.2 b.2⟩
theorem j_feed {a b c d e : Int} (h : JJ σ τ) (qA : IA σ' ∧ ((σ 10 3 + 20 ≤ 600 ∧ fdA σ (σ 10 3) a b c d e σ' ∧ zA = σ 10 3 + 20) ∨ (600 < σ 10 3 + 20 ∧ σ' = σ ∧ zA = -1))) (qB : IB τ' ∧ ((τ 0 6 + 20 ≤ 600 ∧ τ' = fd τ (τ 0 6) a b c d e ∧ zB = τ 0 6 + 20) ∨ (600 < τ 0 6 + 20 ∧ τ' = τ ∧ zB = -1))) : JJ σ' τ' ∧ zA = zB :=
  have t := TP_feed h.2.2 qA.2 qB.2
  ⟨⟨qA.1, qB.1, t.1⟩, t.2⟩
theorem j_end {n : Int} (h : JJ σ τ) (qA : IA σ' ∧ ((0 ≤ n ∧ n ≤ σ 10 3 ∧ σ' = up σ 10 3 n ∧ zA = 1) ∨ (¬ (0 ≤ n ∧ n ≤ σ 10 3) ∧ σ' = σ ∧ zA = 0))) (qB : IB τ' ∧ ((0 ≤ n ∧ n ≤ τ 0 6 ∧ τ' = up τ 0 6 n ∧ zB = 1) ∨ (¬ (0 ≤ n ∧ n ≤ τ 0 6) ∧ τ' = τ ∧ zB = 0))) : JJ σ' τ' ∧ zA = zB :=
  have t := TP_end h.2.2 qA.2 qB.2
  ⟨⟨qA.1, qB.1, t.1⟩, t.2⟩
theorem j_table {s : Int} (h : JJ σ τ) (qA : IA σ' ∧ σ' 10 3 = 0 ∧ TA σ s σ' zA) (qB : IB τ' ∧ τ' 0 6 = 0 ∧ TB τ s τ' zB) : JJ σ' τ' ∧ zA = zB :=
  have t := TP_table h.2.2 qA.2 qB.2
  ⟨⟨qA.1, qB.1, t.1⟩, t.2⟩
theorem j_fault {w : Int} (h : JJ σ τ) (qA : QA σ σ' ∧ zA = if w = 0 then σ 10 4 else if w = 1 then σ 10 5 else -1) (qB : QB τ τ' ∧ zB = if w = 0 then τ 0 7 else if w = 1 then τ 0 8 else -1) : JJ σ' τ' ∧ zA = zB :=
  ⟨j_keep h qA.1 qB.1, by rw [qA.2, qB.2, h.2.2.2.2.2.1, h.2.2.2.2.2.2]⟩
end J9
