/-! the relation of both sides, call by call -/
def JJ (σ τ : eS) : Prop := IA σ ∧ IB τ ∧ TP σ τ ∧ TT σ τ
theorem JJ.iby {σ τ : eS} (h : JJ σ τ) : IB τ ∧ byt τ := ⟨h.2.1, h.2.2.1.2.2.1⟩
section J9
variable {σ τ σ' τ' : eS} {zA zB : Int}
theorem j_keep (h : JJ σ τ) (a : QA σ σ') (b : QB τ τ') : JJ σ' τ' := ⟨a.1, b.1, TP_keep h.2.2.1 a.2.1 b.2.1, TT_keep h.2.2.2 a.2.2 b.2.2⟩
theorem j_feed {a b c d e : Int} (h : JJ σ τ) (qA : IA σ' ∧ ((σ 10 3 + 20 ≤ 600 ∧ fdA σ (σ 10 3) a b c d e σ' ∧ zA = σ 10 3 + 20) ∨ (600 < σ 10 3 + 20 ∧ σ' = σ ∧ zA = -1))) (qB : IB τ' ∧ ((τ 0 6 + 20 ≤ 600 ∧ τ' = fd τ (τ 0 6) a b c d e ∧ zB = τ 0 6 + 20) ∨ (600 < τ 0 6 + 20 ∧ τ' = τ ∧ zB = -1))) : JJ σ' τ' ∧ zA = zB := by
  have t := TP_feed h.2.2.1 qA.2 qB.2
  refine ⟨⟨qA.1, qB.1, t.1, TT_keep h.2.2.2 ?_ ?_⟩, t.2⟩
  · rcases qA.2 with ⟨-, q, -⟩ | ⟨-, q, -⟩
    · exact fun c k x y z => q.1 c k (by simp only [rgG]; omega)
    · rw [q]; exact tbS_rf _
  · rcases qB.2 with ⟨-, q, -⟩ | ⟨-, q, -⟩
    · rw [q]; exact fun k => ⟨fd_o _ _ _ _ _ _ _ _ _ (by omega) (by omega), fd_o _ _ _ _ _ _ _ _ _ (by omega) (by omega), fd_o _ _ _ _ _ _ _ _ _ (by omega) (by omega)⟩
    · rw [q]; exact tbK_rf _
theorem j_end {n : Int} (h : JJ σ τ) (qA : IA σ' ∧ ((0 ≤ n ∧ n ≤ σ 10 3 ∧ σ' = up σ 10 3 n ∧ zA = 1) ∨ (¬ (0 ≤ n ∧ n ≤ σ 10 3) ∧ σ' = σ ∧ zA = 0))) (qB : IB τ' ∧ ((0 ≤ n ∧ n ≤ τ 0 6 ∧ τ' = up τ 0 6 n ∧ zB = 1) ∨ (¬ (0 ≤ n ∧ n ≤ τ 0 6) ∧ τ' = τ ∧ zB = 0))) : JJ σ' τ' ∧ zA = zB := by
  have t := TP_end h.2.2.1 qA.2 qB.2
  refine ⟨⟨qA.1, qB.1, t.1, TT_keep h.2.2.2 ?_ ?_⟩, t.2⟩
  · rcases qA.2 with ⟨-, -, q, -⟩ | ⟨-, q, -⟩
    · rw [q]; exact fun c k x y z => up_ne _ _ _ _ (by omega)
    · rw [q]; exact tbS_rf _
  · rcases qB.2 with ⟨-, -, q, -⟩ | ⟨-, q, -⟩
    · rw [q]; exact fun k => ⟨up_ne _ _ _ _ (by decide), up_ne _ _ _ _ (by decide), up_ne _ _ _ _ (by decide)⟩
    · rw [q]; exact tbK_rf _
theorem j_table {s : Int} (h : JJ σ τ) (qA : IA σ' ∧ σ' 10 3 = 0 ∧ TA σ s σ' zA) (qB : IB τ' ∧ τ' 0 6 = 0 ∧ TB τ s τ' zB) : JJ σ' τ' ∧ zA = zB :=
  have t := TP_table h.2.2.1 qA.2 qB.2
  ⟨⟨qA.1, qB.1, t.1, TT_table h.2.1.1 qA.1 h.2.2.1 h.2.2.2 qA.2 qB.2⟩, t.2⟩
theorem j_fault {w : Int} (h : JJ σ τ) (qA : QA σ σ' ∧ zA = if w = 0 then σ 10 4 else if w = 1 then σ 10 5 else -1) (qB : QB τ τ' ∧ zB = if w = 0 then τ 0 7 else if w = 1 then τ 0 8 else -1) : JJ σ' τ' ∧ zA = zB :=
  ⟨j_keep h qA.1 qB.1, by rw [qA.2, qB.2, h.2.2.1.2.2.2.1, h.2.2.1.2.2.2.2]⟩
theorem j_mix {x0 x1 x2 x3 x4 x5 x6 : Int} (h : JJ σ τ) (qA : QA0 σ σ' ∧ XmA σ x0 x1 x2 x3 x4 x5 x6 σ' zA) (qB : QB0 τ τ' ∧ XmB τ x0 x1 x2 x3 x4 x5 x6 τ' zB) : JJ σ' τ' ∧ zA = zB := 
  have t := TT_mix h.2.1.1 h.2.2.2 qA.2 qB.2
  ⟨⟨qA.1.1, qB.1.1, TP_keep h.2.2.1 qA.1.2 qB.1.2, t.1⟩, t.2⟩
theorem j_times {x0 x1 x2 : Int} (h : JJ σ τ) (qA : QA0 σ σ' ∧ XtA σ x0 x1 x2 σ' zA) (qB : QB0 τ τ' ∧ XtB τ x0 x1 x2 τ' zB) : JJ σ' τ' ∧ zA = zB := 
  have t := TT_times h.2.1.1 h.2.2.2 qA.2 qB.2
  ⟨⟨qA.1.1, qB.1.1, TP_keep h.2.2.1 qA.1.2 qB.1.2, t.1⟩, t.2⟩
theorem j_turn {x0 x1 x2 x3 : Int} (h : JJ σ τ) (qA : QA0 σ σ' ∧ XuA σ x0 x1 x2 x3 σ' zA) (qB : QB0 τ τ' ∧ XuB τ x0 x1 x2 x3 τ' zB) : JJ σ' τ' ∧ zA = zB := 
  have t := TT_turn h.2.1.1 h.2.2.2 qA.2 qB.2
  ⟨⟨qA.1.1, qB.1.1, TP_keep h.2.2.1 qA.1.2 qB.1.2, t.1⟩, t.2⟩
theorem j_cell {x0 x1 x2 : Int} (h : JJ σ τ) (qA : QA σ σ' ∧ ((celA σ x0 x1 x2 ∧ zA = cT σ (x0.toNat + 2) x1 x2) ∨ (¬ celA σ x0 x1 x2 ∧ zA = -1))) (qB : QB τ τ' ∧ ((celB τ x0 x1 x2 ∧ zB = cB τ x0 x1 x2) ∨ (¬ celB τ x0 x1 x2 ∧ zB = -1))) : JJ σ' τ' ∧ zA = zB := ⟨j_keep h qA.1 qB.1, cell_al h.2.1.1 h.2.2.2 qA.2 qB.2⟩
theorem j_uneven {x0 : Int} (h : JJ σ τ) (qA : QA σ σ' ∧ ((¬ tabA σ x0 ∧ zA = -1) ∨ (tabA σ x0 ∧ unev (rowT σ (x0.toNat + 2)) (colT σ (x0.toNat + 2)) (σ (x0.toNat + 2) 1) zA))) (qB : QB τ τ' ∧ ((¬ tabB τ x0 ∧ zB = -1) ∨ (tabB τ x0 ∧ unev (rowB τ x0) (colB τ x0) (τ 1 x0) zB))) : JJ σ' τ' ∧ zA = zB := ⟨j_keep h qA.1 qB.1, uneven_al h.2.1.1 h.2.2.2 qA.2 qB.2⟩
theorem j_lack {x0 x1 x2 : Int} (h : JJ σ τ) (qA : QA σ σ' ∧ ((¬ okL (tabA σ x0) x1 x2 ∧ zA = -1) ∨ (okL (tabA σ x0) x1 x2 ∧ zA = lackV (σ (x0.toNat + 2) 1) (fun i j => x1 ≤ cT σ (x0.toNat + 2) i j) x2))) (qB : QB τ τ' ∧ ((¬ okL (tabB τ x0) x1 x2 ∧ zB = -1) ∨ (okL (tabB τ x0) x1 x2 ∧ zB = lackV (τ 1 x0) (fun i j => x1 ≤ cB τ x0 i j) x2))) : JJ σ' τ' ∧ zA = zB := ⟨j_keep h qA.1 qB.1, lack_al h.2.1.1 h.2.2.2 qA.2 qB.2⟩
theorem j_permanent {x0 : Int} (h : JJ σ τ) (qA : QA σ σ' ∧ ((¬ tabA σ x0 ∧ zA = -1) ∨ (tabA σ x0 ∧ pmA (σ (x0.toNat + 2) 1) (cT σ (x0.toNat + 2)) zA))) (qB : QB τ τ' ∧ ((¬ tabB τ x0 ∧ zB = -1) ∨ (tabB τ x0 ∧ pmA (τ 1 x0) (cB τ x0) zB))) : JJ σ' τ' ∧ zA = zB := ⟨j_keep h qA.1 qB.1, perm_al h.2.1.1 h.2.2.2 qA.2 qB.2⟩
theorem j_ways {x0 x1 : Int} (h : JJ σ τ) (qA : QA σ σ' ∧ ((¬ okW (tabA σ x0) x1 ∧ zA = -1) ∨ (okW (tabA σ x0) x1 ∧ zA = wyV (σ (x0.toNat + 2) 1) (fun i j => x1 ≤ cT σ (x0.toNat + 2) i j)))) (qB : QB τ τ' ∧ ((¬ okW (tabB τ x0) x1 ∧ zB = -1) ∨ (okW (tabB τ x0) x1 ∧ zB = wyV (τ 1 x0) (fun i j => x1 ≤ cB τ x0 i j)))) : JJ σ' τ' ∧ zA = zB := ⟨j_keep h qA.1 qB.1, ways_al h.2.1.1 h.2.2.2 qA.2 qB.2⟩
theorem j_widest {x0 : Int} (h : JJ σ τ) (qA : QA σ σ' ∧ ((¬ tabA σ x0 ∧ zA = -1) ∨ (tabA σ x0 ∧ wdA (σ (x0.toNat + 2) 1) (fun i j => 0 ≤ cT σ (x0.toNat + 2) i j) (cT σ (x0.toNat + 2)) zA))) (qB : QB τ τ' ∧ ((¬ tabB τ x0 ∧ zB = -1) ∨ (tabB τ x0 ∧ wdA (τ 1 x0) (fun i j => 0 ≤ wk (wo τ x0 (τ 1 x0) (τ 1 x0 * τ 1 x0)) i j) (wk (wo τ x0 (τ 1 x0) (τ 1 x0 * τ 1 x0))) zB))) : JJ σ' τ' ∧ zA = zB := ⟨j_keep h qA.1 qB.1, widest_al h.2.1.1 h.2.2.2 qA.2 qB.2⟩
theorem j_best {x0 x1 : Int} (h : JJ σ τ) (qA : QA σ σ' ∧ ((¬ okBs (tabA σ x0) (σ (x0.toNat + 2) 1) x1 ∧ zA = -1) ∨ (okBs (tabA σ x0) (σ (x0.toNat + 2) 1) x1 ∧ bsA (σ (x0.toNat + 2) 1) (fun i j => 0 ≤ cT σ (x0.toNat + 2) i j) (cT σ (x0.toNat + 2)) x1 zA))) (qB : QB τ τ' ∧ ((¬ okBs (tabB τ x0) (τ 1 x0) x1 ∧ zB = -1) ∨ (okBs (tabB τ x0) (τ 1 x0) x1 ∧ bsA (τ 1 x0) (fun i j => 0 ≤ wk (wo τ x0 (τ 1 x0) (τ 1 x0 * τ 1 x0)) i j) (wk (wo τ x0 (τ 1 x0) (τ 1 x0 * τ 1 x0))) x1 zB))) : JJ σ' τ' ∧ zA = zB := ⟨j_keep h qA.1 qB.1, best_al h.2.1.1 h.2.2.2 qA.2 qB.2⟩
end J9
