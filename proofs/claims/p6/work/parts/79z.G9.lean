/-! the relation of both sides, call by call -/
/-- few searches were made up to the place i of the script -/
def sr (i : Int) (σ : eS) : Prop := iSe σ ∧ σ 16 3 ≤ 2500 * i
def JJ (i : Int) (σ τ : eS) : Prop := IA σ ∧ IB τ ∧ TP σ τ ∧ TT σ τ ∧ (MM σ τ ∧ SS σ τ) ∧ sr i σ
theorem JJ.iby {i : Int} {σ τ : eS} (h : JJ i σ τ) : IB τ ∧ byt τ := ⟨h.2.1, h.2.2.1.2.2.1⟩
theorem JJ.pe {i : Int} {σ τ : eS} (h : JJ i σ τ) (hi : i ≤ 4096) : IA σ ∧ iSe σ ∧ σ 16 3 + 64 < 2147483647 := ⟨h.1, h.2.2.2.2.2.1, by have := h.2.2.2.2.2.2; omega⟩
theorem sr_s {i : Int} {σ σ' : eS} (hi : i ≤ 4096) (h : sr i σ) (k : mkS 20000 σ σ') : sr (i + 8) σ' := by
  obtain ⟨a, b⟩ := h
  obtain ⟨c, d, e⟩ := k a (by omega)
  exact ⟨c, by omega⟩
/-- the parts and the searches, where a call leaves them -/
theorem ot_s {i : Int} {σ τ σ' τ' : eS} (hi : i ≤ 4096) (h : JJ i σ τ) (a : otS σ σ') (b : otK τ τ') : (MM σ' τ' ∧ SS σ' τ') ∧ sr (i + 8) σ' := ⟨⟨MM_keep h.2.2.2.2.1.1 a.1 b.1, SS_keep h.2.2.2.2.1.2 a.2.1 b.2⟩, sr_s hi h.2.2.2.2.2 a.2.2⟩
theorem JJ.mn {i : Int} {σ τ : eS} (h : JJ i σ τ) : JJ (i + 8) σ τ := ⟨h.1, h.2.1, h.2.2.1, h.2.2.2.1, h.2.2.2.2.1, h.2.2.2.2.2.1, by have := h.2.2.2.2.2.2; omega⟩
section J9
variable {i : Int} {σ τ σ' τ' : eS} {zA zB : Int}
theorem j_keep (hi : i ≤ 4096) (h : JJ i σ τ) (a : QA σ σ') (b : QB τ τ') : JJ (i + 8) σ' τ' :=
  have o := ot_s hi h a.2.2.2 b.2.2.2
  ⟨a.1, b.1, TP_keep h.2.2.1 a.2.1 b.2.1, TT_keep h.2.2.2.1 a.2.2.1 b.2.2.1, o.1, o.2⟩
theorem j_keepK (hi : i ≤ 4096) (h : JJ i σ τ) (a : QAk σ σ') (b : QB τ τ') : JJ (i + 8) σ' τ' :=
  have o := ot_s hi h a.2.2.2 b.2.2.2
  ⟨a.1, b.1, TP_keep h.2.2.1 a.2.1 b.2.1, TT_keepW h.2.2.2.1 a.2.2.1.v b.2.2.1, o.1, o.2⟩
theorem j_keepR (hi : i ≤ 4096) (h : JJ i σ τ) (a : QAr σ σ') (b : QB τ τ') : JJ (i + 8) σ' τ' :=
  have o := ot_s hi h a.2.2.2 b.2.2.2
  ⟨a.1, b.1, TP_keep h.2.2.1 a.2.1 b.2.1, TT_keepW h.2.2.2.1 a.2.2.1.v b.2.2.1, o.1, o.2⟩
theorem j_show (hi : i ≤ 4096) (h : JJ i σ τ) (qA : QAw σ σ' ∧ zA = σ' 46 1 ∧ bfl (fun k => σ' 47 k) (σ' 46 1) (shL (wA σ) (kA σ) (σ 22 4) (σ 22 5).toNat)) (qB : QBw τ τ' ∧ zB = τ' 0 42 ∧ bfl (fun k => τ' 23 k) (τ' 0 42) (shL (wB τ) (kB τ) (τ 0 28) (τ 0 27).toNat)) : JJ (i + 8) σ' τ' ∧ zA = zB :=
  have t := SS_show h.2.2.2.2.1.1 qA.2 qB.2
  have a := qA.1
  have b := qB.1
  ⟨⟨a.1, b.1, TP_keep h.2.2.1 a.2.1 b.2.1, TT_keep h.2.2.2.1 a.2.2.1 b.2.2.1, ⟨MM_keep h.2.2.2.2.1.1 a.2.2.2.1 b.2.2.2, t.1⟩, sr_s hi h.2.2.2.2.2 a.2.2.2.2⟩, t.2⟩
theorem j_out {x0 : Int} (hi : i ≤ 4096) (h : JJ i σ τ) (qA : QA σ σ' ∧ ouS (σ 46 1) (fun k => σ 47 k) x0 zA) (qB : QB τ τ' ∧ ouS (τ 0 42) (fun k => τ 23 k) x0 zB) : JJ (i + 8) σ' τ' ∧ zA = zB := ⟨j_keep hi h qA.1 qB.1, out_al h.2.2.2.2.1.2 qA.2 qB.2⟩
theorem j_feed {a b c d e : Int} (hi : i ≤ 4096) (h : JJ i σ τ) (qA : IA σ' ∧ ((σ 10 3 + 20 ≤ 600 ∧ fdA σ (σ 10 3) a b c d e σ' ∧ zA = σ 10 3 + 20) ∨ (600 < σ 10 3 + 20 ∧ σ' = σ ∧ zA = -1))) (qB : IB τ' ∧ ((τ 0 6 + 20 ≤ 600 ∧ τ' = fd τ (τ 0 6) a b c d e ∧ zB = τ 0 6 + 20) ∨ (600 < τ 0 6 + 20 ∧ τ' = τ ∧ zB = -1))) : JJ (i + 8) σ' τ' ∧ zA = zB := by
  have t := TP_feed h.2.2.1 qA.2 qB.2
  have o : otS σ σ' ∧ otK τ τ' := by
    constructor
    · rcases qA.2 with ⟨-, q, -⟩ | ⟨-, q, -⟩
      · exact otS_fr q.1 (fun c k w => by simp only [rgG]; omega)
      · rw [q]; exact otS_rf _
    · rcases qB.2 with ⟨-, q, -⟩ | ⟨-, q, -⟩
      · rw [q]; exact ⟨fun c k w => fd_o _ _ _ _ _ _ _ _ _ (by omega) (by omega), fd_o _ _ _ _ _ _ _ _ _ (by omega) (by omega), fun k => fd_o _ _ _ _ _ _ _ _ _ (by omega) (by omega)⟩
      · rw [q]; exact otK_rf _
  refine ⟨⟨qA.1, qB.1, t.1, TT_keep h.2.2.2.1 ?_ ?_, (ot_s hi h o.1 o.2).1, (ot_s hi h o.1 o.2).2⟩, t.2⟩
  · rcases qA.2 with ⟨-, q, -⟩ | ⟨-, q, -⟩
    · exact fun c k x y z => q.1 c k (by simp only [rgG]; omega)
    · rw [q]; exact tbS_rf _
  · rcases qB.2 with ⟨-, q, -⟩ | ⟨-, q, -⟩
    · rw [q]; exact fun k => ⟨fd_o _ _ _ _ _ _ _ _ _ (by omega) (by omega), fd_o _ _ _ _ _ _ _ _ _ (by omega) (by omega), fd_o _ _ _ _ _ _ _ _ _ (by omega) (by omega)⟩
    · rw [q]; exact tbK_rf _
theorem j_end {n : Int} (hi : i ≤ 4096) (h : JJ i σ τ) (qA : IA σ' ∧ ((0 ≤ n ∧ n ≤ σ 10 3 ∧ σ' = up σ 10 3 n ∧ zA = 1) ∨ (¬ (0 ≤ n ∧ n ≤ σ 10 3) ∧ σ' = σ ∧ zA = 0))) (qB : IB τ' ∧ ((0 ≤ n ∧ n ≤ τ 0 6 ∧ τ' = up τ 0 6 n ∧ zB = 1) ∨ (¬ (0 ≤ n ∧ n ≤ τ 0 6) ∧ τ' = τ ∧ zB = 0))) : JJ (i + 8) σ' τ' ∧ zA = zB := by
  have t := TP_end h.2.2.1 qA.2 qB.2
  have o : otS σ σ' ∧ otK τ τ' := by
    constructor
    · rcases qA.2 with ⟨-, -, q, -⟩ | ⟨-, q, -⟩
      · rw [q]; exact otS_fr (P := fun c k => c = 10 ∧ k = 3) (fr_up fr.rf ⟨rfl, rfl⟩) (fun c k w => by omega)
      · rw [q]; exact otS_rf _
    · rcases qB.2 with ⟨-, -, q, -⟩ | ⟨-, q, -⟩
      · rw [q]; exact ⟨fun c k w => by rw [up_if, if_neg (by omega)], up_nk _ _ _ _ (by decide), fun k => up_ne _ _ _ _ (by decide)⟩
      · rw [q]; exact otK_rf _
  refine ⟨⟨qA.1, qB.1, t.1, TT_keep h.2.2.2.1 ?_ ?_, (ot_s hi h o.1 o.2).1, (ot_s hi h o.1 o.2).2⟩, t.2⟩
  · rcases qA.2 with ⟨-, -, q, -⟩ | ⟨-, q, -⟩
    · rw [q]; exact fun c k x y z => up_ne _ _ _ _ (by omega)
    · rw [q]; exact tbS_rf _
  · rcases qB.2 with ⟨-, -, q, -⟩ | ⟨-, q, -⟩
    · rw [q]; exact fun k => ⟨up_ne _ _ _ _ (by decide), up_ne _ _ _ _ (by decide), up_ne _ _ _ _ (by decide)⟩
    · rw [q]; exact tbK_rf _
theorem j_table {s : Int} (hi : i ≤ 4096) (h : JJ i σ τ) (qA : IA σ' ∧ (σ' 10 3 = 0 ∧ TA σ s σ' zA) ∧ otS σ σ') (qB : IB τ' ∧ (τ' 0 6 = 0 ∧ TB τ s τ' zB) ∧ otK τ τ') : JJ (i + 8) σ' τ' ∧ zA = zB :=
  have t := TP_table h.2.2.1 qA.2.1 qB.2.1
  have o := ot_s hi h qA.2.2 qB.2.2
  ⟨⟨qA.1, qB.1, t.1, TT_table h.2.1.1 qA.1 h.2.2.1 h.2.2.2.1 qA.2.1 qB.2.1, o.1, o.2⟩, t.2⟩
theorem j_fault {w : Int} (hi : i ≤ 4096) (h : JJ i σ τ) (qA : QA σ σ' ∧ zA = if w = 0 then σ 10 4 else if w = 1 then σ 10 5 else -1) (qB : QB τ τ' ∧ zB = if w = 0 then τ 0 7 else if w = 1 then τ 0 8 else -1) : JJ (i + 8) σ' τ' ∧ zA = zB :=
  ⟨j_keep hi h qA.1 qB.1, by rw [qA.2, qB.2, h.2.2.1.2.2.2.1, h.2.2.1.2.2.2.2]⟩
theorem j_mix {x0 x1 x2 x3 x4 x5 x6 : Int} (hi : i ≤ 4096) (h : JJ i σ τ) (qA : QA0 σ σ' ∧ XmA σ x0 x1 x2 x3 x4 x5 x6 σ' zA) (qB : QB0 τ τ' ∧ XmB τ x0 x1 x2 x3 x4 x5 x6 τ' zB) : JJ (i + 8) σ' τ' ∧ zA = zB := 
  have t := TT_mix h.2.1.1 h.2.2.2.1 qA.2 qB.2
  have o := ot_s hi h qA.1.2.2 qB.1.2.2
  ⟨⟨qA.1.1, qB.1.1, TP_keep h.2.2.1 qA.1.2.1 qB.1.2.1, t.1, o.1, o.2⟩, t.2⟩
theorem j_times {x0 x1 x2 : Int} (hi : i ≤ 4096) (h : JJ i σ τ) (qA : QA0 σ σ' ∧ XtA σ x0 x1 x2 σ' zA) (qB : QB0 τ τ' ∧ XtB τ x0 x1 x2 τ' zB) : JJ (i + 8) σ' τ' ∧ zA = zB := 
  have t := TT_times h.2.1.1 h.2.2.2.1 qA.2 qB.2
  have o := ot_s hi h qA.1.2.2 qB.1.2.2
  ⟨⟨qA.1.1, qB.1.1, TP_keep h.2.2.1 qA.1.2.1 qB.1.2.1, t.1, o.1, o.2⟩, t.2⟩
theorem j_turn {x0 x1 x2 x3 : Int} (hi : i ≤ 4096) (h : JJ i σ τ) (qA : QA0 σ σ' ∧ XuA σ x0 x1 x2 x3 σ' zA) (qB : QB0 τ τ' ∧ XuB τ x0 x1 x2 x3 τ' zB) : JJ (i + 8) σ' τ' ∧ zA = zB := 
  have t := TT_turn h.2.1.1 h.2.2.2.1 qA.2 qB.2
  have o := ot_s hi h qA.1.2.2 qB.1.2.2
  ⟨⟨qA.1.1, qB.1.1, TP_keep h.2.2.1 qA.1.2.1 qB.1.2.1, t.1, o.1, o.2⟩, t.2⟩
theorem j_cell {x0 x1 x2 : Int} (hi : i ≤ 4096) (h : JJ i σ τ) (qA : QA σ σ' ∧ ((celA σ x0 x1 x2 ∧ zA = cT σ (x0.toNat + 2) x1 x2) ∨ (¬ celA σ x0 x1 x2 ∧ zA = -1))) (qB : QB τ τ' ∧ ((celB τ x0 x1 x2 ∧ zB = cB τ x0 x1 x2) ∨ (¬ celB τ x0 x1 x2 ∧ zB = -1))) : JJ (i + 8) σ' τ' ∧ zA = zB := ⟨j_keep hi h qA.1 qB.1, cell_al h.2.1.1 h.2.2.2.1 qA.2 qB.2⟩
theorem j_uneven {x0 : Int} (hi : i ≤ 4096) (h : JJ i σ τ) (qA : QA σ σ' ∧ ((¬ tabA σ x0 ∧ zA = -1) ∨ (tabA σ x0 ∧ unev (rowT σ (x0.toNat + 2)) (colT σ (x0.toNat + 2)) (σ (x0.toNat + 2) 1) zA))) (qB : QB τ τ' ∧ ((¬ tabB τ x0 ∧ zB = -1) ∨ (tabB τ x0 ∧ unev (rowB τ x0) (colB τ x0) (τ 1 x0) zB))) : JJ (i + 8) σ' τ' ∧ zA = zB := ⟨j_keep hi h qA.1 qB.1, uneven_al h.2.1.1 h.2.2.2.1 qA.2 qB.2⟩
theorem j_lack {x0 x1 x2 : Int} (hi : i ≤ 4096) (h : JJ i σ τ) (qA : QA σ σ' ∧ ((¬ okL (tabA σ x0) x1 x2 ∧ zA = -1) ∨ (okL (tabA σ x0) x1 x2 ∧ zA = lackV (σ (x0.toNat + 2) 1) (fun i j => x1 ≤ cT σ (x0.toNat + 2) i j) x2))) (qB : QB τ τ' ∧ ((¬ okL (tabB τ x0) x1 x2 ∧ zB = -1) ∨ (okL (tabB τ x0) x1 x2 ∧ zB = lackV (τ 1 x0) (fun i j => x1 ≤ cB τ x0 i j) x2))) : JJ (i + 8) σ' τ' ∧ zA = zB := ⟨j_keep hi h qA.1 qB.1, lack_al h.2.1.1 h.2.2.2.1 qA.2 qB.2⟩
theorem j_permanent {x0 : Int} (hi : i ≤ 4096) (h : JJ i σ τ) (qA : QA σ σ' ∧ ((¬ tabA σ x0 ∧ zA = -1) ∨ (tabA σ x0 ∧ pmA (σ (x0.toNat + 2) 1) (cT σ (x0.toNat + 2)) zA))) (qB : QB τ τ' ∧ ((¬ tabB τ x0 ∧ zB = -1) ∨ (tabB τ x0 ∧ pmA (τ 1 x0) (cB τ x0) zB))) : JJ (i + 8) σ' τ' ∧ zA = zB := ⟨j_keep hi h qA.1 qB.1, perm_al h.2.1.1 h.2.2.2.1 qA.2 qB.2⟩
theorem j_ways {x0 x1 : Int} (hi : i ≤ 4096) (h : JJ i σ τ) (qA : QA σ σ' ∧ ((¬ okW (tabA σ x0) x1 ∧ zA = -1) ∨ (okW (tabA σ x0) x1 ∧ zA = wyV (σ (x0.toNat + 2) 1) (fun i j => x1 ≤ cT σ (x0.toNat + 2) i j)))) (qB : QB τ τ' ∧ ((¬ okW (tabB τ x0) x1 ∧ zB = -1) ∨ (okW (tabB τ x0) x1 ∧ zB = wyV (τ 1 x0) (fun i j => x1 ≤ cB τ x0 i j)))) : JJ (i + 8) σ' τ' ∧ zA = zB := ⟨j_keep hi h qA.1 qB.1, ways_al h.2.1.1 h.2.2.2.1 qA.2 qB.2⟩
theorem j_widest {x0 : Int} (hi : i ≤ 4096) (h : JJ i σ τ) (qA : QA σ σ' ∧ ((¬ tabA σ x0 ∧ zA = -1) ∨ (tabA σ x0 ∧ wdA (σ (x0.toNat + 2) 1) (fun i j => 0 ≤ cT σ (x0.toNat + 2) i j) (cT σ (x0.toNat + 2)) zA))) (qB : QB τ τ' ∧ ((¬ tabB τ x0 ∧ zB = -1) ∨ (tabB τ x0 ∧ wdA (τ 1 x0) (fun i j => 0 ≤ wk (wo τ x0 (τ 1 x0) (τ 1 x0 * τ 1 x0)) i j) (wk (wo τ x0 (τ 1 x0) (τ 1 x0 * τ 1 x0))) zB))) : JJ (i + 8) σ' τ' ∧ zA = zB := ⟨j_keep hi h qA.1 qB.1, widest_al h.2.1.1 h.2.2.2.1 qA.2 qB.2⟩
theorem j_best {x0 x1 : Int} (hi : i ≤ 4096) (h : JJ i σ τ) (qA : QA σ σ' ∧ ((¬ okBs (tabA σ x0) (σ (x0.toNat + 2) 1) x1 ∧ zA = -1) ∨ (okBs (tabA σ x0) (σ (x0.toNat + 2) 1) x1 ∧ bsA (σ (x0.toNat + 2) 1) (fun i j => 0 ≤ cT σ (x0.toNat + 2) i j) (cT σ (x0.toNat + 2)) x1 zA))) (qB : QB τ τ' ∧ ((¬ okBs (tabB τ x0) (τ 1 x0) x1 ∧ zB = -1) ∨ (okBs (tabB τ x0) (τ 1 x0) x1 ∧ bsA (τ 1 x0) (fun i j => 0 ≤ wk (wo τ x0 (τ 1 x0) (τ 1 x0 * τ 1 x0)) i j) (wk (wo τ x0 (τ 1 x0) (τ 1 x0 * τ 1 x0))) x1 zB))) : JJ (i + 8) σ' τ' ∧ zA = zB := ⟨j_keep hi h qA.1 qB.1, best_al h.2.1.1 h.2.2.2.1 qA.2 qB.2⟩
theorem j_weight {x0 x1 : Int} (hi : i ≤ 4096) (h : JJ i σ τ) (qA : QA σ σ' ∧ ((1 ≤ σ 22 6 → wtS (σ 22 5) (σ 22 6) (wA σ) x0 x1 zA) ∧ (σ 22 5 = 0 → zA = -1))) (qB : QB τ τ' ∧ wtS (τ 0 27) (τ 0 29) (wB τ) x0 x1 zB) : JJ (i + 8) σ' τ' ∧ zA = zB := ⟨j_keep hi h qA.1 qB.1, weight_al h.2.1.2.1 h.2.2.2.2.1.1 qA.2 qB.2⟩
theorem j_draw {x0 : Int} (hi : i ≤ 4096) (h : JJ i σ τ) (qA : QA σ σ' ∧ drS (σ 22 5) (wA σ) x0 zA) (qB : QB τ τ' ∧ drS (τ 0 27) (wB τ) x0 zB) : JJ (i + 8) σ' τ' ∧ zA = zB := ⟨j_keep hi h qA.1 qB.1, draw_al h.2.1.2.1 h.2.2.2.2.1.1 qA.2 qB.2⟩
theorem j_joint {x0 x1 x2 x3 x4 : Int} (hi : i ≤ 4096) (h : JJ i σ τ) (qA : QA σ σ' ∧ ((1 ≤ σ 22 6 → jtS (σ 22 5) (σ 22 4) (σ 22 6) (wA σ) (kA σ) x0 x1 x2 x3 x4 zA) ∧ (σ 22 4 = 0 → zA = -1))) (qB : QB τ τ' ∧ ((τ 0 27 ≠ 0 → jtS (τ 0 27) (τ 0 28) (τ 0 29) (wB τ) (kB τ) x0 x1 x2 x3 x4 zB) ∧ (τ 0 27 = 0 → zB = -1))) : JJ (i + 8) σ' τ' ∧ zA = zB := ⟨j_keep hi h qA.1 qB.1, joint_al h.2.1.2.1 h.2.2.2.2.1.1 qA.2 qB.2⟩
theorem j_most {x0 x1 : Int} (hi : i ≤ 4096) (h : JJ i σ τ) (qA : QA σ σ' ∧ mtS (σ 22 5) (σ 22 4) (wA σ) (kA σ) x0 x1 zA) (qB : QB τ τ' ∧ moS (τ 0 27) (τ 0 28) (wB τ) (kB τ) x0 x1 zB) : JJ (i + 8) σ' τ' ∧ zA = zB := ⟨j_keep hi h qA.1 qB.1, most_al h.2.1.2.1 h.2.2.2.2.1.1 qA.2 qB.2⟩
theorem j_works {x0 x1 : Int} (hi : i ≤ 4096) (h : JJ i σ τ) (qA : QA σ σ' ∧ wkS (σ 22 5) (σ 22 3) (wA σ) (kA σ) (σ 22 2 = 2 ∧ 0 ≤ x0 ∧ x0 < σ 22 3) x0 x1 zA) (qB : QB τ τ' ∧ wkS (τ 0 27) (τ 0 31) (wB τ) (kB τ) (τ 0 30 = 2 ∧ 0 ≤ x0 ∧ x0 < τ 0 31) x0 x1 zB) : JJ (i + 8) σ' τ' ∧ zA = zB := ⟨j_keep hi h qA.1 qB.1, works_al h.2.1.2.1 h.2.2.2.2.1.1 qA.2 qB.2⟩
theorem j_kept {x0 : Int} (hi : i ≤ 4096) (h : JJ i σ τ) (qA : QA σ σ' ∧ zA = if x0 = 0 then σ 22 2 else if x0 = 1 then σ 22 5 else if x0 = 2 then σ 22 6 else if x0 = 3 then σ 22 3 else if x0 = 4 then σ 10 3 else -1) (qB : QB τ τ' ∧ zB = if x0 = 0 then τ 0 30 else if x0 = 1 then τ 0 27 else if x0 = 2 then τ 0 29 else if x0 = 3 then (if τ 0 30 = 2 then τ 0 31 else τ 0 28) else if x0 = 4 then τ 0 6 else -1) : JJ (i + 8) σ' τ' ∧ zA = zB := by
  obtain ⟨⟨m1, m2, m3, m4⟩, mn, -, -⟩ := h.2.2.2.2.1.1
  have t6 := h.2.2.1.1
  refine ⟨j_keep hi h qA.1 qB.1, ?_⟩
  rw [qA.2, qB.2, m1, m3, m4, mn, t6]
theorem j_part {x0 x1 : Int} (hi : i ≤ 4096) (h : JJ i σ τ) (qA : QA σ σ' ∧ prS (σ 22 5) (σ 22 4) (kA σ) x0 x1 zA) (qB : QB τ τ' ∧ ((zB = τ 13 (8 * x0 + x1) ∧ 0 ≤ x0 ∧ x0 < τ 0 27 ∧ 0 ≤ x1 ∧ x1 < τ 0 28) ∨ (zB = -1 ∧ ¬ (0 ≤ x0 ∧ x0 < τ 0 27 ∧ 0 ≤ x1 ∧ x1 < τ 0 28)))) : JJ (i + 8) σ' τ' ∧ zA = zB := ⟨j_keep hi h qA.1 qB.1, part_al h.2.2.2.2.1.1 qA.2 qB.2⟩
theorem mx_JJ {kind n rows m r z : Int} {W : Int → Int → Int} (hi : i ≤ 4096) (h : JJ i σ τ) (q : mpA σ σ' kind n rows m r z W) : IA σ' ∧ tpS σ σ' ∧ tbS σ σ' ∧ swS σ σ' ∧ sr (i + 8) σ' := by
  obtain ⟨f, c, ⟨s1, s2, s3⟩, m, -, -⟩ := q
  obtain ⟨hA, -, -, -, -, hs1, hs2⟩ := h
  have e3 := f 10 3 (by simp [rgPl])
  refine ⟨⟨?_, iTs_cg hA.2.1 (fun c k a b d => f c k (by simp only [rgPl]; omega)), c, m, iSh_cg hA.2.2.2.2.1 (fun k => f _ k (by simp [rgPl])), iSu_cg hA.2.2.2.2.2 (fun k => f _ k (by simp [rgPl]))⟩, ⟨fun k => f _ k (by simp [rgPl]), fun k => f _ k (by simp [rgPl])⟩, fun c k a b d => f c k (by simp only [rgPl]; omega), fun c k a b => f c k (by simp only [rgPl]; omega), s1, by omega⟩
  unfold tL
  rw [e3]
  exact hA.1
theorem j_peel {x0 x1 : Int} (hi : i ≤ 4096) (h : JJ i σ τ) (qA : XpA σ x0 x1 σ' zA) (qB : XpB τ x0 x1 τ' zB) : JJ (i + 8) σ' τ' ∧ zA = zB := by
  obtain ⟨m, e⟩ := MM_peel h.2.1 h.1 h.2.2.2.1 h.2.2.2.2.1.1 qA qB
  have A : IA σ' ∧ tpS σ σ' ∧ tbS σ σ' ∧ swS σ σ' ∧ sr (i + 8) σ' := by
    rcases qA with ⟨-, q, -⟩ | ⟨-, q⟩
    · rw [q]; exact ⟨h.1, (QA_rf h.1).2.1, (QA_rf h.1).2.2.1, (otS_rf _).2.1, sr_s hi h.2.2.2.2.2 (otS_rf _).2.2⟩
    · exact mx_JJ hi h q
  have B : QB1 τ τ' := by
    rcases qB with ⟨-, q, -⟩ | ⟨-, q⟩
    · rw [q]; exact ⟨h.2.1, (QB_rf h.2.1).2.1, (QB_rf h.2.1).2.2.1, swK_rf _⟩
    · exact QB_P h.2.1 q.1
  exact ⟨⟨A.1, B.1, TP_keep h.2.2.1 A.2.1 B.2.1, TT_keep h.2.2.2.1 A.2.2.1 B.2.2.1, ⟨m, SS_keep h.2.2.2.2.1.2 A.2.2.2.1 B.2.2.2⟩, A.2.2.2.2⟩, e⟩
theorem j_shop {x0 x1 : Int} (hi : i ≤ 4096) (h : JJ i σ τ) (qA : XsA σ x0 x1 σ' zA) (qB : XsB τ x0 x1 τ' zB) : JJ (i + 8) σ' τ' ∧ zA = zB := by
  obtain ⟨m, e⟩ := MM_shop h.2.1 h.1 h.2.2.2.1 h.2.2.2.2.1.1 qA qB
  have A : IA σ' ∧ tpS σ σ' ∧ tbS σ σ' ∧ swS σ σ' ∧ sr (i + 8) σ' := by
    rcases qA with ⟨-, q, -⟩ | ⟨-, L, -, q⟩
    · rw [q]; exact ⟨h.1, (QA_rf h.1).2.1, (QA_rf h.1).2.2.1, (otS_rf _).2.1, sr_s hi h.2.2.2.2.2 (otS_rf _).2.2⟩
    · exact mx_JJ hi h q
  have B : QB1 τ τ' := by
    rcases qB with ⟨-, q, -⟩ | ⟨-, L, -, q, -⟩
    · rw [q]; exact ⟨h.2.1, (QB_rf h.2.1).2.1, (QB_rf h.2.1).2.2.1, swK_rf _⟩
    · exact QB_P h.2.1 q.1
  exact ⟨⟨A.1, B.1, TP_keep h.2.2.1 A.2.1 B.2.1, TT_keep h.2.2.2.1 A.2.2.1 B.2.2.1, ⟨m, SS_keep h.2.2.2.2.1.2 A.2.2.2.1 B.2.2.2⟩, A.2.2.2.2⟩, e⟩
theorem j_paired {x0 x1 x2 : Int} (hi : i ≤ 4096) (h : JJ i σ τ) (qA : QA σ σ' ∧ ((¬ okPr (tabA σ x0) (σ (x0.toNat + 2) 1) x1 x2 ∧ zA = -1) ∨ (okPr (tabA σ x0) (σ (x0.toNat + 2) 1) x1 x2 ∧ paS (σ (x0.toNat + 2) 1) (fun i j => x1 ≤ cT σ (x0.toNat + 2) i j) x2 zA))) (qB : QB τ τ' ∧ ((¬ okPr (tabB τ x0) (τ 1 x0) x1 x2 ∧ zB = -1) ∨ (okPr (tabB τ x0) (τ 1 x0) x1 x2 ∧ paS (τ 1 x0) (fun i j => x1 ≤ cB τ x0 i j) x2 zB))) : JJ (i + 8) σ' τ' ∧ zA = zB := ⟨j_keep hi h qA.1 qB.1, paired_al h.2.1.1 h.2.2.2.1 qA.2 qB.2⟩
theorem j_mixing {x0 : Int} (hi : i ≤ 4096) (h : JJ i σ τ) (qA : QA σ σ' ∧ ((¬ tabA σ x0 ∧ zA = -1) ∨ (tabA σ x0 ∧ mxG (σ (x0.toNat + 2) 1) (cT σ (x0.toNat + 2)) zA))) (qB : QB τ τ' ∧ ((¬ tabB τ x0 ∧ zB = -1) ∨ (tabB τ x0 ∧ mxG (τ 1 x0) (cB τ x0) zB))) : JJ (i + 8) σ' τ' ∧ zA = zB := ⟨j_keep hi h qA.1 qB.1, mixing_al h.2.1.1 h.2.2.2.1 qA.2 qB.2⟩
theorem j_kin {x0 x1 : Int} (hi : i ≤ 4096) (h : JJ i σ τ) (qA : QA σ σ' ∧ ((¬ okKn (tabA σ x0) (σ (x0.toNat + 2) 1) x1 ∧ zA = -1) ∨ (okKn (tabA σ x0) (σ (x0.toNat + 2) 1) x1 ∧ kiS (σ (x0.toNat + 2) 1) (cT σ (x0.toNat + 2)) x1 zA))) (qB : QB τ τ' ∧ ((¬ okKn (tabB τ x0) (τ 1 x0) x1 ∧ zB = -1) ∨ (okKn (tabB τ x0) (τ 1 x0) x1 ∧ kiS (τ 1 x0) (cB τ x0) x1 zB))) : JJ (i + 8) σ' τ' ∧ zA = zB := ⟨j_keep hi h qA.1 qB.1, kin_al h.2.1.1 h.2.2.2.1 qA.2 qB.2⟩
end J9
