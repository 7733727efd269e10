/-! answers read off alike tables -/
section AL0
theorem lackV_cg {n : Int} {op op' : Int → Int → Prop} {w : Int} (hn : n ≤ 8) (e : ∀ i j, 0 ≤ i → i < n → 0 ≤ j → j < n → (op i j ↔ op' i j)) : lackV n op w = lackV n op' w := by
  have ec : ∀ s, cP n op s = cP n op' s := fun s => by
    unfold cP
    congr 1
    funext z
    exact propext ⟨fun q => cOp_cg q e, fun q => cOp_cg q (fun i j a b c d => (e i j a b c d).symm)⟩
  have ef : lkF n op = lkF n op' := by funext s; unfold lkF; rw [ec]
  unfold lackV
  rw [ef, ec]
end AL0
section AL
variable {σ τ : eS} {zA zB : Int}
theorem tb_n (hI : iB1 τ) {s : Int} (ht : tabB τ s) : 1 ≤ τ 1 s ∧ τ 1 s ≤ 8 := ⟨by have := ht.2.2; omega, (hI.1 s ht.1 ht.2.1).2.1⟩
theorem lack_al {x0 x1 x2 : Int} (hI : iB1 τ) (h : TT σ τ) (qA : (¬ okL (tabA σ x0) x1 x2 ∧ zA = -1) ∨ (okL (tabA σ x0) x1 x2 ∧ zA = lackV (σ (x0.toNat + 2) 1) (fun i j => x1 ≤ cT σ (x0.toNat + 2) i j) x2)) (qB : (¬ okL (tabB τ x0) x1 x2 ∧ zB = -1) ∨ (okL (tabB τ x0) x1 x2 ∧ zB = lackV (τ 1 x0) (fun i j => x1 ≤ cB τ x0 i j) x2)) : zA = zB := by
  have hl := tab_al hI h x0
  rcases qA with ⟨a1, a2⟩ | ⟨a1, a2⟩ <;> rcases qB with ⟨b1, b2⟩ | ⟨b1, b2⟩
  · omega
  · exact absurd (⟨hl.mpr b1.1, b1.2⟩) a1
  · exact absurd (⟨hl.mp a1.1, a1.2⟩) b1
  · have n := tb_n hI b1.1
    obtain ⟨e1, -, -, e4⟩ := h x0 b1.1.1 b1.1.2.1
    rw [e1] at a2
    rw [a2, b2]
    exact lackV_cg n.2 (fun i j p q r w => by rw [e4 i j p q r w])
theorem perm_al {x0 : Int} (hI : iB1 τ) (h : TT σ τ) (qA : (¬ tabA σ x0 ∧ zA = -1) ∨ (tabA σ x0 ∧ pmA (σ (x0.toNat + 2) 1) (cT σ (x0.toNat + 2)) zA)) (qB : (¬ tabB τ x0 ∧ zB = -1) ∨ (tabB τ x0 ∧ pmA (τ 1 x0) (cB τ x0) zB)) : zA = zB := by
  have hl := tab_al hI h x0
  rcases qA with ⟨a1, a2⟩ | ⟨a1, a2⟩ <;> rcases qB with ⟨b1, b2⟩ | ⟨b1, b2⟩
  · omega
  · exact absurd (hl.mpr b1) a1
  · exact absurd (hl.mp a1) b1
  · have n := tb_n hI b1
    obtain ⟨e1, -, -, e4⟩ := h x0 b1.1 b1.2.1
    rw [e1] at a2
    exact pmA_un n e4 a2 b2
theorem ways_al {x0 x1 : Int} (hI : iB1 τ) (h : TT σ τ) (qA : (¬ okW (tabA σ x0) x1 ∧ zA = -1) ∨ (okW (tabA σ x0) x1 ∧ zA = wyV (σ (x0.toNat + 2) 1) (fun i j => x1 ≤ cT σ (x0.toNat + 2) i j))) (qB : (¬ okW (tabB τ x0) x1 ∧ zB = -1) ∨ (okW (tabB τ x0) x1 ∧ zB = wyV (τ 1 x0) (fun i j => x1 ≤ cB τ x0 i j))) : zA = zB := by
  have hl := tab_al hI h x0
  rcases qA with ⟨a1, a2⟩ | ⟨a1, a2⟩ <;> rcases qB with ⟨b1, b2⟩ | ⟨b1, b2⟩
  · omega
  · exact absurd (⟨hl.mpr b1.1, b1.2⟩) a1
  · exact absurd (⟨hl.mp a1.1, a1.2⟩) b1
  · have n := tb_n hI b1.1
    obtain ⟨e1, -, -, e4⟩ := h x0 b1.1.1 b1.1.2.1
    rw [e1] at a2
    rw [a2, b2]
    unfold wyV
    have b := bit2 (n := τ 1 x0) ⟨by omega, n.2⟩
    refine PMv_cg ⟨by omega, n.2⟩ (fun i j p q r w => ?_) ⟨by omega, by omega⟩
    have e := e4 i j p q r w
    by_cases c : x1 ≤ cT σ (x0.toNat + 2) i j
    · rw [if_pos c, if_pos (by show x1 ≤ cB τ x0 i j; omega)]
    · rw [if_neg c, if_neg (by show ¬ x1 ≤ cB τ x0 i j; omega)]
theorem widest_al {x0 : Int} (hI : iB1 τ) (h : TT σ τ) (qA : (¬ tabA σ x0 ∧ zA = -1) ∨ (tabA σ x0 ∧ wdA (σ (x0.toNat + 2) 1) (fun i j => 0 ≤ cT σ (x0.toNat + 2) i j) (cT σ (x0.toNat + 2)) zA)) (qB : (¬ tabB τ x0 ∧ zB = -1) ∨ (tabB τ x0 ∧ wdA (τ 1 x0) (fun i j => 0 ≤ wk (wo τ x0 (τ 1 x0) (τ 1 x0 * τ 1 x0)) i j) (wk (wo τ x0 (τ 1 x0) (τ 1 x0 * τ 1 x0))) zB)) : zA = zB := by
  have hl := tab_al hI h x0
  rcases qA with ⟨a1, a2⟩ | ⟨a1, a2⟩ <;> rcases qB with ⟨b1, b2⟩ | ⟨b1, b2⟩
  · omega
  · exact absurd (hl.mpr b1) a1
  · exact absurd (hl.mp a1) b1
  · have n := tb_n hI b1
    obtain ⟨e1, -, -, e4⟩ := h x0 b1.1 b1.2.1
    rw [e1] at a2
    have ew := wo_wkB hI b1
    exact wdA_un n (fun i j p q r w => by rw [e4 i j p q r w, ew i j p q r w]) (fun i j p q r w => by rw [e4 i j p q r w, ew i j p q r w]) a2 b2
theorem best_al {x0 x1 : Int} (hI : iB1 τ) (h : TT σ τ) (qA : (¬ okBs (tabA σ x0) (σ (x0.toNat + 2) 1) x1 ∧ zA = -1) ∨ (okBs (tabA σ x0) (σ (x0.toNat + 2) 1) x1 ∧ bsA (σ (x0.toNat + 2) 1) (fun i j => 0 ≤ cT σ (x0.toNat + 2) i j) (cT σ (x0.toNat + 2)) x1 zA)) (qB : (¬ okBs (tabB τ x0) (τ 1 x0) x1 ∧ zB = -1) ∨ (okBs (tabB τ x0) (τ 1 x0) x1 ∧ bsA (τ 1 x0) (fun i j => 0 ≤ wk (wo τ x0 (τ 1 x0) (τ 1 x0 * τ 1 x0)) i j) (wk (wo τ x0 (τ 1 x0) (τ 1 x0 * τ 1 x0))) x1 zB)) : zA = zB := by
  have hl := tab_al hI h x0
  have ho : okBs (tabA σ x0) (σ (x0.toNat + 2) 1) x1 ↔ okBs (tabB τ x0) (τ 1 x0) x1 := by
    unfold okBs
    constructor
    · rintro ⟨a, b⟩
      have t := hl.mp a
      rw [(h x0 t.1 t.2.1).1] at b
      exact ⟨t, b⟩
    · rintro ⟨a, b⟩
      rw [← (h x0 a.1 a.2.1).1] at b
      exact ⟨hl.mpr a, b⟩
  rcases qA with ⟨a1, a2⟩ | ⟨a1, a2⟩ <;> rcases qB with ⟨b1, b2⟩ | ⟨b1, b2⟩
  · omega
  · exact absurd (ho.mpr b1) a1
  · exact absurd (ho.mp a1) b1
  · have n := tb_n hI b1.1
    obtain ⟨e1, -, -, e4⟩ := h x0 b1.1.1 b1.1.2.1
    rw [e1] at a2
    have ew := wo_wkB hI b1.1
    exact bsA_un n b1.2 (fun i j p q r w => by rw [e4 i j p q r w, ew i j p q r w]) (fun i j p q r w => by rw [e4 i j p q r w, ew i j p q r w]) a2 b2
end AL
