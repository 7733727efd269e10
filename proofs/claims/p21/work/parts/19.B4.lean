def Pz (σ : eS) : Prop := 0 ≤ σ 0 12 ∧ σ 0 12 ≤ σ 0 13 ∧ σ 0 13 ≤ σ 0 6 ∧ σ 0 6 ≤ 600 ∧ (σ 0 11 = 0 ∨ σ 0 11 = 2 ∨ σ 0 11 = 3) ∧ (σ 0 11 ≠ 0 → σ 0 12 < σ 0 13) ∧ 0 ≤ σ 0 14 ∧ σ 0 14 ≤ 999999
theorem Pz.of {σ σ' : eS} (h : P0 σ) (hl : lex σ σ') : Pz σ' := by
  obtain ⟨h1, h2, h3⟩ := h
  obtain ⟨f, l1, l2, l3, l4, l5, l6⟩ := hl
  have f6 := f 0 6 (by omega)
  exact ⟨by omega, by omega, by omega, by omega, l4, l5, l6⟩
theorem Pz.P0 {σ : eS} (h : Pz σ) : P0 σ := ⟨by have := h.1; have := h.2.1; omega, h.2.2.1, h.2.2.2.1⟩
theorem Pz.fr {σ σ' : eS} (h : Pz σ) (f : fr (fun c k => c ≠ 0 ∨ (k < 6 ∨ (6 < k ∧ k < 11) ∨ 15 < k)) σ σ') : Pz σ' := by
  unfold Pz
  rw [f 0 12 (by omega), f 0 13 (by omega), f 0 6 (by omega), f 0 11 (by omega), f 0 14 (by omega)]
  exact h
def numB (σ : eS) : Prop := σ 0 11 = 2 ∧ σ 0 13 - σ 0 12 ≤ 6
theorem s_Mo_isNumber {σ : eS} (h : Pz σ) : MtI shB M_Mo_isNumber [vr 0] σ (fun σ' z => σ' = σ ∧ ((z = 1 ∧ numB σ) ∨ (z = 0 ∧ ¬ numB σ))) := by
  refine Mt.of okM_Mo_isNumber (Nat.le_of_ble_eq_true rfl) (fun hk hg => ?_)
  obtain ⟨h1, h2, h3, h4, -⟩ := h
  refine ok_aload_n 0 rfl rfl rfl (ok_getI 1 rfl rfl fl_X12_147 rfl rfl (Or.inl rfl) (ok_iconst 2 rfl rfl (by decide) (ok_icmp_ne 3 26 rfl rfl rfl (fun h5 => ?_) (fun h5 => ?_))))
  · refine ok_iconst 13 rfl rfl (by decide) (ok_zret 14 rfl rfl rfl (by first | omega | (simp [up_if]; omega) | (simp [up_if] at *; omega)) ?_)
    exact ⟨_, rfl, rfl, by unfold numB; omega⟩
  · refine ok_aload_n 4 rfl rfl rfl (ok_getI 5 rfl rfl fl_X12_132 rfl rfl (Or.inl rfl) (ok_aload_n 6 rfl rfl rfl (ok_getI 7 rfl rfl fl_X12_138 rfl rfl (Or.inl rfl) (ok_isub 8 rfl rfl (by first | omega | (simp [up_if]; omega) | (simp [up_if] at *; omega)) (ok_bipush 9 rfl rfl (by decide) (by decide) (ok_icmp_gt 10 26 rfl rfl rfl (fun h19 => ?_) (fun h19 => ?_)))))))
    · refine ok_iconst 13 rfl rfl (by decide) (ok_zret 14 rfl rfl rfl (by first | omega | (simp [up_if]; omega) | (simp [up_if] at *; omega)) ?_)
      exact ⟨_, rfl, rfl, by unfold numB; omega⟩
    · refine ok_iconst 11 rfl rfl (by decide) (ok_goto 12 27 rfl rfl rfl (ok_zret 14 rfl rfl rfl (by first | omega | (simp [up_if]; omega) | (simp [up_if] at *; omega)) ?_))
      exact ⟨_, rfl, rfl, by unfold numB; omega⟩
def uOk (σ : eS) (k : Int) : Prop := 1 ≤ σ 7 k ∧ σ 7 k ≤ 999999 ∧ 0 ≤ σ 6 k ∧ σ 6 k ≤ 999999
abbrev rgF : Nat → Int → Prop := fun c k => (c = 0 ∧ 9 ≤ k ∧ k ≤ 15) ∨ c = 6 ∨ c = 7
def QrF (σ : eS) (k : Int) (σ' : eS) (z : Int) : Prop := fr rgF σ σ' ∧ Pz σ' ∧ ((z = 0 ∧ σ' 0 9 ≠ 0) ∨ (z = 1 ∧ σ 0 12 < σ' 0 12 ∧ σ' 0 9 = σ 0 9 ∧ k < 8 ∧ (0 < σ 0 18 → k ≠ σ 0 19) ∧ uOk σ' (8 * σ 0 18 + k) ∧ ∀ j, j ≠ 8 * σ 0 18 + k → σ' 6 j = σ 6 j ∧ σ' 7 j = σ 7 j))
