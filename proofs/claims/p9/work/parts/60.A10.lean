def uA (σ : eS) (k : Int) : Prop := 1 ≤ σ 13 k ∧ σ 13 k ≤ 999999 ∧ 0 ≤ σ 12 k ∧ σ 12 k ≤ 999999
abbrev rgE : Nat → Int → Prop := fun c k => (c = 10 ∧ k = 8) ∨ c = 12 ∨ c = 13
theorem s_Tp_keepFraction {σ : eS} {a u : Int} (hr : 0 ≤ σ 10 7 ∧ σ 10 7 ≤ 7) (hf : 0 ≤ σ 10 8 ∧ σ 10 8 ≤ 7) (ha : 0 ≤ a ∧ a ≤ 999999) (hu : 1 ≤ u ∧ u ≤ 999999) : MtV shA M_Tp_keepFraction [vr 10, vi a, vi u] σ (fun σ' => fr rgE σ σ' ∧ σ' 10 8 = σ 10 8 + 1 ∧ uA σ' (σ 10 7 * 8 + σ 10 8) ∧ ∀ k, k ≠ σ 10 7 * 8 + σ 10 8 → σ' 12 k = σ 12 k ∧ σ' 13 k = σ 13 k) := by
  refine Mt.of okM_Tp_keepFraction (Nat.le_of_ble_eq_true rfl) (fun hk hg => ?_)
  obtain ⟨g1, g2⟩ := gcd_pos (a := u) (b := a) (by omega)
  obtain ⟨g, eg⟩ : ∃ g : Int, g = (Int.gcd u a : Int) := ⟨_, rfl⟩
  rw [← eg] at g1 g2
  have d1 := div_bd (u := a) (g := g) (B := 999999) ⟨by omega, by omega⟩ g1
  have d2 := gcd_div (u := u) (g := g) hu.1 g1 g2
  refine ok_iload_n 0 rfl rfl rfl (ok_i2l 1 rfl rfl (ok_iload_n 2 rfl rfl rfl (ok_i2l 3 rfl rfl (ok_callSL (M' := M_Nu_greatestDivisor) (as := [_, _]) 4 rfl rfl ml_X10_95 (s_Nu_greatestDivisor (by omega) ⟨by omega, by omega⟩) ⟨Nat.le_of_ble_eq_true rfl, Nat.le_of_ble_eq_true rfl⟩ rfl (Nat.le_of_ble_eq_true rfl) (fun σ' z hz => ?_)))))
  rw [hz.1, hz.2]
  clear hz z σ'
  rw [← eg]
  refine ok_l2i 5 rfl rfl (by first | omega | (simp [up_if]; omega) | (simp [up_if] at *; omega)) (ok_ist3 6 rfl rfl rfl (ok_aload_n 7 rfl rfl rfl (ok_getI 8 rfl rfl fl_X10_34 rfl rfl (Or.inl rfl) (ok_bipush 9 rfl rfl (by decide) (by decide) (ok_imul 10 rfl rfl (by first | omega | (simp [up_if]; omega) | (simp [up_if] at *; omega)) (ok_aload_n 11 rfl rfl rfl (ok_getI 12 rfl rfl fl_X10_37 rfl rfl (Or.inl rfl) (ok_iadd 13 rfl rfl (by first | omega | (simp [up_if]; omega) | (simp [up_if] at *; omega)) (ok_ist4 14 rfl rfl rfl (ok_aload_n 15 rfl rfl rfl (ok_getR 16 rfl rfl fl_X10_15 rfl rfl (ok_iload 17 rfl rfl rfl (ok_iload_n 18 rfl rfl rfl (ok_iload_n 19 rfl rfl rfl (ok_idiv 20 rfl rfl (by first | omega | (simp [up_if]; omega) | (simp [up_if] at *; omega)) (by first | omega | (simp [up_if]; omega) | (simp [up_if] at *; omega)) (ok_iast 21 rfl rfl rfl (by first | omega | (simp [up_if]; omega) | (simp [up_if] at *; omega)) (ok_aload_n 22 rfl rfl rfl (ok_getR 23 rfl rfl fl_X10_18 rfl rfl (ok_iload 24 rfl rfl rfl (ok_iload_n 25 rfl rfl rfl (ok_iload_n 26 rfl rfl rfl (ok_idiv 27 rfl rfl (by first | omega | (simp [up_if]; omega) | (simp [up_if] at *; omega)) (by first | omega | (simp [up_if]; omega) | (simp [up_if] at *; omega)) (ok_iast 28 rfl rfl rfl (by first | omega | (simp [up_if]; omega) | (simp [up_if] at *; omega)) (ok_aload_n 29 rfl rfl rfl (ok_dup 30 rfl rfl rfl (ok_getI 31 rfl rfl fl_X10_37 rfl rfl (Or.inl rfl) (ok_iconst 32 rfl rfl (by decide) (ok_iadd 33 rfl rfl (by first | omega | (simp [up_if]; omega) | (simp [up_if] at *; omega)) (ok_putI 34 rfl rfl fl_X10_37 rfl rfl rfl rfl (ok_vret 35 rfl rfl rfl ?_))))))))))))))))))))))))))))))
  refine ⟨rfl, fr_up (fr_up (fr_up fr.rf (by simp [rgE])) (by simp [rgE])) (by simp [rgE]), by simp [up_if], ?_, fun k q => ?_⟩
  · unfold uA
    simp [up_if]
    omega
  · simp [up_if, q]
