theorem s_Nu_leastMultiple {σ : eS} {a b l : Int} (ha : a ≤ 999999999) (hb : b ≤ 999999999) (hl : 1 ≤ l ∧ l ≤ 999999999) : MtL shA M_Nu_leastMultiple [vl a, vl b, vl l] σ (fun σ' z => σ' = σ ∧ (z = -1 ∨ (1 ≤ z ∧ z ≤ l))) := by
  refine Mt.of okM_Nu_leastMultiple (Nat.le_of_ble_eq_true rfl) (fun hk hg => ?_)
  refine ok_lload_n 0 rfl rfl rfl (ok_lconst (w := 1) 1 rfl rfl rfl (by decide) (ok_lcmp_lt 2 3 12 rfl rfl rfl rfl rfl (fun h2 => ?_) (fun h2 => ?_)))
  · refine ok_ldc2 8 (-1) rfl rfl kc_X4_9 (by decide) (ok_lret 9 rfl rfl rfl ?_)
    exact ⟨_, rfl, rfl, Or.inl rfl⟩
  · refine ok_lload_n 4 rfl rfl rfl (ok_lconst (w := 1) 5 rfl rfl rfl (by decide) (ok_lcmp_ge 6 7 16 rfl rfl rfl rfl rfl (fun h8 => ?_) (fun h8 => ?_)))
    · obtain ⟨g1, g2⟩ := gcd_pos (a := a) (b := b) (by omega)
      obtain ⟨g, eg⟩ : ∃ g : Int, g = (Int.gcd a b : Int) := ⟨_, rfl⟩
      rw [← eg] at g1 g2
      have d1 := gcd_div (u := a) (g := g) (by omega) g1 g2
      have d2 := div_bd (u := l) (g := b) (B := 999999999) ⟨by omega, by omega⟩ (by omega)
      refine ok_lload_n 10 rfl rfl rfl (ok_lload_n 11 rfl rfl rfl (ok_lload_n 12 rfl rfl rfl (ok_callSL (M' := M_Nu_greatestDivisor) (as := [_, _]) 13 rfl rfl ml_X4_11 (s_Nu_greatestDivisor (by omega) ⟨by omega, by omega⟩) ⟨Nat.le_of_ble_eq_true rfl, Nat.le_of_ble_eq_true rfl⟩ rfl (Nat.le_of_ble_eq_true rfl) (fun σ' z hz => ?_))))
      rw [hz.1, hz.2]
      clear hz z σ'
      rw [← eg]
      refine ok_ldiv 14 rfl rfl (by first | omega | (simp [up_if]; omega) | (simp [up_if] at *; omega)) (by first | omega | (simp [up_if]; omega) | (simp [up_if] at *; omega)) (ok_lst6 15 rfl rfl rfl (ok_lload 16 rfl rfl rfl (ok_lload 17 rfl rfl rfl (ok_lload_n 18 rfl rfl rfl (ok_ldiv 19 rfl rfl (by first | omega | (simp [up_if]; omega) | (simp [up_if] at *; omega)) (by first | omega | (simp [up_if]; omega) | (simp [up_if] at *; omega)) (ok_lcmp_le 20 21 41 rfl rfl rfl rfl rfl (fun h31 => ?_) (fun h31 => ?_)))))))
      · have m : b * (a / g) ≤ l := mul_le_div (by omega) (by omega)
        rw [Int.mul_comm] at m
        have m1 : 1 * 1 ≤ a / g * b := Int.mul_le_mul (by omega) (by omega) (by decide) (by omega)
        refine ok_lload 24 rfl rfl rfl (ok_lload_n 25 rfl rfl rfl (ok_lmul 26 rfl rfl (by first | omega | (simp [up_if]; omega) | (simp [up_if] at *; omega)) (ok_lret 27 rfl rfl rfl ?_)))
        exact ⟨_, rfl, rfl, Or.inr ⟨by omega, by omega⟩⟩
      · refine ok_ldc2 22 (-1) rfl rfl kc_X4_9 (by decide) (ok_goto 23 45 rfl rfl rfl (ok_lret 27 rfl rfl rfl ?_))
        exact ⟨_, rfl, rfl, Or.inl rfl⟩
    · refine ok_ldc2 8 (-1) rfl rfl kc_X4_9 (by decide) (ok_lret 9 rfl rfl rfl ?_)
      exact ⟨_, rfl, rfl, Or.inl rfl⟩
