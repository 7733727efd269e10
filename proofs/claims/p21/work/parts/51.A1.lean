def gK (x y : Int) (k : Nat) : Prop := y < x ∧ x * y * 2 ^ k ≤ 2 ^ 126
theorem gK_0 {a b : Int} (hb : 0 < b) (hb2 : b ≤ 9223372036854775807) : gK b (a % b) 0 := by
  have h5 := Int.emod_lt_of_pos a hb
  have h4 := Int.emod_nonneg a (by omega : b ≠ 0)
  refine ⟨h5, ?_⟩
  have m : b * (a % b) ≤ 9223372036854775807 * 9223372036854775807 := Int.mul_le_mul hb2 (by omega) h4 (by decide)
  rw [Int.pow_zero, Int.mul_one]
  exact Int.le_trans m (by decide)
theorem gK_s {x y : Int} {k : Nat} (hy : 0 < y) (h : gK x y k) : gK y (x % y) (k + 1) := by
  obtain ⟨h1, h2⟩ := h
  have h5 := Int.emod_lt_of_pos x hy
  have h4 := Int.emod_nonneg x (by omega : y ≠ 0)
  have h6 := Int.mul_ediv_add_emod x y
  have h7 : 1 ≤ x / y := Int.le_ediv_of_mul_le hy (by omega)
  have h8 : y * 1 ≤ y * (x / y) := Int.mul_le_mul_of_nonneg_left h7 (by omega)
  refine ⟨h5, ?_⟩
  have m : y * (x % y) * 2 ≤ x * y := by
    rw [Int.mul_assoc, Int.mul_comm x y]
    exact Int.mul_le_mul_of_nonneg_left (by omega) (by omega)
  have p : (0 : Int) ≤ 2 ^ k := Int.le_of_lt (Int.pow_pos (by decide))
  have e : y * (x % y) * 2 ^ (k + 1) = y * (x % y) * 2 * 2 ^ k := by rw [Int.pow_succ, Int.mul_comm (2 ^ k) 2, ← Int.mul_assoc]
  rw [e]
  exact Int.le_trans (Int.mul_le_mul_of_nonneg_right m p) h2
theorem gK_e {x y : Int} (hy : 0 < y) (h : gK x y 199) : False := by
  obtain ⟨h1, h2⟩ := h
  have m : 1 * 1 ≤ x * y := Int.mul_le_mul (by omega) (by omega) (by decide) (by omega)
  have m2 : 1 * 1 * 2 ^ 199 ≤ x * y * 2 ^ 199 := Int.mul_le_mul_of_nonneg_right m (by decide)
  have := Int.le_trans m2 h2
  exact absurd this (by decide)
theorem s_Nu_greatestDivisor {σ : eS} {a b : Int} (ha : 0 ≤ a) (hb : 0 ≤ b ∧ b ≤ 9223372036854775807) : MtL shA M_Nu_greatestDivisor [vl a, vl b] σ (fun σ' z => σ' = σ ∧ z = (Int.gcd a b : Int)) := by
  refine Mt.of okM_Nu_greatestDivisor (Nat.le_of_ble_eq_true rfl) (fun hk hg => ?_)
  refine ok_lload_n 0 rfl rfl rfl (ok_lst4 1 rfl rfl rfl (ok_lload_n 2 rfl rfl rfl (ok_lst6 3 rfl rfl rfl (ok_iconst 4 rfl rfl (by decide) (ok_ist8 5 rfl rfl rfl ?_)))))
  refine lpO3 (fun x y k : Int => [some (vl a), none, some (vl b), none, some (vl x), none, some (vl y), none, some (vi k), none, none]) (fun _ _ _ => σ) (fun x y k => 0 ≤ x ∧ 0 ≤ y ∧ y ≤ 9223372036854775807 ∧ 0 ≤ k ∧ k ≤ 200 ∧ (Int.gcd x y : Int) = (Int.gcd a b : Int) ∧ (1 ≤ k → gK x y (k - 1).toNat)) (fun _ _ k => (200 - k).toNat) ?_ a b 0 ⟨ha, hb.1, hb.2, by omega, by omega, rfl, fun q => by omega⟩
  rintro x y k ⟨h1, h2, h3, k1, k2, hg2, hK⟩ ih
  refine ok_iload 6 rfl rfl rfl (ok_sipush 7 rfl rfl (by decide) (by decide) (ok_icmp_ge 8 45 rfl rfl rfl (fun h14 => ?_) (fun h14 => ?_)))
  · refine ok_lload 23 rfl rfl rfl (ok_lret 24 rfl rfl rfl ?_)
    have y0 : y = 0 := by
      rcases (show y = 0 ∨ 0 < y by omega) with q | q
      · exact q
      · have hK := hK (by omega)
        rw [show (k - 1).toNat = 199 by omega] at hK
        exact (gK_e q hK).elim
    exact ⟨_, rfl, rfl, by rw [← hg2, y0, gcd_0 h1]⟩
  · refine ok_lload 9 rfl rfl rfl (ok_lconst (w := 0) 10 rfl rfl rfl (by decide) (ok_lcmp_eq 11 12 45 rfl rfl rfl rfl rfl (fun h20 => ?_) (fun h20 => ?_)))
    · refine ok_lload 23 rfl rfl rfl (ok_lret 24 rfl rfl rfl ?_)
      have y0 : y = 0 := by
        rcases (show y = 0 ∨ 0 < y by omega) with q | q
        · exact q
        · have hK := hK (by omega)
          rw [show (k - 1).toNat = 199 by omega] at hK
          exact (gK_e q hK).elim
      exact ⟨_, rfl, rfl, by rw [← hg2, y0, gcd_0 h1]⟩
    · have h4 := Int.emod_nonneg x (by omega : y ≠ 0)
      have h5 := Int.emod_lt_of_pos x (by omega : 0 < y)
      refine ok_lload 13 rfl rfl rfl (ok_lload 14 rfl rfl rfl (ok_lrem 15 rfl rfl (by first | omega | (simp [up_if]; omega) | (simp [up_if] at *; omega)) (by first | omega | (simp [up_if]; omega) | (simp [up_if] at *; omega)) (ok_lst9 16 rfl rfl rfl (ok_lload 17 rfl rfl rfl (ok_lst4 18 rfl rfl rfl (ok_lload 19 rfl rfl rfl (ok_lst6 20 rfl rfl rfl (ok_inc8 21 rfl rfl rfl (by first | omega | (simp [up_if]; omega) | (simp [up_if] at *; omega)) (ok_goto 22 9 rfl rfl rfl ?_)))))))))
      refine ok_fg [some (vl a), none, some (vl b), none, some (vl y), none, some (vl (x % y)), none, some (vi (k + 1)), none, none] ⟨rfl, rfl, rfl, rfl, rfl, trivial⟩ (ih y (x % y) (k + 1) ⟨h2, h4, by omega, by omega, by omega, by rw [← hg2, gcd_step h1 (by omega)], fun _ => ?_⟩ (by omega))
      rcases (show k = 0 ∨ 1 ≤ k by omega) with q | q
      · rw [show (k + 1 - 1).toNat = 0 by omega]; exact gK_0 (by omega) h3
      · rw [show (k + 1 - 1).toNat = (k - 1).toNat + 1 by omega]; exact gK_s (by omega) (hK q)
