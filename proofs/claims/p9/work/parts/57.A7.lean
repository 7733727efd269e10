def tL (σ : eS) : Prop := 0 ≤ σ 10 3 ∧ σ 10 3 ≤ 600
def tP (σ : eS) : Prop := 0 ≤ σ 10 3 ∧ σ 10 3 ≤ 600 ∧ 0 ≤ σ 10 6 ∧ σ 10 6 ≤ σ 10 3
theorem s_Tp_isBlank {σ : eS} {k : Int} (h : tL σ) (hk : 0 ≤ k) : MtI shA M_Tp_isBlank [vr 10, vi k] σ (fun σ' z => σ' = σ ∧ ((z = 1 ∧ k < σ 10 3 ∧ (σ 11 k = 32 ∨ σ 11 k = 10)) ∨ (z = 0 ∧ ¬ (k < σ 10 3 ∧ (σ 11 k = 32 ∨ σ 11 k = 10))))) := by
  refine Mt.of okM_Tp_isBlank (Nat.le_of_ble_eq_true rfl) (fun hk hg => ?_)
  obtain ⟨h1, h2⟩ := h
  refine ok_iload_n 0 rfl rfl rfl (ok_aload_n 1 rfl rfl rfl (ok_getI 2 rfl rfl fl_X10_21 rfl rfl (Or.inl rfl) (ok_icmp_ge 3 34 rfl rfl rfl (fun h5 => ?_) (fun h5 => ?_))))
  · refine ok_iconst 18 rfl rfl (by decide) (ok_zret 19 rfl rfl rfl (by first | omega | (simp [up_if]; omega) | (simp [up_if] at *; omega)) ?_)
    exact ⟨_, rfl, rfl, by omega⟩
  · refine ok_aload_n 4 rfl rfl rfl (ok_getR 5 rfl rfl fl_X10_11 rfl rfl (ok_iload_n 6 rfl rfl rfl (ok_iald 7 rfl rfl rfl (by first | omega | (simp [up_if]; omega) | (simp [up_if] at *; omega)) (ok_bipush 8 rfl rfl (by decide) (by decide) (ok_icmp_eq 9 30 rfl rfl rfl (fun h16 => ?_) (fun h16 => ?_))))))
    · refine ok_iconst 16 rfl rfl (by decide) (ok_goto 17 35 rfl rfl rfl (ok_zret 19 rfl rfl rfl (by first | omega | (simp [up_if]; omega) | (simp [up_if] at *; omega)) ?_))
      exact ⟨_, rfl, rfl, by omega⟩
    · refine ok_aload_n 10 rfl rfl rfl (ok_getR 11 rfl rfl fl_X10_11 rfl rfl (ok_iload_n 12 rfl rfl rfl (ok_iald 13 rfl rfl rfl (by first | omega | (simp [up_if]; omega) | (simp [up_if] at *; omega)) (ok_bipush 14 rfl rfl (by decide) (by decide) (ok_icmp_ne 15 34 rfl rfl rfl (fun h27 => ?_) (fun h27 => ?_))))))
      · refine ok_iconst 18 rfl rfl (by decide) (ok_zret 19 rfl rfl rfl (by first | omega | (simp [up_if]; omega) | (simp [up_if] at *; omega)) ?_)
        exact ⟨_, rfl, rfl, by omega⟩
      · refine ok_iconst 16 rfl rfl (by decide) (ok_goto 17 35 rfl rfl rfl (ok_zret 19 rfl rfl rfl (by first | omega | (simp [up_if]; omega) | (simp [up_if] at *; omega)) ?_))
        exact ⟨_, rfl, rfl, by omega⟩
theorem s_Tp_isDigit {σ : eS} {k : Int} (h : tL σ) (hk : 0 ≤ k) : MtI shA M_Tp_isDigit [vr 10, vi k] σ (fun σ' z => σ' = σ ∧ ((z = 1 ∧ k < σ 10 3 ∧ 48 ≤ σ 11 k ∧ σ 11 k ≤ 57) ∨ (z = 0 ∧ ¬ (k < σ 10 3 ∧ 48 ≤ σ 11 k ∧ σ 11 k ≤ 57)))) := by
  refine Mt.of okM_Tp_isDigit (Nat.le_of_ble_eq_true rfl) (fun hk hg => ?_)
  obtain ⟨h1, h2⟩ := h
  refine ok_iload_n 0 rfl rfl rfl (ok_aload_n 1 rfl rfl rfl (ok_getI 2 rfl rfl fl_X10_21 rfl rfl (Or.inl rfl) (ok_icmp_ge 3 34 rfl rfl rfl (fun h5 => ?_) (fun h5 => ?_))))
  · refine ok_iconst 18 rfl rfl (by decide) (ok_zret 19 rfl rfl rfl (by first | omega | (simp [up_if]; omega) | (simp [up_if] at *; omega)) ?_)
    exact ⟨_, rfl, rfl, by omega⟩
  · refine ok_aload_n 4 rfl rfl rfl (ok_getR 5 rfl rfl fl_X10_11 rfl rfl (ok_iload_n 6 rfl rfl rfl (ok_iald 7 rfl rfl rfl (by first | omega | (simp [up_if]; omega) | (simp [up_if] at *; omega)) (ok_bipush 8 rfl rfl (by decide) (by decide) (ok_icmp_lt 9 34 rfl rfl rfl (fun h16 => ?_) (fun h16 => ?_))))))
    · refine ok_iconst 18 rfl rfl (by decide) (ok_zret 19 rfl rfl rfl (by first | omega | (simp [up_if]; omega) | (simp [up_if] at *; omega)) ?_)
      exact ⟨_, rfl, rfl, by omega⟩
    · refine ok_aload_n 10 rfl rfl rfl (ok_getR 11 rfl rfl fl_X10_11 rfl rfl (ok_iload_n 12 rfl rfl rfl (ok_iald 13 rfl rfl rfl (by first | omega | (simp [up_if]; omega) | (simp [up_if] at *; omega)) (ok_bipush 14 rfl rfl (by decide) (by decide) (ok_icmp_gt 15 34 rfl rfl rfl (fun h27 => ?_) (fun h27 => ?_))))))
      · refine ok_iconst 18 rfl rfl (by decide) (ok_zret 19 rfl rfl rfl (by first | omega | (simp [up_if]; omega) | (simp [up_if] at *; omega)) ?_)
        exact ⟨_, rfl, rfl, by omega⟩
      · refine ok_iconst 16 rfl rfl (by decide) (ok_goto 17 35 rfl rfl rfl (ok_zret 19 rfl rfl rfl (by first | omega | (simp [up_if]; omega) | (simp [up_if] at *; omega)) ?_))
        exact ⟨_, rfl, rfl, by omega⟩
theorem s_Tp_isSign {σ : eS} {k c : Int} (h : tL σ) (hk : 0 ≤ k) : MtI shA M_Tp_isSign [vr 10, vi k, vi c] σ (fun σ' z => σ' = σ ∧ ((z = 1 ∧ k < σ 10 3 ∧ σ 11 k = c) ∨ (z = 0 ∧ ¬ (k < σ 10 3 ∧ σ 11 k = c)))) := by
  refine Mt.of okM_Tp_isSign (Nat.le_of_ble_eq_true rfl) (fun hk hg => ?_)
  obtain ⟨h1, h2⟩ := h
  refine ok_iload_n 0 rfl rfl rfl (ok_aload_n 1 rfl rfl rfl (ok_getI 2 rfl rfl fl_X10_21 rfl rfl (Or.inl rfl) (ok_icmp_ge 3 22 rfl rfl rfl (fun h5 => ?_) (fun h5 => ?_))))
  · refine ok_iconst 12 rfl rfl (by decide) (ok_zret 13 rfl rfl rfl (by first | omega | (simp [up_if]; omega) | (simp [up_if] at *; omega)) ?_)
    exact ⟨_, rfl, rfl, by omega⟩
  · refine ok_aload_n 4 rfl rfl rfl (ok_getR 5 rfl rfl fl_X10_11 rfl rfl (ok_iload_n 6 rfl rfl rfl (ok_iald 7 rfl rfl rfl (by first | omega | (simp [up_if]; omega) | (simp [up_if] at *; omega)) (ok_iload_n 8 rfl rfl rfl (ok_icmp_ne 9 22 rfl rfl rfl (fun h15 => ?_) (fun h15 => ?_))))))
    · refine ok_iconst 12 rfl rfl (by decide) (ok_zret 13 rfl rfl rfl (by first | omega | (simp [up_if]; omega) | (simp [up_if] at *; omega)) ?_)
      exact ⟨_, rfl, rfl, by omega⟩
    · refine ok_iconst 10 rfl rfl (by decide) (ok_goto 11 23 rfl rfl rfl (ok_zret 13 rfl rfl rfl (by first | omega | (simp [up_if]; omega) | (simp [up_if] at *; omega)) ?_))
      exact ⟨_, rfl, rfl, by omega⟩
theorem s_Tp_fail {σ : eS} {a b : Int} : MtV shA M_Tp_fail [vr 10, vi a, vi b] σ (fun σ' => σ' = up (up σ 10 4 a) 10 5 b) := by
  refine Mt.of okM_Tp_fail (Nat.le_of_ble_eq_true rfl) (fun hk hg => ?_)
  refine ok_aload_n 0 rfl rfl rfl (ok_iload_n 1 rfl rfl rfl (ok_putI 2 rfl rfl fl_X10_25 rfl rfl rfl rfl (ok_aload_n 3 rfl rfl rfl (ok_iload_n 4 rfl rfl rfl (ok_putI 5 rfl rfl fl_X10_28 rfl rfl rfl rfl (ok_vret 6 rfl rfl rfl ?_))))))
  exact ⟨rfl, rfl⟩
theorem s_Tp_skipBlanks {σ : eS} (h : tP σ) : MtV shA M_Tp_skipBlanks [vr 10] σ (fun σ' => fr (fun c k => c = 10 ∧ k = 6) σ σ' ∧ σ 10 6 ≤ σ' 10 6 ∧ σ' 10 6 ≤ σ 10 3) := by
  refine Mt.of okM_Tp_skipBlanks (Nat.le_of_ble_eq_true rfl) (fun hk hg => ?_)
  obtain ⟨h1, h2, h3, h4⟩ := h
  refine ok_iconst 0 rfl rfl (by decide) (ok_ist1 1 rfl rfl rfl ?_)
  refine lpO2 (fun (i : Int) (_ : eS) => [some (vr 10), some (vi i)]) (fun _ ρ => ρ) (fun i ρ => 0 ≤ i ∧ i ≤ 600 ∧ fr (fun c k => c = 10 ∧ k = 6) σ ρ ∧ σ 10 6 ≤ ρ 10 6 ∧ ρ 10 6 ≤ σ 10 3) (fun i _ => (600 - i).toNat) ?_ 0 σ ⟨by omega, by omega, fr.rf, by omega, by omega⟩
  rintro i ρ ⟨i1, i2, f, a1, a2⟩ ih
  have e3 : ρ 10 3 = σ 10 3 := f 10 3 (by omega)
  refine ok_iload_n 2 rfl rfl rfl (ok_sipush 3 rfl rfl (by decide) (by decide) (ok_icmp_ge 4 36 rfl rfl rfl (fun h6 => ?_) (fun h6 => ?_)))
  · refine ok_vret 18 rfl rfl rfl ?_
    exact ⟨rfl, f, a1, a2⟩
  · refine ok_aload_n 5 rfl rfl rfl (ok_aload_n 6 rfl rfl rfl (ok_getI 7 rfl rfl fl_X10_31 rfl rfl (Or.inl rfl) (ok_callVI (M' := M_Tp_isBlank) (as := [_]) 8 rfl rfl ml_X10_58 (s_Tp_isBlank ⟨by omega, by omega⟩ (by omega)) rfl rfl (Nat.le_of_ble_eq_true rfl) ⟨Nat.le_of_ble_eq_true rfl, Nat.le_of_ble_eq_true rfl⟩ rfl (Nat.le_of_ble_eq_true rfl) (fun σ' z hz => ?_))))
    obtain ⟨hs_, hz⟩ := hz
    rw [hs_]; clear hs_ σ'
    refine ok_if_eq 9 36 rfl rfl rfl (fun h17 => ?_) (fun h17 => ?_)
    · refine ok_vret 18 rfl rfl rfl ?_
      exact ⟨rfl, f, a1, a2⟩
    · refine ok_aload_n 10 rfl rfl rfl (ok_dup 11 rfl rfl rfl (ok_getI 12 rfl rfl fl_X10_31 rfl rfl (Or.inl rfl) (ok_iconst 13 rfl rfl (by decide) (ok_iadd 14 rfl rfl (by first | omega | (simp [up_if]; omega) | (simp [up_if] at *; omega)) (ok_putI 15 rfl rfl fl_X10_31 rfl rfl rfl rfl (ok_inc1 16 rfl rfl rfl (by first | omega | (simp [up_if]; omega) | (simp [up_if] at *; omega)) (ok_goto 17 2 rfl rfl rfl ?_)))))))
      exact ih (i + 1) _ ⟨by omega, by omega, fr_up f ⟨rfl, rfl⟩, by rw [up_same]; omega, by rw [up_same]; omega⟩ (by omega)
theorem s_Tp_countDigits {σ : eS} (h : tP σ) : MtI shA M_Tp_countDigits [vr 10] σ (fun σ' z => σ' = σ ∧ 0 ≤ z ∧ z ≤ 600) := by
  refine Mt.of okM_Tp_countDigits (Nat.le_of_ble_eq_true rfl) (fun hk hg => ?_)
  obtain ⟨h1, h2, h3, h4⟩ := h
  refine ok_iconst 0 rfl rfl (by decide) (ok_ist1 1 rfl rfl rfl (ok_aload_n 2 rfl rfl rfl (ok_getI 3 rfl rfl fl_X10_31 rfl rfl (Or.inl rfl) (ok_ist2 4 rfl rfl rfl ?_))))
  refine lpO2 (fun (n k : Int) => [some (vr 10), some (vi n), some (vi k)]) (fun _ _ => σ) (fun n k => σ 10 6 ≤ k ∧ k ≤ σ 10 3 ∧ n = k - σ 10 6) (fun _ k => (600 - k).toNat) ?_ 0 (σ 10 6) ⟨by omega, by omega, by omega⟩
  rintro n k ⟨k1, k2, en⟩ ih
  refine ok_iload_n 5 rfl rfl rfl (ok_aload_n 6 rfl rfl rfl (ok_getI 7 rfl rfl fl_X10_21 rfl rfl (Or.inl rfl) (ok_icmp_ge 8 32 rfl rfl rfl (fun h12 => ?_) (fun h12 => ?_))))
  · refine ok_iload_n 16 rfl rfl rfl (ok_iret 17 rfl rfl rfl ?_)
    exact ⟨_, rfl, rfl, by omega, by omega⟩
  · refine ok_aload_n 9 rfl rfl rfl (ok_iload_n 10 rfl rfl rfl (ok_callVI (M' := M_Tp_isDigit) (as := [_]) 11 rfl rfl ml_X10_69 (s_Tp_isDigit ⟨by omega, by omega⟩ (by omega)) rfl rfl (Nat.le_of_ble_eq_true rfl) ⟨Nat.le_of_ble_eq_true rfl, Nat.le_of_ble_eq_true rfl⟩ rfl (Nat.le_of_ble_eq_true rfl) (fun σ' z hz => ?_)))
    obtain ⟨hs_, hz⟩ := hz
    rw [hs_]; clear hs_ σ'
    refine ok_if_eq 12 32 rfl rfl rfl (fun h20 => ?_) (fun h20 => ?_)
    · refine ok_iload_n 16 rfl rfl rfl (ok_iret 17 rfl rfl rfl ?_)
      exact ⟨_, rfl, rfl, by omega, by omega⟩
    · refine ok_inc1 13 rfl rfl rfl (by first | omega | (simp [up_if]; omega) | (simp [up_if] at *; omega)) (ok_inc2 14 rfl rfl rfl (by first | omega | (simp [up_if]; omega) | (simp [up_if] at *; omega)) (ok_goto 15 7 rfl rfl rfl ?_))
      exact ih _ (k + 1) ⟨by omega, by omega, by omega⟩ (by omega)
