theorem s_Tp_readNumber {σ : eS} (h : tP σ) : MtI shA M_Tp_readNumber [vr 10] σ (fun σ' z => fr (fun c k => c = 10 ∧ k = 6) σ σ' ∧ σ 10 6 ≤ σ' 10 6 ∧ σ' 10 6 ≤ σ 10 3 ∧ 0 ≤ z ∧ z ≤ 999999) := by
  refine Mt.of okM_Tp_readNumber (Nat.le_of_ble_eq_true rfl) (fun hk hg => ?_)
  obtain ⟨h1, h2, h3, h4⟩ := h
  refine ok_iconst 0 rfl rfl (by decide) (ok_ist1 1 rfl rfl rfl (ok_iconst 2 rfl rfl (by decide) (ok_ist2 3 rfl rfl rfl ?_)))
  refine lpO3 (fun (v i : Int) (_ : eS) => [some (vr 10), some (vi v), some (vi i)]) (fun _ _ ρ => ρ) (fun v i ρ => 0 ≤ i ∧ i ≤ 6 ∧ fr (fun c k => c = 10 ∧ k = 6) σ ρ ∧ σ 10 6 ≤ ρ 10 6 ∧ ρ 10 6 ≤ σ 10 3 ∧ 0 ≤ v ∧ v ≤ p10 i) (fun _ i _ => (6 - i).toNat) ?_ 0 0 σ ⟨by omega, by omega, fr.rf, by omega, by omega, by omega, by decide⟩
  rintro v i ρ ⟨i1, i2, f, a1, a2, v1, v2⟩ ih
  have e3 : ρ 10 3 = σ 10 3 := f 10 3 (by omega)
  have pl := p10_le i
  refine ok_iload_n 4 rfl rfl rfl (ok_bipush 5 rfl rfl (by decide) (by decide) (ok_icmp_ge 6 55 rfl rfl rfl (fun h7 => ?_) (fun h7 => ?_)))
  · refine ok_iload_n 32 rfl rfl rfl (ok_iret 33 rfl rfl rfl ?_)
    exact ⟨_, rfl, f, a1, a2, v1, by omega⟩
  · refine ok_aload_n 7 rfl rfl rfl (ok_aload_n 8 rfl rfl rfl (ok_getI 9 rfl rfl fl_X10_31 rfl rfl (Or.inl rfl) (ok_callVI (M' := M_Tp_isDigit) (as := [_]) 10 rfl rfl ml_X10_69 (s_Tp_isDigit ⟨by omega, by omega⟩ (by omega)) rfl rfl (Nat.le_of_ble_eq_true rfl) ⟨Nat.le_of_ble_eq_true rfl, Nat.le_of_ble_eq_true rfl⟩ rfl (Nat.le_of_ble_eq_true rfl) (fun σ' z hz => ?_))))
    obtain ⟨hs_, hz⟩ := hz
    rw [hs_]; clear hs_ σ'
    refine ok_if_eq 11 55 rfl rfl rfl (fun h18 => ?_) (fun h18 => ?_)
    · refine ok_iload_n 32 rfl rfl rfl (ok_iret 33 rfl rfl rfl ?_)
      exact ⟨_, rfl, f, a1, a2, v1, by omega⟩
    · have ps := p10_s (d := i) (x := v) (c := ρ 11 (ρ 10 6) - 48) i1 (by omega) v2 (by omega)
      refine ok_iload_n 12 rfl rfl rfl (ok_bipush 13 rfl rfl (by decide) (by decide) (ok_imul 14 rfl rfl (by first | omega | (simp [up_if]; omega) | (simp [up_if] at *; omega)) (ok_aload_n 15 rfl rfl rfl (ok_getR 16 rfl rfl fl_X10_11 rfl rfl (ok_aload_n 17 rfl rfl rfl (ok_getI 18 rfl rfl fl_X10_31 rfl rfl (Or.inl rfl) (ok_iald 19 rfl rfl rfl (by first | omega | (simp [up_if]; omega) | (simp [up_if] at *; omega)) (ok_iadd 20 rfl rfl (by first | omega | (simp [up_if]; omega) | (simp [up_if] at *; omega)) (ok_bipush 21 rfl rfl (by decide) (by decide) (ok_isub 22 rfl rfl (by first | omega | (simp [up_if]; omega) | (simp [up_if] at *; omega)) (ok_ist1 23 rfl rfl rfl (ok_aload_n 24 rfl rfl rfl (ok_dup 25 rfl rfl rfl (ok_getI 26 rfl rfl fl_X10_31 rfl rfl (Or.inl rfl) (ok_iconst 27 rfl rfl (by decide) (ok_iadd 28 rfl rfl (by first | omega | (simp [up_if]; omega) | (simp [up_if] at *; omega)) (ok_putI 29 rfl rfl fl_X10_31 rfl rfl rfl rfl (ok_inc2 30 rfl rfl rfl (by first | omega | (simp [up_if]; omega) | (simp [up_if] at *; omega)) (ok_goto 31 4 rfl rfl rfl ?_)))))))))))))))))))
      exact ih _ (i + 1) _ ⟨by omega, by omega, fr_up f ⟨rfl, rfl⟩, by rw [up_same]; omega, by rw [up_same]; omega, by omega, by omega⟩ (by omega)
