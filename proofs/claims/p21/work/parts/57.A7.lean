def tL (σ : eS) : Prop := 0 ≤ σ 10 3 ∧ σ 10 3 ≤ 600
def tP (σ : eS) : Prop := 0 ≤ σ 10 3 ∧ σ 10 3 ≤ 600 ∧ 0 ≤ σ 10 6 ∧ σ 10 6 ≤ σ 10 3
theorem s_Tp_isBlank {σ : eS} {k : Int} (h : tL σ) (hk : 0 ≤ k) : MtI shA M_Tp_isBlank [vr 10, vi k] σ (fun σ' z => σ' = σ ∧ ((z = 1 ∧ k < σ 10 3 ∧ (σ 11 k = 32 ∨ σ 11 k = 10)) ∨ (z = 0 ∧ ¬ (k < σ 10 3 ∧ (σ 11 k = 32 ∨ σ 11 k = 10))))) := by
  refine Mt.of okM_Tp_isBlank (Nat.le_of_ble_eq_true rfl) (fun hk hg => ?_)
  obtain ⟨h1, h2⟩ := h
  refine ok_iload_n 0 rfl rfl rfl (ok_aload_n 1 rfl rfl rfl (ok_getI 2 rfl rfl fl_X10_21 rfl rfl (Or.inl rfl) (ok_icmp_ge 3 34 rfl rfl rfl (fun h5 => ?_) (fun h5 => ?_))))
  · refine ok_iconst 18 rfl rfl (by decide) (ok_zret 19 rfl rfl rfl (by first | omega | (simp [up_if]; omega) | (simp [up_if] at *; omega)) ?_)
    exact ⟨_, rfl, rfl, by omega⟩
  · refine ok_aload_n 4 rfl rfl rfl (ok_getR 5 rfl rfl fl_X10_11 rfl rfl (ok_iload_n 6 rfl rfl rfl (ok_iald 7 rfl rfl rfl (by first | omega | (simp [up_if]; omega) | (simp [up_if] at *; omega)) (ok_bipush 8 rfl rfl (by decide) (by decide) (ok_icmp_eq 9 30 rfl rfl rfl (fun h16 => ?_) (fun h16 => ?_))))))
    · refine ok_iconst 16 rfl rfl (by decide) (ok_goto 17 35 rfl rfl rfl (ok_zret 19 rfl rfl rfl (by first | omega | (simp [up_if]; omega) | (simp [up_if] at *; omega)) ?_))
      exact ⟨_, rfl, rfl, by omega⟩
    · refine ok_aload_n 10 rfl rfl rfl (ok_getR 11 rfl rfl fl_X10_11 rfl rfl (ok_iload_n 12 rfl rfl rfl (ok_iald 13 rfl rfl rfl (by first | omega | (simp [up_if]; omega) | (simp [up_if] at *; omega)) (ok_bipush 14 rfl rfl (by decide) (by decide) (ok_icmp_ne 15 34 rfl rfl rfl (fun h27 => ?_) (fun h27 => ?_))))))
      · refine ok_iconst 18 rfl rfl (by decide) (ok_zret 19 rfl rfl rfl (by first | omega | (simp [up_if]; omega) | (simp [up_if] at *; omega)) ?_)
        exact ⟨_, rfl, rfl, by omega⟩
      · refine ok_iconst 16 rfl rfl (by decide) (ok_goto 17 35 rfl rfl rfl (ok_zret 19 rfl rfl rfl (by first | omega | (simp [up_if]; omega) | (simp [up_if] at *; omega)) ?_))
        exact ⟨_, rfl, rfl, by omega⟩
theorem s_Tp_isDigit {σ : eS} {k : Int} (h : tL σ) (hk : 0 ≤ k) : MtI shA M_Tp_isDigit [vr 10, vi k] σ (fun σ' z => σ' = σ ∧ ((z = 1 ∧ k < σ 10 3 ∧ 48 ≤ σ 11 k ∧ σ 11 k ≤ 57) ∨ (z = 0 ∧ ¬ (k < σ 10 3 ∧ 48 ≤ σ 11 k ∧ σ 11 k ≤ 57)))) := by
  refine Mt.of okM_Tp_isDigit (Nat.le_of_ble_eq_true rfl) (fun hk hg => ?_)
  obtain ⟨h1, h2⟩ := h
  refine ok_iload_n 0 rfl rfl rfl (ok_aload_n 1 rfl rfl rfl (ok_getI 2 rfl rfl fl_X10_21 rfl rfl (Or.inl rfl) (ok_icmp_ge 3 34 rfl rfl rfl (fun h5 => ?_) (fun h5 => ?_))))
  · refine ok_iconst 18 rfl rfl (by decide) (ok_zret 19 rfl rfl rfl (by first | omega | (simp [up_if]; omega) | (simp [up_if] at *; omega)) ?_)
    exact ⟨_, rfl, rfl, by omega⟩
  · refine ok_aload_n 4 rfl rfl rfl (ok_getR 5 rfl rfl fl_X10_11 rfl rfl (ok_iload_n 6 rfl rfl rfl (ok_iald 7 rfl rfl rfl (by first | omega | (simp [up_if]; omega) | (simp [up_if] at *; omega)) (ok_bipush 8 rfl rfl (by decide) (by decide) (ok_icmp_lt 9 34 rfl rfl rfl (fun h16 => ?_) (fun h16 => ?_))))))
    · refine ok_iconst 18 rfl rfl (by decide) (ok_zret 19 rfl rfl rfl (by first | omega | (simp [up_if]; omega) | (simp [up_if] at *; omega)) ?_)
      exact ⟨_, rfl, rfl, by omega⟩
    · refine ok_aload_n 10 rfl rfl rfl (ok_getR 11 rfl rfl fl_X10_11 rfl rfl (ok_iload_n 12 rfl rfl rfl (ok_iald 13 rfl rfl rfl (by first | omega | (simp [up_if]; omega) | (simp [up_if] at *; omega)) (ok_bipush 14 rfl rfl (by decide) (by decide) (ok_icmp_gt 15 34 rfl rfl rfl (fun h27 => ?_) (fun h27 => ?_))))))
      · refine ok_iconst 18 rfl rfl (by decide) (ok_zret 19 rfl rfl rfl (by first | omega | (simp [up_if]; omega) | (simp [up_if] at *; omega)) ?_)
        exact ⟨_, rfl, rfl, by omega⟩
      · refine ok_iconst 16 rfl rfl (by decide) (ok_goto 17 35 rfl rfl rfl (ok_zret 19 rfl rfl rfl (by first | omega | (simp [up_if]; omega) | (simp [up_if] at *; omega)) ?_))
        exact ⟨_, rfl, rfl, by omega⟩
theorem s_Tp_isSign {σ : eS} {k c : Int} (h : tL σ) (hk : 0 ≤ k) : MtI shA M_Tp_isSign [vr 10, vi k, vi c] σ (fun σ' z => σ' = σ ∧ ((z = 1 ∧ k < σ 10 3 ∧ σ 11 k = c) ∨ (z = 0 ∧ ¬ (k < σ 10 3 ∧ σ 11 k = c)))) := by
  refine Mt.of okM_Tp_isSign (Nat.le_of_ble_eq_true rfl) (fun hk hg => ?_)
  obtain ⟨h1, h2⟩ := h
  refine ok_iload_n 0 rfl rfl rfl (ok_aload_n 1 rfl rfl rfl (ok_getI 2 rfl rfl fl_X10_21 rfl rfl (Or.inl rfl) (ok_icmp_ge 3 22 rfl rfl rfl (fun h5 => ?_) (fun h5 => ?_))))
  · refine ok_iconst 12 rfl rfl (by decide) (ok_zret 13 rfl rfl rfl (by first | omega | (simp [up_if]; omega) | (simp [up_if] at *; omega)) ?_)
    exact ⟨_, rfl, rfl, by omega⟩
  · refine ok_aload_n 4 rfl rfl rfl (ok_getR 5 rfl rfl fl_X10_11 rfl rfl (ok_iload_n 6 rfl rfl rfl (ok_iald 7 rfl rfl rfl (by first | omega | (simp [up_if]; omega) | (simp [up_if] at *; omega)) (ok_iload_n 8 rfl rfl rfl (ok_icmp_ne 9 22 rfl rfl rfl (fun h15 => ?_) (fun h15 => ?_))))))
    · refine ok_iconst 12 rfl rfl (by decide) (ok_zret 13 rfl rfl rfl (by first | omega | (simp [up_if]; omega) | (simp [up_if] at *; omega)) ?_)
      exact ⟨_, rfl, rfl, by omega⟩
    · refine ok_iconst 10 rfl rfl (by decide) (ok_goto 11 23 rfl rfl rfl (ok_zret 13 rfl rfl rfl (by first | omega | (simp [up_if]; omega) | (simp [up_if] at *; omega)) ?_))
      exact ⟨_, rfl, rfl, by omega⟩
theorem s_Tp_fail {σ : eS} {a b : Int} : MtV shA M_Tp_fail [vr 10, vi a, vi b] σ (fun σ' => σ' = up (up σ 10 4 a) 10 5 b) := by
  refine Mt.of okM_Tp_fail (Nat.le_of_ble_eq_true rfl) (fun hk hg => ?_)
  refine ok_aload_n 0 rfl rfl rfl (ok_iload_n 1 rfl rfl rfl (ok_putI 2 rfl rfl fl_X10_25 rfl rfl rfl rfl (ok_aload_n 3 rfl rfl rfl (ok_iload_n 4 rfl rfl rfl (ok_putI 5 rfl rfl fl_X10_28 rfl rfl rfl rfl (ok_vret 6 rfl rfl rfl ?_))))))
  exact ⟨rfl, rfl⟩
