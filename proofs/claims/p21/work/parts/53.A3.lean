theorem s_Tp_hasRoom {σ : eS} (h : 0 ≤ σ 10 3 ∧ σ 10 3 ≤ 600) : MtI shA M_Tp_hasRoom [vr 10] σ (fun σ' z => σ' = σ ∧ ((z = 1 ∧ σ 10 3 + 20 ≤ 600) ∨ (z = 0 ∧ ¬ (σ 10 3 + 20 ≤ 600)))) := by
  refine Mt.of okM_Tp_hasRoom (Nat.le_of_ble_eq_true rfl) (fun hk hg => ?_)
  refine ok_aload_n 0 rfl rfl rfl (ok_getI 1 rfl rfl fl_X10_21 rfl rfl (Or.inl rfl) (ok_bipush 2 rfl rfl (by decide) (by decide) (ok_iadd 3 rfl rfl (by first | omega | (simp [up_if]; omega) | (simp [up_if] at *; omega)) (ok_sipush 4 rfl rfl (by decide) (by decide) (ok_icmp_gt 5 17 rfl rfl rfl (fun h10 => ?_) (fun h10 => ?_))))))
  · refine ok_iconst 8 rfl rfl (by decide) (ok_zret 9 rfl rfl rfl (by first | omega | (simp [up_if]; omega) | (simp [up_if] at *; omega)) ?_)
    exact ⟨_, rfl, rfl, by omega⟩
  · refine ok_iconst 6 rfl rfl (by decide) (ok_goto 7 18 rfl rfl rfl (ok_zret 9 rfl rfl rfl (by first | omega | (simp [up_if]; omega) | (simp [up_if] at *; omega)) ?_))
    exact ⟨_, rfl, rfl, by omega⟩
theorem s_Ev_end {σ : eS} {n : Int} : MtI shA M_Ev_end [vr 0, vi n] σ (fun σ' z => (0 ≤ n ∧ n ≤ σ 10 3 ∧ σ' = up σ 10 3 n ∧ z = 1) ∨ (¬ (0 ≤ n ∧ n ≤ σ 10 3) ∧ σ' = σ ∧ z = 0)) := by
  refine Mt.of okM_Ev_end (Nat.le_of_ble_eq_true rfl) (fun hk hg => ?_)
  refine ok_iload_n 0 rfl rfl rfl (ok_if_lt 1 15 rfl rfl rfl (fun h1 => ?_) (fun h1 => ?_))
  · refine ok_iconst 7 rfl rfl (by decide) (ok_zret 8 rfl rfl rfl (by first | omega | (simp [up_if]; omega) | (simp [up_if] at *; omega)) ?_)
    exact ⟨_, rfl, Or.inr ⟨by omega, rfl, rfl⟩⟩
  · refine ok_iload_n 2 rfl rfl rfl (ok_aload_n 3 rfl rfl rfl (ok_getR 4 rfl rfl fl_X11_18 rfl rfl (ok_getI 5 rfl rfl fl_X11_82 rfl rfl (Or.inl rfl) (ok_icmp_le 6 17 rfl rfl rfl (fun h12 => ?_) (fun h12 => ?_)))))
    · refine ok_aload_n 9 rfl rfl rfl (ok_getR 10 rfl rfl fl_X11_18 rfl rfl (ok_iload_n 11 rfl rfl rfl (ok_putI 12 rfl rfl fl_X11_82 rfl rfl rfl rfl (ok_iconst 13 rfl rfl (by decide) (ok_zret 14 rfl rfl rfl (by first | omega | (simp [up_if]; omega) | (simp [up_if] at *; omega)) ?_)))))
      exact ⟨_, rfl, Or.inl ⟨by omega, by omega, rfl, rfl⟩⟩
    · refine ok_iconst 7 rfl rfl (by decide) (ok_zret 8 rfl rfl rfl (by first | omega | (simp [up_if]; omega) | (simp [up_if] at *; omega)) ?_)
      exact ⟨_, rfl, Or.inr ⟨by omega, rfl, rfl⟩⟩
