theorem s_Mo_one {σ : eS} {b : Int} : MtI shB M_Mo_one [vi b] σ (fun σ' z => σ' = σ ∧ z = if b = 0 then 0 else 1) := by
  refine Mt.of okM_Mo_one (Nat.le_of_ble_eq_true rfl) (fun hk hg => ?_)
  refine ok_iload_n 0 rfl rfl rfl (ok_if_eq 1 8 rfl rfl rfl (fun h1 => ?_) (fun h1 => ?_))
  · refine ok_iconst 4 rfl rfl (by decide) (ok_iret 5 rfl rfl rfl ?_)
    exact ⟨_, rfl, rfl, by simp [*]⟩
  · refine ok_iconst 2 rfl rfl (by decide) (ok_goto 3 9 rfl rfl rfl (ok_iret 5 rfl rfl rfl ?_))
    exact ⟨_, rfl, rfl, by simp [*]⟩
theorem s_Mo_isIn {σ : eS} {v a b : Int} : MtI shB M_Mo_isIn [vl v, vl a, vl b] σ (fun σ' z => σ' = σ ∧ z = if a ≤ v ∧ v ≤ b then 1 else 0) := by
  refine Mt.of okM_Mo_isIn (Nat.le_of_ble_eq_true rfl) (fun hk hg => ?_)
  refine ok_lload_n 0 rfl rfl rfl (ok_lload_n 1 rfl rfl rfl (ok_lcmp_lt 2 3 17 rfl rfl rfl rfl rfl (fun h2 => ?_) (fun h2 => ?_)))
  · refine ok_iconst 10 rfl rfl (by decide) (ok_zret 11 rfl rfl rfl (by omega) ?_)
    exact ⟨_, rfl, rfl, by first | rw [if_pos (by omega)] | rw [if_neg (by omega)]⟩
  · refine ok_lload_n 4 rfl rfl rfl (ok_lload 5 rfl rfl rfl (ok_lcmp_gt 6 7 17 rfl rfl rfl rfl rfl (fun h9 => ?_) (fun h9 => ?_)))
    · refine ok_iconst 10 rfl rfl (by decide) (ok_zret 11 rfl rfl rfl (by omega) ?_)
      exact ⟨_, rfl, rfl, by first | rw [if_pos (by omega)] | rw [if_neg (by omega)]⟩
    · refine ok_iconst 8 rfl rfl (by decide) (ok_goto 9 18 rfl rfl rfl (ok_zret 11 rfl rfl rfl (by omega) ?_))
      exact ⟨_, rfl, rfl, by first | rw [if_pos (by omega)] | rw [if_neg (by omega)]⟩
theorem s_Mo_at {σ : eS} {s i j : Int} (h1 : 0 ≤ s ∧ s < 4) (h2 : 0 ≤ σ 1 s * i ∧ σ 1 s * i ≤ 10000) (h3 : 0 ≤ 64 * s + σ 1 s * i + j ∧ 64 * s + σ 1 s * i + j < 256) : MtI shB M_Mo_at [vr 0, vi s, vi i, vi j] σ (fun σ' z => σ' = σ ∧ z = σ 3 (64 * s + σ 1 s * i + j)) := by
  refine Mt.of okM_Mo_at (Nat.le_of_ble_eq_true rfl) (fun hk hg => ?_)
  refine ok_aload_n 0 rfl rfl rfl (ok_getR 1 rfl rfl fl_X12_16 rfl rfl (ok_bipush 2 rfl rfl (by decide) (by decide) (ok_iload_n 3 rfl rfl rfl (ok_imul 4 rfl rfl (by omega) (ok_aload_n 5 rfl rfl rfl (ok_getR 6 rfl rfl fl_X12_7 rfl rfl (ok_iload_n 7 rfl rfl rfl (ok_iald 8 rfl rfl rfl (by omega) (ok_iload_n 9 rfl rfl rfl (ok_imul 10 rfl rfl (by omega) (ok_iadd 11 rfl rfl (by omega) (ok_iload_n 12 rfl rfl rfl (ok_iadd 13 rfl rfl (by omega) (ok_iald 14 rfl rfl rfl (by omega) (ok_iret 15 rfl rfl rfl ?_)))))))))))))))
  exact ⟨_, rfl, rfl, rfl⟩
