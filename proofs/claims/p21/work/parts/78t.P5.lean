theorem t_Tp_checkEnd {σ : eS} (h : RA σ) (hc : (σ 10 4 = 0 ∧ σ 10 6 = σ 10 3) ∨ σ 10 4 ≠ 0) : MtV shA M_Tp_checkEnd [vr 10] σ (fun σ' => QJ σ σ' ∧ (σ' 10 4 = 0 → σ' 10 7 = σ' 10 9) ∧ ((σ 10 4 ≠ 0 ∧ σ' = σ) ∨ (σ 10 4 = 0 ∧ (PA σ).1 = σ' 10 4 ∧ (σ' 10 4 = 0 → σ' = σ) ∧ (σ' 10 4 ≠ 0 → (PA σ).2.1 = σ' 10 5)))) := by
  refine Mt.of okM_Tp_checkEnd (Nat.le_of_ble_eq_true rfl) (fun hk hg => ?_)
  have h0 := h.1
  obtain ⟨p1, p2, p3, p4⟩ := id h0
  by_cases hf : σ 10 4 = 0
  · have hl : σ 10 6 = σ 10 3 := by omega
    have hq : sk (σ 11) (σ 10 3) (σ 10 6) = σ 10 6 := sk_0 (fun q => by have := q.1; omega)
    have hP := PR_end (r := σ 10 7) (k := σ 10 8) (w := σ 10 9) (ab := σ 12) (un := σ 13) hq (by omega)
    refine ok_aload_n 0 rfl rfl rfl (ok_getI 1 rfl rfl fl_X10_25 rfl rfl (Or.inl rfl) (ok_if_ne 2 23 rfl rfl rfl (fun h4 => ?_) (fun h4 => ?_)))
    · exact absurd hf h4
    · refine ok_aload_n 3 rfl rfl rfl (ok_getI 4 rfl rfl fl_X10_37 rfl rfl (Or.inl rfl) (ok_if_le 5 23 rfl rfl rfl (fun h11 => ?_) (fun h11 => ?_)))
      · refine ok_aload_n 11 rfl rfl rfl (ok_getI 12 rfl rfl fl_X10_25 rfl rfl (Or.inl rfl) (ok_if_ne 13 50 rfl rfl rfl (fun h27 => ?_) (fun h27 => ?_)))
        · exact absurd hf h27
        · refine ok_aload_n 14 rfl rfl rfl (ok_getI 15 rfl rfl fl_X10_34 rfl rfl (Or.inl rfl) (ok_aload_n 16 rfl rfl rfl (ok_getI 17 rfl rfl fl_X10_40 rfl rfl (Or.inl rfl) (ok_icmp_eq 18 50 rfl rfl rfl (fun h38 => ?_) (fun h38 => ?_)))))
          · refine ok_vret 24 rfl rfl rfl ?_
            refine ⟨rfl, ⟨fr.rf, h⟩, fun _ => by omega, Or.inr ⟨hf, ?_, fun _ => rfl, fun q => absurd hf q⟩⟩
            unfold PA; rw [hP, if_neg (by omega), if_neg (by omega), hf]
          · refine ok_aload_n 19 rfl rfl rfl (ok_iconst 20 rfl rfl (by decide) (ok_aload_n 21 rfl rfl rfl (ok_getI 22 rfl rfl fl_X10_21 rfl rfl (Or.inl rfl) (ok_callVV (M' := M_Tp_fail) (as := [_, _]) 23 rfl rfl ml_X10_75 (s_Tp_fail) rfl rfl (Nat.le_of_ble_eq_true rfl) ⟨Nat.le_of_ble_eq_true rfl, Nat.le_of_ble_eq_true rfl⟩ rfl (Nat.le_of_ble_eq_true rfl) (fun σ' hz => ?_)))))
            rw [hz]
            clear hz σ'
            refine ok_vret 24 rfl rfl rfl ?_
            refine ⟨rfl, QJ_D h (QD_f h0 _ _), fun w => absurd w (by simp [up_if]), Or.inr ⟨hf, ?_, fun w => absurd w (by simp [up_if]), fun _ => ?_⟩⟩
            · unfold PA; rw [hP, if_neg (by omega), if_pos (by omega)]; simp [up_if]
            · unfold PA; rw [hP, if_neg (by omega), if_pos (by omega)]; simp [up_if]
      · refine ok_aload_n 6 rfl rfl rfl (ok_iconst 7 rfl rfl (by decide) (ok_aload_n 8 rfl rfl rfl (ok_getI 9 rfl rfl fl_X10_21 rfl rfl (Or.inl rfl) (ok_callVV (M' := M_Tp_fail) (as := [_, _]) 10 rfl rfl ml_X10_75 (s_Tp_fail) rfl rfl (Nat.le_of_ble_eq_true rfl) ⟨Nat.le_of_ble_eq_true rfl, Nat.le_of_ble_eq_true rfl⟩ rfl (Nat.le_of_ble_eq_true rfl) (fun σ' hz => ?_)))))
        rw [hz]
        clear hz σ'
        have e4 : (up (up σ 10 4 1) 10 5 (σ 10 3)) 10 4 = 1 := by simp [up_if]
        refine ok_aload_n 11 rfl rfl rfl (ok_getI 12 rfl rfl fl_X10_25 rfl rfl (Or.inl rfl) (ok_if_ne 13 50 rfl rfl rfl (fun h27 => ?_) (fun h27 => ?_)))
        · refine ok_vret 24 rfl rfl rfl ?_
          refine ⟨rfl, QJ_D h (QD_f h0 _ _), fun w => absurd w (by simp [up_if]), Or.inr ⟨hf, ?_, fun w => absurd w (by simp [up_if]), fun _ => ?_⟩⟩
          · unfold PA; rw [hP, if_pos (by omega)]; simp [up_if]
          · unfold PA; rw [hP, if_pos (by omega)]; simp [up_if]
        · exact absurd h27 (by rw [e4]; decide)
  · refine ok_aload_n 0 rfl rfl rfl (ok_getI 1 rfl rfl fl_X10_25 rfl rfl (Or.inl rfl) (ok_if_ne 2 23 rfl rfl rfl (fun h4 => ?_) (fun h4 => ?_)))
    · refine ok_aload_n 11 rfl rfl rfl (ok_getI 12 rfl rfl fl_X10_25 rfl rfl (Or.inl rfl) (ok_if_ne 13 50 rfl rfl rfl (fun h27 => ?_) (fun h27 => ?_)))
      · refine ok_vret 24 rfl rfl rfl ?_
        exact ⟨rfl, ⟨fr.rf, h⟩, fun w => absurd w hf, Or.inl ⟨hf, rfl⟩⟩
      · exact absurd h27 hf
    · exact absurd h4 hf
