theorem s_Tp_readPiece {σ : eS} (h : RA σ) (hat : σ 10 6 < σ 10 3) : MtV shA M_Tp_readPiece [vr 10] σ (fun σ' => QJ σ σ') := by
  refine Mt.of okM_Tp_readPiece (Nat.le_of_ble_eq_true rfl) (fun hk hg => ?_)
  have h0 := h.1
  obtain ⟨p1, p2, p3, p4⟩ := id h0
  refine ok_aload_n 0 rfl rfl rfl (ok_aload_n 1 rfl rfl rfl (ok_getI 2 rfl rfl fl_X10_31 rfl rfl (Or.inl rfl) (ok_callVI (M' := M_Tp_isBlank) (as := [_]) 3 rfl rfl ml_X10_58 (s_Tp_isBlank ⟨p1, p2⟩ p3) rfl rfl (Nat.le_of_ble_eq_true rfl) ⟨Nat.le_of_ble_eq_true rfl, Nat.le_of_ble_eq_true rfl⟩ rfl (Nat.le_of_ble_eq_true rfl) (fun σ' z1 a1 => ?_))))
  obtain ⟨hs_, a1⟩ := a1
  rw [hs_]; clear hs_ σ'
  refine ok_if_eq 4 24 rfl rfl rfl (fun h8 => ?_) (fun h8 => ?_)
  · refine ok_aload_n 12 rfl rfl rfl (ok_aload_n 13 rfl rfl rfl (ok_getI 14 rfl rfl fl_X10_31 rfl rfl (Or.inl rfl) (ok_bipush 15 rfl rfl (by decide) (by decide) (ok_callVI (M' := M_Tp_isSign) (as := [_, _]) 16 rfl rfl ml_X10_62 (s_Tp_isSign ⟨p1, p2⟩ p3) rfl rfl (Nat.le_of_ble_eq_true rfl) ⟨Nat.le_of_ble_eq_true rfl, Nat.le_of_ble_eq_true rfl⟩ rfl (Nat.le_of_ble_eq_true rfl) (fun σ' z2 a2 => ?_)))))
    obtain ⟨hs_, a2⟩ := a2
    rw [hs_]; clear hs_ σ'
    refine ok_if_eq 17 44 rfl rfl rfl (fun h34 => ?_) (fun h34 => ?_)
    · refine ok_aload_n 21 rfl rfl rfl (ok_aload_n 22 rfl rfl rfl (ok_getI 23 rfl rfl fl_X10_31 rfl rfl (Or.inl rfl) (ok_callVI (M' := M_Tp_isDigit) (as := [_]) 24 rfl rfl ml_X10_69 (s_Tp_isDigit ⟨p1, p2⟩ p3) rfl rfl (Nat.le_of_ble_eq_true rfl) ⟨Nat.le_of_ble_eq_true rfl, Nat.le_of_ble_eq_true rfl⟩ rfl (Nat.le_of_ble_eq_true rfl) (fun σ' z3 a3 => ?_))))
      obtain ⟨hs_, a3⟩ := a3
      rw [hs_]; clear hs_ σ'
      refine ok_if_eq 25 62 rfl rfl rfl (fun h52 => ?_) (fun h52 => ?_)
      · refine ok_aload_n 29 rfl rfl rfl (ok_iconst 30 rfl rfl (by decide) (ok_aload_n 31 rfl rfl rfl (ok_getI 32 rfl rfl fl_X10_31 rfl rfl (Or.inl rfl) (ok_callVV (M' := M_Tp_fail) (as := [_, _]) 33 rfl rfl ml_X10_75 (s_Tp_fail) rfl rfl (Nat.le_of_ble_eq_true rfl) ⟨Nat.le_of_ble_eq_true rfl, Nat.le_of_ble_eq_true rfl⟩ rfl (Nat.le_of_ble_eq_true rfl) (fun σ' hz => ?_)))))
        rw [hz]
        clear hz σ'
        refine ok_vret 34 rfl rfl rfl ?_
        exact ⟨rfl, QJ_D h (QD_f h0 _ _)⟩
      · refine ok_aload_n 26 rfl rfl rfl (ok_callVV (M' := M_Tp_readFraction) (as := []) 27 rfl rfl ml_X10_72 (s_Tp_readFraction h) rfl rfl (Nat.le_of_ble_eq_true rfl) ⟨Nat.le_of_ble_eq_true rfl, Nat.le_of_ble_eq_true rfl⟩ rfl (Nat.le_of_ble_eq_true rfl) (fun τ hz => ?_))
        refine ok_goto 28 71 rfl rfl rfl (ok_vret 34 rfl rfl rfl ?_)
        exact ⟨rfl, hz⟩
    · refine ok_aload_n 18 rfl rfl rfl (ok_callVV (M' := M_Tp_closeRow) (as := []) 19 rfl rfl ml_X10_66 (s_Tp_closeRow h hat) rfl rfl (Nat.le_of_ble_eq_true rfl) ⟨Nat.le_of_ble_eq_true rfl, Nat.le_of_ble_eq_true rfl⟩ rfl (Nat.le_of_ble_eq_true rfl) (fun τ hz => ?_))
      refine ok_goto 20 71 rfl rfl rfl (ok_vret 34 rfl rfl rfl ?_)
      exact ⟨rfl, hz⟩
  · refine ok_aload_n 5 rfl rfl rfl (ok_dup 6 rfl rfl rfl (ok_getI 7 rfl rfl fl_X10_31 rfl rfl (Or.inl rfl) (ok_iconst 8 rfl rfl (by decide) (ok_iadd 9 rfl rfl (by first | omega | (simp [up_if]; omega) | (simp [up_if] at *; omega)) (ok_putI 10 rfl rfl fl_X10_31 rfl rfl rfl rfl (ok_goto 11 71 rfl rfl rfl (ok_vret 34 rfl rfl rfl ?_)))))))
    exact ⟨rfl, QJ_D h ⟨fr_up fr.rf (by simp [rgD]), by rw [up_same]; omega, by rw [up_same]; omega⟩⟩
theorem s_Tp_checkEnd {σ : eS} (h : RA σ) : MtV shA M_Tp_checkEnd [vr 10] σ (fun σ' => QJ σ σ' ∧ (σ' 10 4 = 0 → σ' 10 7 = σ' 10 9)) := by
  refine Mt.of okM_Tp_checkEnd (Nat.le_of_ble_eq_true rfl) (fun hk hg => ?_)
  have h0 := h.1
  have tail : ∀ τ : eS, QJ σ τ → Ok shA M_Tp_checkEnd 23 [some (vr 10)] [] τ (fun σ' v => v = none ∧ QJ σ σ' ∧ (σ' 10 4 = 0 → σ' 10 7 = σ' 10 9)) := by
    intro τ q
    refine ok_aload_n 11 rfl rfl rfl (ok_getI 12 rfl rfl fl_X10_25 rfl rfl (Or.inl rfl) (ok_if_ne 13 50 rfl rfl rfl (fun h27 => ?_) (fun h27 => ?_)))
    · refine ok_vret 24 rfl rfl rfl ?_
      exact ⟨rfl, q, fun w => absurd w h27⟩
    · refine ok_aload_n 14 rfl rfl rfl (ok_getI 15 rfl rfl fl_X10_34 rfl rfl (Or.inl rfl) (ok_aload_n 16 rfl rfl rfl (ok_getI 17 rfl rfl fl_X10_40 rfl rfl (Or.inl rfl) (ok_icmp_eq 18 50 rfl rfl rfl (fun h38 => ?_) (fun h38 => ?_)))))
      · refine ok_vret 24 rfl rfl rfl ?_
        exact ⟨rfl, q, fun _ => by omega⟩
      · refine ok_aload_n 19 rfl rfl rfl (ok_iconst 20 rfl rfl (by decide) (ok_aload_n 21 rfl rfl rfl (ok_getI 22 rfl rfl fl_X10_21 rfl rfl (Or.inl rfl) (ok_callVV (M' := M_Tp_fail) (as := [_, _]) 23 rfl rfl ml_X10_75 (s_Tp_fail) rfl rfl (Nat.le_of_ble_eq_true rfl) ⟨Nat.le_of_ble_eq_true rfl, Nat.le_of_ble_eq_true rfl⟩ rfl (Nat.le_of_ble_eq_true rfl) (fun σ' hz => ?_)))))
        rw [hz]
        clear hz σ'
        refine ok_vret 24 rfl rfl rfl ?_
        exact ⟨rfl, ⟨q.1.tr (QJ_D q.2 (QD_f q.2.1 _ _)).1, (QJ_D q.2 (QD_f q.2.1 _ _)).2⟩, fun w => absurd w (by simp [up_if])⟩
  refine ok_aload_n 0 rfl rfl rfl (ok_getI 1 rfl rfl fl_X10_25 rfl rfl (Or.inl rfl) (ok_if_ne 2 23 rfl rfl rfl (fun h4 => ?_) (fun h4 => ?_)))
  · exact tail σ ⟨fr.rf, h⟩
  · refine ok_aload_n 3 rfl rfl rfl (ok_getI 4 rfl rfl fl_X10_37 rfl rfl (Or.inl rfl) (ok_if_le 5 23 rfl rfl rfl (fun h11 => ?_) (fun h11 => ?_)))
    · exact tail σ ⟨fr.rf, h⟩
    · refine ok_aload_n 6 rfl rfl rfl (ok_iconst 7 rfl rfl (by decide) (ok_aload_n 8 rfl rfl rfl (ok_getI 9 rfl rfl fl_X10_21 rfl rfl (Or.inl rfl) (ok_callVV (M' := M_Tp_fail) (as := [_, _]) 10 rfl rfl ml_X10_75 (s_Tp_fail) rfl rfl (Nat.le_of_ble_eq_true rfl) ⟨Nat.le_of_ble_eq_true rfl, Nat.le_of_ble_eq_true rfl⟩ rfl (Nat.le_of_ble_eq_true rfl) (fun σ' hz => ?_)))))
      rw [hz]
      clear hz σ'
      exact tail _ (QJ_D h (QD_f h0 _ _))
