abbrev rgRI (t : Nat) : Nat → Int → Prop := fun c k => (c = 10 ∧ 3 ≤ k ∧ k ≤ 9) ∨ c = 12 ∨ c = 13 ∨ (c = t ∧ (k = 1 ∨ k = 2 ∨ k = 3 ∨ k = 4 ∨ k = 6)) ∨ c = t + 4
theorem sl_at {s : Int} (h : 0 ≤ s ∧ s < 4) : ([2, 3, 4, 5] : List Nat)[s.toNat]? = some (s.toNat + 2) := by
  rcases (by omega : s = 0 ∨ s = 1 ∨ s = 2 ∨ s = 3) with q | q | q | q <;> subst q <;> rfl
theorem sl_tA {s : Int} (h : 0 ≤ s ∧ s < 4) : tA (s.toNat + 2) := by unfold tA; omega
def SL (s : Int) (z : Option Nat) : Prop := (z = none ∧ ¬ (0 ≤ s ∧ s < 4)) ∨ (0 ≤ s ∧ s < 4 ∧ z = some (s.toNat + 2))
theorem s_Ev_slotAt {σ : eS} {s : Int} : MtR shA M_Ev_slotAt [vr 0, vi s] σ (fun σ' z => σ' = σ ∧ SL s z) := by
  refine Mt.of okM_Ev_slotAt (Nat.le_of_ble_eq_true rfl) (fun hk hg => ?_)
  refine ok_iload_n 0 rfl rfl rfl (ok_if_lt 1 9 rfl rfl rfl (fun h1 => ?_) (fun h1 => ?_))
  · refine ok_null 5 rfl rfl (ok_goto 6 19 rfl rfl rfl (ok_aretN 11 rfl rfl rfl ?_))
    exact ⟨_, rfl, rfl, Or.inl ⟨rfl, by omega⟩⟩
  · refine ok_iload_n 2 rfl rfl rfl (ok_iconst 3 rfl rfl (by decide) (ok_icmp_lt 4 13 rfl rfl rfl (fun h6 => ?_) (fun h6 => ?_)))
    · refine ok_aload_n 7 rfl rfl rfl (ok_getR 8 rfl rfl fl_X11_11 rfl rfl (ok_iload_n 9 rfl rfl rfl (ok_aald 10 (s.toNat + 2) rfl rfl rfl (Or.inl rfl) (by omega) (sl_at (by omega)) (ok_aret 11 rfl rfl rfl ?_))))
      exact ⟨_, rfl, rfl, Or.inr ⟨by omega, by omega, rfl⟩⟩
    · refine ok_null 5 rfl rfl (ok_goto 6 19 rfl rfl rfl (ok_aretN 11 rfl rfl rfl ?_))
      exact ⟨_, rfl, rfl, Or.inl ⟨rfl, by omega⟩⟩
/-- a slot that there is, and what it holds, or null -/
def SF (P : Nat → Prop) (s : Int) (z : Option Nat) : Prop := (z = none ∧ ¬ (0 ≤ s ∧ s < 4 ∧ P (s.toNat + 2))) ∨ (0 ≤ s ∧ s < 4 ∧ z = some (s.toNat + 2) ∧ P (s.toNat + 2))
theorem s_Ev_filledSlot {σ : eS} {s : Int} : MtR shA M_Ev_filledSlot [vr 0, vi s] σ (fun σ' z => σ' = σ ∧ SF (fun t => σ t 1 ≠ 0) s z) := by
  refine Mt.of okM_Ev_filledSlot (Nat.le_of_ble_eq_true rfl) (fun hk hg => ?_)
  refine ok_aload_n 0 rfl rfl rfl (ok_iload_n 1 rfl rfl rfl (ok_callVR (M' := M_Ev_slotAt) (as := [_]) 2 rfl rfl ml_X11_86 (s_Ev_slotAt) rfl rfl (Nat.le_of_ble_eq_true rfl) ⟨Nat.le_of_ble_eq_true rfl, Nat.le_of_ble_eq_true rfl⟩ rfl (Nat.le_of_ble_eq_true rfl) (fun σ' z hz => ?_)))
  obtain ⟨hs_, hz⟩ := hz
  rw [hs_]; clear hs_ σ'
  rcases hz with ⟨q, q2⟩ | ⟨q1, q2, q⟩
  · subst q
    refine ok_ast2 3 rfl rfl rfl (ok_aload_n 4 rfl rfl rfl (ok_ifnullN 5 17 rfl rfl rfl (ok_null 9 rfl rfl (ok_goto 10 22 rfl rfl rfl (ok_aretN 12 rfl rfl rfl ?_)))))
    exact ⟨_, rfl, rfl, Or.inl ⟨rfl, fun w => q2 ⟨w.1, w.2.1⟩⟩⟩
  · subst q
    have ht := sl_tA ⟨q1, q2⟩
    refine ok_ast2 3 rfl rfl rfl (ok_aload_n 4 rfl rfl rfl (ok_ifnull 5 rfl rfl (ok_aload_n 6 rfl rfl rfl (ok_getI 7 rfl rfl fl_X11_103 (sT ht) rfl (Or.inl rfl) (ok_if_ne 8 21 rfl rfl rfl (fun h14 => ?_) (fun h14 => ?_))))))
    · refine ok_aload_n 11 rfl rfl rfl (ok_aret 12 rfl rfl rfl ?_)
      exact ⟨_, rfl, rfl, Or.inr ⟨q1, q2, rfl, h14⟩⟩
    · refine ok_null 9 rfl rfl (ok_goto 10 22 rfl rfl rfl (ok_aretN 12 rfl rfl rfl ?_))
      exact ⟨_, rfl, rfl, Or.inl ⟨rfl, fun w => w.2.2 (by omega)⟩⟩
theorem s_Ev_evenSlot {σ : eS} {s : Int} : MtR shA M_Ev_evenSlot [vr 0, vi s] σ (fun σ' z => σ' = σ ∧ SF (fun t => σ t 3 ≠ -1) s z) := by
  refine Mt.of okM_Ev_evenSlot (Nat.le_of_ble_eq_true rfl) (fun hk hg => ?_)
  refine ok_aload_n 0 rfl rfl rfl (ok_iload_n 1 rfl rfl rfl (ok_callVR (M' := M_Ev_slotAt) (as := [_]) 2 rfl rfl ml_X11_86 (s_Ev_slotAt) rfl rfl (Nat.le_of_ble_eq_true rfl) ⟨Nat.le_of_ble_eq_true rfl, Nat.le_of_ble_eq_true rfl⟩ rfl (Nat.le_of_ble_eq_true rfl) (fun σ' z hz => ?_)))
  obtain ⟨hs_, hz⟩ := hz
  rw [hs_]; clear hs_ σ'
  rcases hz with ⟨q, q2⟩ | ⟨q1, q2, q⟩
  · subst q
    refine ok_ast2 3 rfl rfl rfl (ok_aload_n 4 rfl rfl rfl (ok_ifnullN 5 18 rfl rfl rfl (ok_null 10 rfl rfl (ok_goto 11 23 rfl rfl rfl (ok_aretN 13 rfl rfl rfl ?_)))))
    exact ⟨_, rfl, rfl, Or.inl ⟨rfl, fun w => q2 ⟨w.1, w.2.1⟩⟩⟩
  · subst q
    have ht := sl_tA ⟨q1, q2⟩
    refine ok_ast2 3 rfl rfl rfl (ok_aload_n 4 rfl rfl rfl (ok_ifnull 5 rfl rfl (ok_aload_n 6 rfl rfl rfl (ok_getI 7 rfl rfl fl_X11_109 (sT ht) rfl (Or.inl rfl) (ok_iconst 8 rfl rfl (by decide) (ok_icmp_ne 9 22 rfl rfl rfl (fun h15 => ?_) (fun h15 => ?_)))))))
    · refine ok_aload_n 12 rfl rfl rfl (ok_aret 13 rfl rfl rfl ?_)
      exact ⟨_, rfl, rfl, Or.inr ⟨q1, q2, rfl, h15⟩⟩
    · refine ok_null 10 rfl rfl (ok_goto 11 23 rfl rfl rfl (ok_aretN 13 rfl rfl rfl ?_))
      exact ⟨_, rfl, rfl, Or.inl ⟨rfl, fun w => w.2.2 (by omega)⟩⟩
