theorem iB1.fr {σ τ : eS} (h : iB1 σ) (f : ∀ (c : Nat) (k : Int), (c = 1 ∨ c = 2 ∨ c = 3 ∨ c = 4) → τ c k = σ c k) : iB1 τ :=
  ⟨fun t a b => by rw [f 1 t (by omega), f 2 t (by omega)]; exact h.1 t a b, fun k a b => by rw [f 3 k (by omega)]; exact h.2.1 k a b, fun k a b => by rw [f 4 k (by omega)]; exact h.2.2 k a b⟩
abbrev rgT : Nat → Int → Prop := fun c k => (c = 0 ∧ (k = 4 ∨ (6 ≤ k ∧ k ≤ 19))) ∨ c = 1 ∨ c = 2 ∨ c = 3 ∨ c = 4 ∨ c = 6 ∨ c = 7
def QT (σ : eS) (σ' : eS) (z : Int) : Prop := fr rgT σ σ' ∧ iB1 σ' ∧ σ' 0 6 = 0
theorem s_Mo_fault {σ : eS} {w : Int} : MtI shB M_Mo_fault [vr 0, vi w] σ (fun σ' z => σ' = σ ∧ z = if w = 0 then σ 0 7 else if w = 1 then σ 0 8 else -1) := by
  refine Mt.of okM_Mo_fault (Nat.le_of_ble_eq_true rfl) (fun hk hg => ?_)
  refine ok_iload_n 0 rfl rfl rfl (ok_if_ne 1 11 rfl rfl rfl (fun h1 => ?_) (fun h1 => ?_))
  · refine ok_iload_n 5 rfl rfl rfl (ok_iconst 6 rfl rfl (by decide) (ok_icmp_ne 7 23 rfl rfl rfl (fun h13 => ?_) (fun h13 => ?_)))
    · refine ok_iconst 11 rfl rfl (by decide) (ok_iret 12 rfl rfl rfl ?_)
      refine ⟨_, rfl, rfl, ?_⟩
      first | rw [if_pos (by omega)] | rw [if_neg (by omega), if_pos (by omega)] | rw [if_neg (by omega), if_neg (by omega)]
    · refine ok_aload_n 8 rfl rfl rfl (ok_getI 9 rfl rfl fl_X12_26 rfl rfl (Or.inl rfl) (ok_goto 10 24 rfl rfl rfl (ok_iret 12 rfl rfl rfl ?_)))
      refine ⟨_, rfl, rfl, ?_⟩
      first | rw [if_pos (by omega)] | rw [if_neg (by omega), if_pos (by omega)] | rw [if_neg (by omega), if_neg (by omega)]
  · refine ok_aload_n 2 rfl rfl rfl (ok_getI 3 rfl rfl fl_X12_189 rfl rfl (Or.inl rfl) (ok_goto 4 24 rfl rfl rfl (ok_iret 12 rfl rfl rfl ?_)))
    refine ⟨_, rfl, rfl, ?_⟩
    first | rw [if_pos (by omega)] | rw [if_neg (by omega), if_pos (by omega)] | rw [if_neg (by omega), if_neg (by omega)]
