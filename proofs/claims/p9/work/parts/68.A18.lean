abbrev rgRI (t : Nat) : Nat → Int → Prop := fun c k => (c = 10 ∧ 3 ≤ k ∧ k ≤ 9) ∨ c = 12 ∨ c = 13 ∨ (c = t ∧ (k = 1 ∨ k = 2 ∨ k = 3 ∨ k = 4 ∨ k = 6)) ∨ c = t + 4
theorem s_Tp_readInto {σ : eS} {t : Nat} (ht : tA t) (h : tL σ) (hT : iT σ t) (hM : mT σ t) : MtI shA M_Tp_readInto [vr 10, vr t] σ (fun σ' _ => fr (rgRI t) σ σ' ∧ iT σ' t ∧ mT σ' t ∧ σ' 10 3 = 0) := by
  refine Mt.of okM_Tp_readInto (Nat.le_of_ble_eq_true rfl) (fun hk hg => ?_)
  obtain ⟨n1, n2, n3, n4, n5, n6, n7, n8, n9, nA⟩ := tA_10 ht
  have h1 := h.1
  have h2 := h.2
  obtain ⟨τ, eτ⟩ : ∃ τ, τ = up (up (up (up (up (up σ 10 4 0) 10 5 (-1)) 10 6 0) 10 7 0) 10 8 0) 10 9 0 := ⟨_, rfl⟩
  have f : fr rgJ σ τ := by rw [eτ]; exact fr_up (fr_up (fr_up (fr_up (fr_up (fr_up fr.rf (by simp [rgJ])) (by simp [rgJ])) (by simp [rgJ])) (by simp [rgJ])) (by simp [rgJ])) (by simp [rgJ])
  have e6 : τ 10 6 = 0 := by rw [eτ]; simp [up_if]
  have e7 : τ 10 7 = 0 := by rw [eτ]; simp [up_if]
  have e8 : τ 10 8 = 0 := by rw [eτ]; simp [up_if]
  have e9 : τ 10 9 = 0 := by rw [eτ]; simp [up_if]
  have e3 : τ 10 3 = σ 10 3 := f 10 3 (by simp [rgJ])
  have hR : RA τ := ⟨⟨by omega, by omega, by omega, by omega⟩, by omega, by omega, by omega, by omega, by omega, by omega, fun i j a b => by omega, fun j a b c => by omega, by omega⟩
  refine ok_aload_n 0 rfl rfl rfl (ok_iconst 1 rfl rfl (by decide) (ok_putI 2 rfl rfl fl_X10_25 rfl rfl rfl rfl (ok_aload_n 3 rfl rfl rfl (ok_iconst 4 rfl rfl (by decide) (ok_putI 5 rfl rfl fl_X10_28 rfl rfl rfl rfl (ok_aload_n 6 rfl rfl rfl (ok_iconst 7 rfl rfl (by decide) (ok_putI 8 rfl rfl fl_X10_31 rfl rfl rfl rfl (ok_aload_n 9 rfl rfl rfl (ok_iconst 10 rfl rfl (by decide) (ok_putI 11 rfl rfl fl_X10_34 rfl rfl rfl rfl (ok_aload_n 12 rfl rfl rfl (ok_iconst 13 rfl rfl (by decide) (ok_putI 14 rfl rfl fl_X10_37 rfl rfl rfl rfl (ok_aload_n 15 rfl rfl rfl (ok_iconst 16 rfl rfl (by decide) (ok_putI 17 rfl rfl fl_X10_40 rfl rfl rfl rfl (ok_iconst 18 rfl rfl (by decide) (ok_ist2 19 rfl rfl rfl ?_)))))))))))))))))))
  rw [← eτ]
  refine lpO2 (fun (k : Int) (_ : eS) => [some (vr 10), some (vr t), some (vi k)]) (fun _ ρ => ρ) (fun k ρ => 0 ≤ k ∧ k ≤ 600 ∧ fr rgJ σ ρ ∧ RA ρ) (fun k _ => (600 - k).toNat) ?_ 0 τ ⟨by omega, by omega, f, hR⟩
  clear e3 e9 e8 e7 e6 hR f eτ τ
  rintro k ρ ⟨k1, k2, f, hR⟩ ih
  have tail : Ok shA M_Tp_readInto 67 [some (vr 10), some (vr t), some (vi k)] [] ρ (fun σ' v => ∃ z, v = some (vi z) ∧ fr (rgRI t) σ σ' ∧ iT σ' t ∧ mT σ' t ∧ σ' 10 3 = 0) := by
    clear ih
    refine ok_aload_n 35 rfl rfl rfl (ok_callVV (M' := M_Tp_checkEnd) (as := []) 36 rfl rfl ml_X10_46 (s_Tp_checkEnd hR) rfl rfl (Nat.le_of_ble_eq_true rfl) ⟨Nat.le_of_ble_eq_true rfl, Nat.le_of_ble_eq_true rfl⟩ rfl (Nat.le_of_ble_eq_true rfl) (fun ρ1 z1 => ?_))
    have f1 : fr rgJ σ ρ1 := f.tr z1.1.1
    have x1 : ∀ k, ρ1 (t + 4) k = σ (t + 4) k := fun k => f1 _ _ (by simp only [rgJ]; omega)
    have x2 : ∀ k, ρ1 t k = σ t k := fun k => f1 _ _ (by simp only [rgJ]; omega)
    refine ok_aload_n 37 rfl rfl rfl (ok_aload_n 38 rfl rfl rfl (ok_callVV (M' := M_Tp_fill) (as := [_]) 39 rfl rfl ml_X10_49 (s_Tp_fill ht z1.1.2 z1.2 (iT_cg hT (x2 1) (x2 2) x1).1 (mT_cg hM (x2 1) (x2 3) x1)) rfl rfl (Nat.le_of_ble_eq_true rfl) ⟨Nat.le_of_ble_eq_true rfl, Nat.le_of_ble_eq_true rfl⟩ rfl (Nat.le_of_ble_eq_true rfl) (fun ρ2 z2 => ?_)))
    refine ok_aload_n 40 rfl rfl rfl (ok_iconst 41 rfl rfl (by decide) (ok_putI 42 rfl rfl fl_X10_21 rfl rfl rfl rfl (ok_aload_n 43 rfl rfl rfl (ok_getI 44 rfl rfl fl_X10_25 rfl rfl (Or.inl rfl) (ok_if_ne 45 95 rfl rfl rfl (fun h85 => ?_) (fun h85 => ?_))))))
    · refine ok_iconst 49 rfl rfl (by decide) (ok_iret 50 rfl rfl rfl ?_)
      exact ⟨_, rfl, fr_up ((f1.mono (fun c k q => by simp only [rgJ, rgRI] at q ⊢; omega)).tr (z2.1.mono (fun c k q => by simp only [rgFi, rgRI] at q ⊢; omega))) (by simp [rgRI]), (iT_cg z2.2.1 (up_ne _ _ _ _ n1) (up_ne _ _ _ _ n1) (fun k => up_ne _ _ _ _ n2)).1, mT_cg z2.2.2 (up_ne _ _ _ _ n1) (up_ne _ _ _ _ n1) (fun k => up_ne _ _ _ _ n2), up_same _ _ _ _⟩
    · refine ok_aload_n 46 rfl rfl rfl (ok_getI 47 rfl rfl fl_X10_53 (sT ht) rfl (Or.inl rfl) (ok_goto 48 96 rfl rfl rfl (ok_iret 50 rfl rfl rfl ?_)))
      exact ⟨_, rfl, fr_up ((f1.mono (fun c k q => by simp only [rgJ, rgRI] at q ⊢; omega)).tr (z2.1.mono (fun c k q => by simp only [rgFi, rgRI] at q ⊢; omega))) (by simp [rgRI]), (iT_cg z2.2.1 (up_ne _ _ _ _ n1) (up_ne _ _ _ _ n1) (fun k => up_ne _ _ _ _ n2)).1, mT_cg z2.2.2 (up_ne _ _ _ _ n1) (up_ne _ _ _ _ n1) (fun k => up_ne _ _ _ _ n2), up_same _ _ _ _⟩
  refine ok_iload_n 20 rfl rfl rfl (ok_sipush 21 rfl rfl (by decide) (by decide) (ok_icmp_ge 22 67 rfl rfl rfl (fun h36 => ?_) (fun h36 => ?_)))
  · exact tail
  · refine ok_aload_n 23 rfl rfl rfl (ok_getI 24 rfl rfl fl_X10_31 rfl rfl (Or.inl rfl) (ok_aload_n 25 rfl rfl rfl (ok_getI 26 rfl rfl fl_X10_21 rfl rfl (Or.inl rfl) (ok_icmp_ge 27 67 rfl rfl rfl (fun h47 => ?_) (fun h47 => ?_)))))
    · exact tail
    · refine ok_aload_n 28 rfl rfl rfl (ok_getI 29 rfl rfl fl_X10_25 rfl rfl (Or.inl rfl) (ok_if_ne 30 67 rfl rfl rfl (fun h54 => ?_) (fun h54 => ?_)))
      · exact tail
      · refine ok_aload_n 31 rfl rfl rfl (ok_callVV (M' := M_Tp_readPiece) (as := []) 32 rfl rfl ml_X10_43 (s_Tp_readPiece hR (by omega)) rfl rfl (Nat.le_of_ble_eq_true rfl) ⟨Nat.le_of_ble_eq_true rfl, Nat.le_of_ble_eq_true rfl⟩ rfl (Nat.le_of_ble_eq_true rfl) (fun ρ1 z1 => ?_))
        refine ok_inc2 33 rfl rfl rfl (by first | omega | (simp [up_if]; omega) | (simp [up_if] at *; omega)) (ok_goto 34 32 rfl rfl rfl ?_)
        exact ih (k + 1) ρ1 ⟨by omega, by omega, f.tr z1.1, z1.2⟩ (by omega)
theorem sl_at {s : Int} (h : 0 ≤ s ∧ s < 4) : ([2, 3, 4, 5] : List Nat)[s.toNat]? = some (s.toNat + 2) := by
  rcases (by omega : s = 0 ∨ s = 1 ∨ s = 2 ∨ s = 3) with q | q | q | q <;> subst q <;> rfl
theorem sl_tA {s : Int} (h : 0 ≤ s ∧ s < 4) : tA (s.toNat + 2) := by unfold tA; omega
def SL (s : Int) (z : Option Nat) : Prop := (z = none ∧ ¬ (0 ≤ s ∧ s < 4)) ∨ (0 ≤ s ∧ s < 4 ∧ z = some (s.toNat + 2))
theorem s_Ev_slotAt {σ : eS} {s : Int} : MtR shA M_Ev_slotAt [vr 0, vi s] σ (fun σ' z => σ' = σ ∧ SL s z) := by
  refine Mt.of okM_Ev_slotAt (Nat.le_of_ble_eq_true rfl) (fun hk hg => ?_)
  refine ok_iload_n 0 rfl rfl rfl (ok_if_lt 1 9 rfl rfl rfl (fun h1 => ?_) (fun h1 => ?_))
  · refine ok_null 5 rfl rfl (ok_goto 6 19 rfl rfl rfl (ok_aretN 11 rfl rfl rfl ?_))
    exact ⟨_, rfl, rfl, Or.inl ⟨rfl, by omega⟩⟩
  · refine ok_iload_n 2 rfl rfl rfl (ok_iconst 3 rfl rfl (by decide) (ok_icmp_lt 4 13 rfl rfl rfl (fun h6 => ?_) (fun h6 => ?_)))
    · refine ok_aload_n 7 rfl rfl rfl (ok_getR 8 rfl rfl fl_X11_11 rfl rfl (ok_iload_n 9 rfl rfl rfl (ok_aald 10 (s.toNat + 2) rfl rfl rfl (Or.inl rfl) (by omega) (sl_at (by omega)) (ok_aret 11 rfl rfl rfl ?_))))
      exact ⟨_, rfl, rfl, Or.inr ⟨by omega, by omega, rfl⟩⟩
    · refine ok_null 5 rfl rfl (ok_goto 6 19 rfl rfl rfl (ok_aretN 11 rfl rfl rfl ?_))
      exact ⟨_, rfl, rfl, Or.inl ⟨rfl, by omega⟩⟩
/-- a slot that there is, and what it holds, or null -/
def SF (P : Nat → Prop) (s : Int) (z : Option Nat) : Prop := (z = none ∧ ¬ (0 ≤ s ∧ s < 4 ∧ P (s.toNat + 2))) ∨ (0 ≤ s ∧ s < 4 ∧ z = some (s.toNat + 2) ∧ P (s.toNat + 2))
theorem s_Ev_filledSlot {σ : eS} {s : Int} : MtR shA M_Ev_filledSlot [vr 0, vi s] σ (fun σ' z => σ' = σ ∧ SF (fun t => σ t 1 ≠ 0) s z) := by
  refine Mt.of okM_Ev_filledSlot (Nat.le_of_ble_eq_true rfl) (fun hk hg => ?_)
  refine ok_aload_n 0 rfl rfl rfl (ok_iload_n 1 rfl rfl rfl (ok_callVR (M' := M_Ev_slotAt) (as := [_]) 2 rfl rfl ml_X11_86 (s_Ev_slotAt) rfl rfl (Nat.le_of_ble_eq_true rfl) ⟨Nat.le_of_ble_eq_true rfl, Nat.le_of_ble_eq_true rfl⟩ rfl (Nat.le_of_ble_eq_true rfl) (fun σ' z hz => ?_)))
  obtain ⟨hs_, hz⟩ := hz
  rw [hs_]; clear hs_ σ'
  rcases hz with ⟨q, q2⟩ | ⟨q1, q2, q⟩
  · subst q
    refine ok_ast2 3 rfl rfl rfl (ok_aload_n 4 rfl rfl rfl (ok_ifnullN 5 17 rfl rfl rfl (ok_null 9 rfl rfl (ok_goto 10 22 rfl rfl rfl (ok_aretN 12 rfl rfl rfl ?_)))))
    exact ⟨_, rfl, rfl, Or.inl ⟨rfl, fun w => q2 ⟨w.1, w.2.1⟩⟩⟩
  · subst q
    have ht := sl_tA ⟨q1, q2⟩
    refine ok_ast2 3 rfl rfl rfl (ok_aload_n 4 rfl rfl rfl (ok_ifnull 5 rfl rfl (ok_aload_n 6 rfl rfl rfl (ok_getI 7 rfl rfl fl_X11_103 (sT ht) rfl (Or.inl rfl) (ok_if_ne 8 21 rfl rfl rfl (fun h14 => ?_) (fun h14 => ?_))))))
    · refine ok_aload_n 11 rfl rfl rfl (ok_aret 12 rfl rfl rfl ?_)
      exact ⟨_, rfl, rfl, Or.inr ⟨q1, q2, rfl, h14⟩⟩
    · refine ok_null 9 rfl rfl (ok_goto 10 22 rfl rfl rfl (ok_aretN 12 rfl rfl rfl ?_))
      exact ⟨_, rfl, rfl, Or.inl ⟨rfl, fun w => w.2.2 (by omega)⟩⟩
theorem s_Ev_evenSlot {σ : eS} {s : Int} : MtR shA M_Ev_evenSlot [vr 0, vi s] σ (fun σ' z => σ' = σ ∧ SF (fun t => σ t 3 ≠ -1) s z) := by
  refine Mt.of okM_Ev_evenSlot (Nat.le_of_ble_eq_true rfl) (fun hk hg => ?_)
  refine ok_aload_n 0 rfl rfl rfl (ok_iload_n 1 rfl rfl rfl (ok_callVR (M' := M_Ev_slotAt) (as := [_]) 2 rfl rfl ml_X11_86 (s_Ev_slotAt) rfl rfl (Nat.le_of_ble_eq_true rfl) ⟨Nat.le_of_ble_eq_true rfl, Nat.le_of_ble_eq_true rfl⟩ rfl (Nat.le_of_ble_eq_true rfl) (fun σ' z hz => ?_)))
  obtain ⟨hs_, hz⟩ := hz
  rw [hs_]; clear hs_ σ'
  rcases hz with ⟨q, q2⟩ | ⟨q1, q2, q⟩
  · subst q
    refine ok_ast2 3 rfl rfl rfl (ok_aload_n 4 rfl rfl rfl (ok_ifnullN 5 18 rfl rfl rfl (ok_null 10 rfl rfl (ok_goto 11 23 rfl rfl rfl (ok_aretN 13 rfl rfl rfl ?_)))))
    exact ⟨_, rfl, rfl, Or.inl ⟨rfl, fun w => q2 ⟨w.1, w.2.1⟩⟩⟩
  · subst q
    have ht := sl_tA ⟨q1, q2⟩
    refine ok_ast2 3 rfl rfl rfl (ok_aload_n 4 rfl rfl rfl (ok_ifnull 5 rfl rfl (ok_aload_n 6 rfl rfl rfl (ok_getI 7 rfl rfl fl_X11_109 (sT ht) rfl (Or.inl rfl) (ok_iconst 8 rfl rfl (by decide) (ok_icmp_ne 9 22 rfl rfl rfl (fun h15 => ?_) (fun h15 => ?_)))))))
    · refine ok_aload_n 12 rfl rfl rfl (ok_aret 13 rfl rfl rfl ?_)
      exact ⟨_, rfl, rfl, Or.inr ⟨q1, q2, rfl, h15⟩⟩
    · refine ok_null 10 rfl rfl (ok_goto 11 23 rfl rfl rfl (ok_aretN 13 rfl rfl rfl ?_))
      exact ⟨_, rfl, rfl, Or.inl ⟨rfl, fun w => w.2.2 (by omega)⟩⟩
