abbrev rgG : Nat → Int → Prop := fun c k => (c = 10 ∧ k = 3) ∨ c = 11
def fdA (σ : eS) (L a b c d e : Int) (σ' : eS) : Prop := fr rgG σ σ' ∧ σ' 10 3 = L + 20 ∧ (∀ k, k < L → σ' 11 k = σ 11 k) ∧ ∀ q, 0 ≤ q → q < 4 → σ' 11 (L + q) = byA a q ∧ σ' 11 (L + 4 + q) = byA b q ∧ σ' 11 (L + 8 + q) = byA c q ∧ σ' 11 (L + 12 + q) = byA d q ∧ σ' 11 (L + 16 + q) = byA e q
theorem pA_fr {σ σ' : eS} {L v : Int} (h : pA σ L v 4 σ') : fr rgG σ σ' ∧ (∀ k, k < L → σ' 11 k = σ 11 k) ∧ ∀ k, 0 ≤ k → ¬ (k = 3) → σ' 10 k = σ 10 k :=
  ⟨h.1.mono (fun c k q => by simp only [rgG]; omega), fun k q => h.1 11 k (by omega), fun k _ q => h.1 10 k (by omega)⟩
theorem s_Ev_feed {σ : eS} {a b c d e : Int} (h : 0 ≤ σ 10 3 ∧ σ 10 3 ≤ 600) : MtI shA M_Ev_feed [vr 0, vi a, vi b, vi c, vi d, vi e] σ (fun σ' z => (σ 10 3 + 20 ≤ 600 ∧ fdA σ (σ 10 3) a b c d e σ' ∧ z = σ 10 3 + 20) ∨ (600 < σ 10 3 + 20 ∧ σ' = σ ∧ z = -1)) := by
  refine Mt.of okM_Ev_feed (Nat.le_of_ble_eq_true rfl) (fun hk hg => ?_)
  obtain ⟨L, eL⟩ : ∃ L, L = σ 10 3 := ⟨_, rfl⟩
  rw [← eL] at h ⊢
  refine ok_aload_n 0 rfl rfl rfl (ok_getR 1 rfl rfl fl_X11_18 rfl rfl (ok_callVI (M' := M_Tp_hasRoom) (as := []) 2 rfl rfl ml_X11_74 (s_Tp_hasRoom (by omega)) rfl rfl (Nat.le_of_ble_eq_true rfl) ⟨Nat.le_of_ble_eq_true rfl, Nat.le_of_ble_eq_true rfl⟩ rfl (Nat.le_of_ble_eq_true rfl) (fun σ' z1 a1 => ?_)))
  obtain ⟨hs_, a1⟩ := a1
  rw [hs_]; clear hs_ σ'
  refine ok_if_ne 3 12 rfl rfl rfl (fun h7 => ?_) (fun h7 => ?_)
  · refine ok_aload_n 6 rfl rfl rfl (ok_getR 7 rfl rfl fl_X11_18 rfl rfl (ok_iload_n 8 rfl rfl rfl (ok_callVV (M' := M_Tp_putNumber) (as := [_]) 9 rfl rfl ml_X11_78 (s_Tp_putNumber (L := L) eL.symm ⟨by omega, by omega⟩) rfl rfl (Nat.le_of_ble_eq_true rfl) ⟨Nat.le_of_ble_eq_true rfl, Nat.le_of_ble_eq_true rfl⟩ rfl (Nat.le_of_ble_eq_true rfl) (fun σ1 p1 => ?_))))
    refine ok_aload_n 10 rfl rfl rfl (ok_getR 11 rfl rfl fl_X11_18 rfl rfl (ok_iload_n 12 rfl rfl rfl (ok_callVV (M' := M_Tp_putNumber) (as := [_]) 13 rfl rfl ml_X11_78 (s_Tp_putNumber (L := L + 4) p1.2.1 ⟨by omega, by omega⟩) rfl rfl (Nat.le_of_ble_eq_true rfl) ⟨Nat.le_of_ble_eq_true rfl, Nat.le_of_ble_eq_true rfl⟩ rfl (Nat.le_of_ble_eq_true rfl) (fun σ2 p2 => ?_))))
    refine ok_aload_n 14 rfl rfl rfl (ok_getR 15 rfl rfl fl_X11_18 rfl rfl (ok_iload_n 16 rfl rfl rfl (ok_callVV (M' := M_Tp_putNumber) (as := [_]) 17 rfl rfl ml_X11_78 (s_Tp_putNumber (L := L + 8) (by have := p2.2.1; omega) ⟨by omega, by omega⟩) rfl rfl (Nat.le_of_ble_eq_true rfl) ⟨Nat.le_of_ble_eq_true rfl, Nat.le_of_ble_eq_true rfl⟩ rfl (Nat.le_of_ble_eq_true rfl) (fun σ3 p3 => ?_))))
    refine ok_aload_n 18 rfl rfl rfl (ok_getR 19 rfl rfl fl_X11_18 rfl rfl (ok_iload 20 rfl rfl rfl (ok_callVV (M' := M_Tp_putNumber) (as := [_]) 21 rfl rfl ml_X11_78 (s_Tp_putNumber (L := L + 12) (by have := p3.2.1; omega) ⟨by omega, by omega⟩) rfl rfl (Nat.le_of_ble_eq_true rfl) ⟨Nat.le_of_ble_eq_true rfl, Nat.le_of_ble_eq_true rfl⟩ rfl (Nat.le_of_ble_eq_true rfl) (fun σ4 p4 => ?_))))
    refine ok_aload_n 22 rfl rfl rfl (ok_getR 23 rfl rfl fl_X11_18 rfl rfl (ok_iload 24 rfl rfl rfl (ok_callVV (M' := M_Tp_putNumber) (as := [_]) 25 rfl rfl ml_X11_78 (s_Tp_putNumber (L := L + 16) (by have := p4.2.1; omega) ⟨by omega, by omega⟩) rfl rfl (Nat.le_of_ble_eq_true rfl) ⟨Nat.le_of_ble_eq_true rfl, Nat.le_of_ble_eq_true rfl⟩ rfl (Nat.le_of_ble_eq_true rfl) (fun σ5 p5 => ?_))))
    refine ok_aload_n 26 rfl rfl rfl (ok_getR 27 rfl rfl fl_X11_18 rfl rfl (ok_getI 28 rfl rfl fl_X11_82 rfl rfl (Or.inl rfl) (ok_iret 29 rfl rfl rfl ?_)))
    have e5 : σ5 10 3 = L + 20 := by have := p5.2.1; omega
    obtain ⟨f1, g1, -⟩ := pA_fr p1
    obtain ⟨f2, g2, -⟩ := pA_fr p2
    obtain ⟨f3, g3, -⟩ := pA_fr p3
    obtain ⟨f4, g4, -⟩ := pA_fr p4
    obtain ⟨f5, g5, -⟩ := pA_fr p5
    refine ⟨_, rfl, Or.inl ⟨by omega, ⟨(((f1.tr f2).tr f3).tr f4).tr f5, e5, fun k q => ?_, fun q q1 q2 => ⟨?_, ?_, ?_, ?_, ?_⟩⟩, e5⟩⟩
    · rw [g5 k (by omega), g4 k (by omega), g3 k (by omega), g2 k (by omega), g1 k (by omega)]
    · rw [g5 _ (by omega), g4 _ (by omega), g3 _ (by omega), g2 _ (by omega)]; exact p1.2.2 q q1 q2
    · rw [g5 _ (by omega), g4 _ (by omega), g3 _ (by omega)]; exact p2.2.2 q q1 q2
    · rw [g5 _ (by omega), g4 _ (by omega)]; exact p3.2.2 q q1 q2
    · rw [g5 _ (by omega)]; exact p4.2.2 q q1 q2
    · exact p5.2.2 q q1 q2
  · refine ok_iconst 4 rfl rfl (by decide) (ok_iret 5 rfl rfl rfl ?_)
    exact ⟨_, rfl, Or.inr ⟨by omega, rfl, rfl⟩⟩
