theorem rowT_bd {σ : eS} {t : Nat} {i : Int} (hT : iT σ t) (hi : 0 ≤ i ∧ i < 8) : 0 ≤ rowT σ t i ∧ rowT σ t i ≤ 799999992 := by
  have h1 := hT.1
  have h2 := hT.2.1
  have sb := sm_bd (f := fun j => cT σ t i j) (B := 99999999) (by decide) (n := (σ t 1).toNat) (fun k a b => cT_bd hT hi ⟨a, by omega⟩)
  unfold rowT
  omega
theorem colT_bd {σ : eS} {t : Nat} {i : Int} (hT : iT σ t) (hi : 0 ≤ i ∧ i < 8) : 0 ≤ colT σ t i ∧ colT σ t i ≤ 799999992 := by
  have h1 := hT.1
  have h2 := hT.2.1
  have sb := sm_bd (f := fun j => cT σ t j i) (B := 99999999) (by decide) (n := (σ t 1).toNat) (fun k a b => cT_bd hT ⟨a, by omega⟩ hi)
  unfold colT
  omega
theorem s_Ta_firstUneven {σ : eS} {t : Nat} (ht : tA t) (hT : iT σ t) : MtI shA M_Ta_firstUneven [vr t] σ (fun σ' z => σ' = σ ∧ unev (rowT σ t) (colT σ t) (σ t 1) z) := by
  refine Mt.of okM_Ta_firstUneven (Nat.le_of_ble_eq_true rfl) (fun hk hg => ?_)
  have hn := hT.1
  have hn2 := hT.2.1
  refine ok_aload_n 0 rfl rfl rfl (ok_iconst 1 rfl rfl (by decide) (ok_callVI (M' := M_Ta_sumOfRow) (as := [_]) 2 rfl rfl ml_X9_52 (s_Ta_sumOfRow ht hT ⟨by omega, by omega⟩) (sT ht) rfl (Nat.le_of_ble_eq_true rfl) ⟨Nat.le_of_ble_eq_true rfl, Nat.le_of_ble_eq_true rfl⟩ rfl (Nat.le_of_ble_eq_true rfl) (fun σ' z hz => ?_)))
  rw [hz.1, hz.2]
  clear hz z σ'
  refine ok_ist1 3 rfl rfl rfl (ok_iconst 4 rfl rfl (by decide) (ok_ist2 5 rfl rfl rfl ?_))
  refine lpO (fun i : Int => [some (vr t), some (vi (rowT σ t 0)), some (vi i)]) (fun _ => σ) (fun i => 1 ≤ i ∧ i ≤ 8 ∧ ∀ k, 1 ≤ k → k < i → rowT σ t k = rowT σ t 0) (fun i => (8 - i).toNat) ?_ 1 ⟨by omega, by omega, fun k a b => by omega⟩
  rintro i ⟨i1, i2, hr⟩ ih
  refine ok_iload_n 6 rfl rfl rfl (ok_aload_n 7 rfl rfl rfl (ok_getI 8 rfl rfl fl_X9_15 (sT ht) rfl (Or.inl rfl) (ok_icmp_ge 9 33 rfl rfl rfl (fun h13 => ?_) (fun h13 => ?_))))
  · refine ok_iconst 19 rfl rfl (by decide) (ok_ist2 20 rfl rfl rfl ?_)
    refine lpO (fun i : Int => [some (vr t), some (vi (rowT σ t 0)), some (vi i)]) (fun _ => σ) (fun j => 0 ≤ j ∧ j ≤ 8 ∧ ∀ k, 0 ≤ k → k < j → colT σ t k = rowT σ t 0) (fun i => (8 - i).toNat) ?_ 0 ⟨by omega, by omega, fun k a b => by omega⟩
    rintro j ⟨j1, j2, hc⟩ ih2
    refine ok_iload_n 21 rfl rfl rfl (ok_aload_n 22 rfl rfl rfl (ok_getI 23 rfl rfl fl_X9_15 (sT ht) rfl (Or.inl rfl) (ok_icmp_ge 24 63 rfl rfl rfl (fun h40 => ?_) (fun h40 => ?_))))
    · refine ok_iconst 36 rfl rfl (by decide) (ok_iret 37 rfl rfl rfl ?_)
      exact ⟨_, rfl, rfl, Or.inr ⟨fun k a b => hr k a (by omega), Or.inr ⟨rfl, fun k a b => hc k a (by omega)⟩⟩⟩
    · refine ok_aload_n 25 rfl rfl rfl (ok_iload_n 26 rfl rfl rfl (ok_callVI (M' := M_Ta_sumOfColumn) (as := [_]) 27 rfl rfl ml_X9_62 (s_Ta_sumOfColumn ht hT ⟨by omega, by omega⟩) (sT ht) rfl (Nat.le_of_ble_eq_true rfl) ⟨Nat.le_of_ble_eq_true rfl, Nat.le_of_ble_eq_true rfl⟩ rfl (Nat.le_of_ble_eq_true rfl) (fun σ' z hz => ?_)))
      rw [hz.1, hz.2]
      clear hz z σ'
      refine ok_iload_n 28 rfl rfl rfl (ok_icmp_eq 29 57 rfl rfl rfl (fun h49 => ?_) (fun h49 => ?_))
      · refine ok_inc2 34 rfl rfl rfl (by first | omega | (simp [up_if]; omega) | (simp [up_if] at *; omega)) (ok_goto 35 35 rfl rfl rfl ?_)
        exact ih2 (j + 1) ⟨by omega, by omega, lt_ext hc (by omega)⟩ (by omega)
      · refine ok_bipush 30 rfl rfl (by decide) (by decide) (ok_iload_n 31 rfl rfl rfl (ok_iadd 32 rfl rfl (by first | omega | (simp [up_if]; omega) | (simp [up_if] at *; omega)) (ok_iret 33 rfl rfl rfl ?_)))
        exact ⟨_, rfl, rfl, Or.inr ⟨fun k a b => hr k a (by omega), Or.inl ⟨j, j1, by omega, by omega, by omega, hc⟩⟩⟩
  · refine ok_aload_n 10 rfl rfl rfl (ok_iload_n 11 rfl rfl rfl (ok_callVI (M' := M_Ta_sumOfRow) (as := [_]) 12 rfl rfl ml_X9_52 (s_Ta_sumOfRow ht hT ⟨by omega, by omega⟩) (sT ht) rfl (Nat.le_of_ble_eq_true rfl) ⟨Nat.le_of_ble_eq_true rfl, Nat.le_of_ble_eq_true rfl⟩ rfl (Nat.le_of_ble_eq_true rfl) (fun σ' z hz => ?_)))
    rw [hz.1, hz.2]
    clear hz z σ'
    refine ok_iload_n 13 rfl rfl rfl (ok_icmp_eq 14 27 rfl rfl rfl (fun h22 => ?_) (fun h22 => ?_))
    · refine ok_inc2 17 rfl rfl rfl (by first | omega | (simp [up_if]; omega) | (simp [up_if] at *; omega)) (ok_goto 18 8 rfl rfl rfl ?_)
      exact ih (i + 1) ⟨by omega, by omega, lt_ext hr (by omega)⟩ (by omega)
    · refine ok_iload_n 15 rfl rfl rfl (ok_iret 16 rfl rfl rfl ?_)
      exact ⟨_, rfl, rfl, Or.inl ⟨i, by omega, by omega, rfl, by omega, hr⟩⟩
