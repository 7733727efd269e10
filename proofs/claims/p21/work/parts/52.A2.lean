def tA (t : Nat) : Prop := t = 2 ∨ t = 3 ∨ t = 4 ∨ t = 5
theorem sT {t : Nat} (h : tA t) : nth shA t = some (0, 7, [t + 4 + 3, 0, 0, 0, 2, 1, 2, 0, 0]) := by rcases h with q | q | q | q <;> subst q <;> rfl
theorem sC {t : Nat} (h : tA t) : nth shA (t + 4) = some (1, 64, []) := by rcases h with q | q | q | q <;> subst q <;> rfl
def cT (σ : eS) (t : Nat) (i j : Int) : Int := σ (t + 4) (i * 8 + j)
def iT (σ : eS) (t : Nat) : Prop := 0 ≤ σ t 1 ∧ σ t 1 ≤ 8 ∧ (0 < σ t 1 → 1 ≤ σ t 2 ∧ σ t 2 ≤ 999999) ∧ ∀ k : Int, 0 ≤ k → k < 64 → 0 ≤ σ (t + 4) k ∧ σ (t + 4) k ≤ 99999999
def rowT (σ : eS) (t : Nat) (i : Int) : Int := sm (fun j => cT σ t i j) (σ t 1).toNat
def colT (σ : eS) (t : Nat) (j : Int) : Int := sm (fun i => cT σ t i j) (σ t 1).toNat
theorem cT_bd {σ : eS} {t : Nat} {i j : Int} (hT : iT σ t) (hi : 0 ≤ i ∧ i < 8) (hj : 0 ≤ j ∧ j < 8) : 0 ≤ cT σ t i j ∧ cT σ t i j ≤ 99999999 := hT.2.2.2 _ (by omega) (by omega)
theorem s_Ta_has {σ : eS} {t : Nat} {i : Int} (ht : tA t) : MtI shA M_Ta_has [vr t, vi i] σ (fun σ' z => σ' = σ ∧ ((z = 1 ∧ 0 ≤ i ∧ i < σ t 1) ∨ (z = 0 ∧ ¬ (0 ≤ i ∧ i < σ t 1)))) := by
  refine Mt.of okM_Ta_has (Nat.le_of_ble_eq_true rfl) (fun hk hg => ?_)
  refine ok_iload_n 0 rfl rfl rfl (ok_if_lt 1 16 rfl rfl rfl (fun h1 => ?_) (fun h1 => ?_))
  · refine ok_iconst 8 rfl rfl (by decide) (ok_zret 9 rfl rfl rfl (by first | omega | (simp [up_if]; omega) | (simp [up_if] at *; omega)) ?_)
    exact ⟨_, rfl, rfl, by omega⟩
  · refine ok_iload_n 2 rfl rfl rfl (ok_aload_n 3 rfl rfl rfl (ok_getI 4 rfl rfl fl_X9_15 (sT ht) rfl (Or.inl rfl) (ok_icmp_ge 5 16 rfl rfl rfl (fun h9 => ?_) (fun h9 => ?_))))
    · refine ok_iconst 8 rfl rfl (by decide) (ok_zret 9 rfl rfl rfl (by first | omega | (simp [up_if]; omega) | (simp [up_if] at *; omega)) ?_)
      exact ⟨_, rfl, rfl, by omega⟩
    · refine ok_iconst 6 rfl rfl (by decide) (ok_goto 7 17 rfl rfl rfl (ok_zret 9 rfl rfl rfl (by first | omega | (simp [up_if]; omega) | (simp [up_if] at *; omega)) ?_))
      exact ⟨_, rfl, rfl, by omega⟩
theorem s_Ta_sumOfRow {σ : eS} {t : Nat} {i : Int} (ht : tA t) (hT : iT σ t) (hi : 0 ≤ i ∧ i < 8) : MtI shA M_Ta_sumOfRow [vr t, vi i] σ (fun σ' z => σ' = σ ∧ z = rowT σ t i) := by
  refine Mt.of okM_Ta_sumOfRow (Nat.le_of_ble_eq_true rfl) (fun hk hg => ?_)
  have hn := hT.1
  have hn2 := hT.2.1
  refine ok_iconst 0 rfl rfl (by decide) (ok_ist2 1 rfl rfl rfl (ok_iconst 2 rfl rfl (by decide) (ok_ist3 3 rfl rfl rfl ?_)))
  refine lpO2 (fun v j : Int => [some (vr t), some (vi i), some (vi v), some (vi j)]) (fun _ _ => σ) (fun v j => 0 ≤ j ∧ j ≤ σ t 1 ∧ v = sm (fun j => cT σ t i j) j.toNat) (fun _ j => (8 - j).toNat) ?_ 0 0 ⟨by omega, by omega, rfl⟩
  rintro v j ⟨j1, j2, ev⟩ ih
  have sb := sm_bd (f := fun j => cT σ t i j) (B := 99999999) (by decide) (n := j.toNat) (fun k a b => cT_bd hT hi ⟨a, by omega⟩)
  rw [← ev] at sb
  have e := sm_s (fun j => cT σ t i j) j1
  refine ok_iload_n 4 rfl rfl rfl (ok_aload_n 5 rfl rfl rfl (ok_getI 6 rfl rfl fl_X9_15 (sT ht) rfl (Or.inl rfl) (ok_icmp_ge 7 32 rfl rfl rfl (fun h9 => ?_) (fun h9 => ?_))))
  · refine ok_iload_n 21 rfl rfl rfl (ok_iret 22 rfl rfl rfl ?_)
    exact ⟨_, rfl, rfl, by rw [ev, show j = σ t 1 by omega]; rfl⟩
  · have cb := cT_bd hT hi (j := j) ⟨j1, by omega⟩
    unfold cT at cb
    refine ok_iload_n 8 rfl rfl rfl (ok_aload_n 9 rfl rfl rfl (ok_getR 10 rfl rfl fl_X9_9 (sT ht) rfl (ok_iload_n 11 rfl rfl rfl (ok_bipush 12 rfl rfl (by decide) (by decide) (ok_imul 13 rfl rfl (by first | omega | (simp [up_if]; omega) | (simp [up_if] at *; omega)) (ok_iload_n 14 rfl rfl rfl (ok_iadd 15 rfl rfl (by first | omega | (simp [up_if]; omega) | (simp [up_if] at *; omega)) (ok_iald 16 rfl rfl (sC ht) (by first | omega | (simp [up_if]; omega) | (simp [up_if] at *; omega)) (ok_iadd 17 rfl rfl (by first | omega | (simp [up_if]; omega) | (simp [up_if] at *; omega)) (ok_ist2 18 rfl rfl rfl (ok_inc3 19 rfl rfl rfl (by first | omega | (simp [up_if]; omega) | (simp [up_if] at *; omega)) (ok_goto 20 4 rfl rfl rfl ?_))))))))))))
    exact ih _ (j + 1) ⟨by omega, by omega, by rw [e, ev]; rfl⟩ (by omega)
theorem s_Ta_sumOfColumn {σ : eS} {t : Nat} {i : Int} (ht : tA t) (hT : iT σ t) (hi : 0 ≤ i ∧ i < 8) : MtI shA M_Ta_sumOfColumn [vr t, vi i] σ (fun σ' z => σ' = σ ∧ z = colT σ t i) := by
  refine Mt.of okM_Ta_sumOfColumn (Nat.le_of_ble_eq_true rfl) (fun hk hg => ?_)
  have hn := hT.1
  have hn2 := hT.2.1
  refine ok_iconst 0 rfl rfl (by decide) (ok_ist2 1 rfl rfl rfl (ok_iconst 2 rfl rfl (by decide) (ok_ist3 3 rfl rfl rfl ?_)))
  refine lpO2 (fun v j : Int => [some (vr t), some (vi i), some (vi v), some (vi j)]) (fun _ _ => σ) (fun v j => 0 ≤ j ∧ j ≤ σ t 1 ∧ v = sm (fun j => cT σ t j i) j.toNat) (fun _ j => (8 - j).toNat) ?_ 0 0 ⟨by omega, by omega, rfl⟩
  rintro v j ⟨j1, j2, ev⟩ ih
  have sb := sm_bd (f := fun j => cT σ t j i) (B := 99999999) (by decide) (n := j.toNat) (fun k a b => cT_bd hT ⟨a, by omega⟩ hi)
  rw [← ev] at sb
  have e := sm_s (fun j => cT σ t j i) j1
  refine ok_iload_n 4 rfl rfl rfl (ok_aload_n 5 rfl rfl rfl (ok_getI 6 rfl rfl fl_X9_15 (sT ht) rfl (Or.inl rfl) (ok_icmp_ge 7 32 rfl rfl rfl (fun h9 => ?_) (fun h9 => ?_))))
  · refine ok_iload_n 21 rfl rfl rfl (ok_iret 22 rfl rfl rfl ?_)
    exact ⟨_, rfl, rfl, by rw [ev, show j = σ t 1 by omega]; rfl⟩
  · have cb := cT_bd hT (i := j) ⟨j1, by omega⟩ hi
    unfold cT at cb
    refine ok_iload_n 8 rfl rfl rfl (ok_aload_n 9 rfl rfl rfl (ok_getR 10 rfl rfl fl_X9_9 (sT ht) rfl (ok_iload_n 11 rfl rfl rfl (ok_bipush 12 rfl rfl (by decide) (by decide) (ok_imul 13 rfl rfl (by first | omega | (simp [up_if]; omega) | (simp [up_if] at *; omega)) (ok_iload_n 14 rfl rfl rfl (ok_iadd 15 rfl rfl (by first | omega | (simp [up_if]; omega) | (simp [up_if] at *; omega)) (ok_iald 16 rfl rfl (sC ht) (by first | omega | (simp [up_if]; omega) | (simp [up_if] at *; omega)) (ok_iadd 17 rfl rfl (by first | omega | (simp [up_if]; omega) | (simp [up_if] at *; omega)) (ok_ist2 18 rfl rfl rfl (ok_inc3 19 rfl rfl rfl (by first | omega | (simp [up_if]; omega) | (simp [up_if] at *; omega)) (ok_goto 20 4 rfl rfl rfl ?_))))))))))))
    exact ih _ (j + 1) ⟨by omega, by omega, by rw [e, ev]; rfl⟩ (by omega)
