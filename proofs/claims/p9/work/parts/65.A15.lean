def uRA (σ : eS) : Prop := 0 ≤ σ 10 7 ∧ σ 10 7 ≤ 8 ∧ ∀ i j, 0 ≤ i → i < σ 10 7 → 0 ≤ j → j < σ 10 7 → uA σ (i * 8 + j)
theorem s_Tp_commonBelow {σ : eS} (h : uRA σ) : MtI shA M_Tp_commonBelow [vr 10] σ (fun σ' z => σ' = σ ∧ (z = -1 ∨ (1 ≤ z ∧ z ≤ 999999))) := by
  refine Mt.of okM_Tp_commonBelow (Nat.le_of_ble_eq_true rfl) (fun hk hg => ?_)
  obtain ⟨h1, h2, hu⟩ := h
  refine ok_lconst (w := 1) 0 rfl rfl rfl (by decide) (ok_lst1 1 rfl rfl rfl (ok_iconst 2 rfl rfl (by decide) (ok_ist3 3 rfl rfl rfl ?_)))
  refine lpO2 (fun (v i : Int) => [some (vr 10), some (vl v), none, some (vi i), none]) (fun _ _ => σ) (fun v i => 0 ≤ i ∧ i ≤ σ 10 7 ∧ (v = -1 ∨ (1 ≤ v ∧ v ≤ 999999))) (fun _ i => (8 - i).toNat) ?_ 1 0 ⟨by omega, by omega, by omega⟩
  rintro v i ⟨i1, i2, hv⟩ ih
  refine ok_iload_n 4 rfl rfl rfl (ok_aload_n 5 rfl rfl rfl (ok_getI 6 rfl rfl fl_X10_34 rfl rfl (Or.inl rfl) (ok_icmp_ge 7 57 rfl rfl rfl (fun h9 => ?_) (fun h9 => ?_))))
  · refine ok_lload_n 31 rfl rfl rfl (ok_l2i 32 rfl rfl (by first | omega | (simp [up_if]; omega) | (simp [up_if] at *; omega)) (ok_iret 33 rfl rfl rfl ?_))
    exact ⟨_, rfl, rfl, hv⟩
  · refine ok_iconst 8 rfl rfl (by decide) (ok_ist4 9 rfl rfl rfl ?_)
    refine lpO2 (fun (v j : Int) => [some (vr 10), some (vl v), none, some (vi i), some (vi j)]) (fun _ _ => σ) (fun v j => 0 ≤ j ∧ j ≤ σ 10 7 ∧ (v = -1 ∨ (1 ≤ v ∧ v ≤ 999999))) (fun _ j => (8 - j).toNat) ?_ v 0 ⟨by omega, by omega, hv⟩
    clear hv v
    rintro v j ⟨j1, j2, hv⟩ ih2
    refine ok_iload 10 rfl rfl rfl (ok_aload_n 11 rfl rfl rfl (ok_getI 12 rfl rfl fl_X10_34 rfl rfl (Or.inl rfl) (ok_icmp_ge 13 51 rfl rfl rfl (fun h21 => ?_) (fun h21 => ?_))))
    · refine ok_inc3 29 rfl rfl rfl (by first | omega | (simp [up_if]; omega) | (simp [up_if] at *; omega)) (ok_goto 30 4 rfl rfl rfl ?_)
      exact ok_fg [some (vr 10), some (vl v), none, some (vi (i + 1)), none] ⟨rfl, rfl, rfl, trivial⟩ (ih v (i + 1) ⟨by omega, by omega, hv⟩ (by omega))
    · have hk := hu i j i1 (by omega) j1 (by omega)
      obtain ⟨u1, u2, -⟩ := hk
      refine ok_lload_n 14 rfl rfl rfl (ok_aload_n 15 rfl rfl rfl (ok_getR 16 rfl rfl fl_X10_18 rfl rfl (ok_iload_n 17 rfl rfl rfl (ok_bipush 18 rfl rfl (by decide) (by decide) (ok_imul 19 rfl rfl (by first | omega | (simp [up_if]; omega) | (simp [up_if] at *; omega)) (ok_iload 20 rfl rfl rfl (ok_iadd 21 rfl rfl (by first | omega | (simp [up_if]; omega) | (simp [up_if] at *; omega)) (ok_iald 22 rfl rfl rfl (by first | omega | (simp [up_if]; omega) | (simp [up_if] at *; omega)) (ok_i2l 23 rfl rfl (ok_ldc2 24 (999999) rfl rfl kc_X10_113 (by decide) (ok_callSL (M' := M_Nu_leastMultiple) (as := [_, _, _]) 25 rfl rfl ml_X10_115 (s_Nu_leastMultiple (by omega) (by omega) ⟨by omega, by omega⟩) ⟨Nat.le_of_ble_eq_true rfl, Nat.le_of_ble_eq_true rfl⟩ rfl (Nat.le_of_ble_eq_true rfl) (fun σ' z hz => ?_))))))))))))
      obtain ⟨hs_, hz⟩ := hz
      rw [hs_]; clear hs_ σ'
      refine ok_lst1 26 rfl rfl rfl (ok_inc4 27 rfl rfl rfl (by first | omega | (simp [up_if]; omega) | (simp [up_if] at *; omega)) (ok_goto 28 15 rfl rfl rfl ?_))
      exact ih2 _ (j + 1) ⟨by omega, by omega, hz⟩ (by omega)
theorem s_Tp_areCells {σ : eS} {b : Int} (h : uRA σ) (hb : 1 ≤ b ∧ b ≤ 999999) : MtI shA M_Tp_areCells [vr 10, vi b] σ (fun σ' z => σ' = σ ∧ ((z = 0) ∨ (z = 1 ∧ ∀ i j, 0 ≤ i → i < σ 10 7 → 0 ≤ j → j < σ 10 7 → σ 12 (i * 8 + j) * (b / σ 13 (i * 8 + j)) ≤ 99999999))) := by
  refine Mt.of okM_Tp_areCells (Nat.le_of_ble_eq_true rfl) (fun hk hg => ?_)
  obtain ⟨h1, h2, hu⟩ := h
  refine ok_iconst 0 rfl rfl (by decide) (ok_ist2 1 rfl rfl rfl ?_)
  refine lpO (fun (i : Int) => [some (vr 10), some (vi b), some (vi i), none, none]) (fun _ => σ) (fun i => 0 ≤ i ∧ i ≤ σ 10 7 ∧ ∀ i', 0 ≤ i' → i' < i → ∀ j, 0 ≤ j → j < σ 10 7 → σ 12 (i' * 8 + j) * (b / σ 13 (i' * 8 + j)) ≤ 99999999) (fun i => (8 - i).toNat) ?_ 0 ⟨by omega, by omega, fun i' a c => by omega⟩
  rintro i ⟨i1, i2, hv⟩ ih
  refine ok_iload_n 2 rfl rfl rfl (ok_aload_n 3 rfl rfl rfl (ok_getI 4 rfl rfl fl_X10_34 rfl rfl (Or.inl rfl) (ok_icmp_ge 5 68 rfl rfl rfl (fun h7 => ?_) (fun h7 => ?_))))
  · refine ok_iconst 40 rfl rfl (by decide) (ok_zret 41 rfl rfl rfl (by first | omega | (simp [up_if]; omega) | (simp [up_if] at *; omega)) ?_)
    exact ⟨_, rfl, rfl, Or.inr ⟨rfl, fun i' j a c d e => hv i' a (by omega) j d e⟩⟩
  · refine ok_iconst 6 rfl rfl (by decide) (ok_ist3 7 rfl rfl rfl ?_)
    refine lpO (fun (j : Int) => [some (vr 10), some (vi b), some (vi i), some (vi j), none]) (fun _ => σ) (fun j => 0 ≤ j ∧ j ≤ σ 10 7 ∧ ∀ j', 0 ≤ j' → j' < j → σ 12 (i * 8 + j') * (b / σ 13 (i * 8 + j')) ≤ 99999999) (fun j => (8 - j).toNat) ?_ 0 ⟨by omega, by omega, fun j' a c => by omega⟩
    rintro j ⟨j1, j2, hw⟩ ih2
    refine ok_iload_n 8 rfl rfl rfl (ok_aload_n 9 rfl rfl rfl (ok_getI 10 rfl rfl fl_X10_34 rfl rfl (Or.inl rfl) (ok_icmp_ge 11 62 rfl rfl rfl (fun h17 => ?_) (fun h17 => ?_))))
    · refine ok_inc2 38 rfl rfl rfl (by first | omega | (simp [up_if]; omega) | (simp [up_if] at *; omega)) (ok_goto 39 2 rfl rfl rfl ?_)
      exact ok_fg [some (vr 10), some (vi b), some (vi (i + 1)), none, none] ⟨rfl, rfl, rfl, trivial⟩ (ih (i + 1) ⟨by omega, by omega, lt_ext hv (fun j' a c => hw j' a (by omega))⟩ (by omega))
    · obtain ⟨u1, u2, u3, u4⟩ := hu i j i1 (by omega) j1 (by omega)
      have d := div_bd (u := b) (g := σ 13 (i * 8 + j)) (B := 999999) ⟨by omega, by omega⟩ u1
      have m := mul_bd (a := σ 12 (i * 8 + j)) (b := b / σ 13 (i * 8 + j)) (A := 999999) (B := 999999) ⟨u3, u4⟩ d
      refine ok_iload_n 12 rfl rfl rfl (ok_bipush 13 rfl rfl (by decide) (by decide) (ok_imul 14 rfl rfl (by first | omega | (simp [up_if]; omega) | (simp [up_if] at *; omega)) (ok_iload_n 15 rfl rfl rfl (ok_iadd 16 rfl rfl (by first | omega | (simp [up_if]; omega) | (simp [up_if] at *; omega)) (ok_ist4 17 rfl rfl rfl (ok_aload_n 18 rfl rfl rfl (ok_getR 19 rfl rfl fl_X10_15 rfl rfl (ok_iload 20 rfl rfl rfl (ok_iald 21 rfl rfl rfl (by first | omega | (simp [up_if]; omega) | (simp [up_if] at *; omega)) (ok_i2l 22 rfl rfl (ok_iload_n 23 rfl rfl rfl (ok_aload_n 24 rfl rfl rfl (ok_getR 25 rfl rfl fl_X10_18 rfl rfl (ok_iload 26 rfl rfl rfl (ok_iald 27 rfl rfl rfl (by first | omega | (simp [up_if]; omega) | (simp [up_if] at *; omega)) (ok_idiv 28 rfl rfl (by first | omega | (simp [up_if]; omega) | (simp [up_if] at *; omega)) (by first | omega | (simp [up_if]; omega) | (simp [up_if] at *; omega)) (ok_i2l 29 rfl rfl (ok_lmul 30 rfl rfl (by first | omega | (simp [up_if]; omega) | (simp [up_if] at *; omega)) (ok_ldc2 31 (99999999) rfl rfl kc_X10_119 (by decide) (ok_lcmp_le 32 33 56 rfl rfl rfl rfl rfl (fun h50 => ?_) (fun h50 => ?_)))))))))))))))))))))
      · refine ok_inc3 36 rfl rfl rfl (by first | omega | (simp [up_if]; omega) | (simp [up_if] at *; omega)) (ok_goto 37 12 rfl rfl rfl ?_)
        exact ok_fg [some (vr 10), some (vi b), some (vi i), some (vi (j + 1)), none] ⟨rfl, rfl, rfl, rfl, trivial⟩ (ih2 (j + 1) ⟨by omega, by omega, lt_ext hw (by omega)⟩ (by omega))
      · refine ok_iconst 34 rfl rfl (by decide) (ok_zret 35 rfl rfl rfl (by first | omega | (simp [up_if]; omega) | (simp [up_if] at *; omega)) ?_)
        exact ⟨_, rfl, rfl, Or.inl rfl⟩
