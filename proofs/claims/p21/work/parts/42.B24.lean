theorem iK.two {σ : eS} (h : iK σ) (q : σ 0 30 = 2) : 1 ≤ σ 0 27 ∧ 1 ≤ σ 0 31 ∧ σ 0 31 ≤ 4 ∧ σ 0 28 = 2 * σ 0 31 := h.2.2.2.2.2.2.2.2 q
theorem s_Mo_isJob {σ : eS} {j : Int} (h : iK σ) : MtI shB M_Mo_isJob [vr 0, vi j] σ (fun σ' z => σ' = σ ∧ ((z = 1 ∧ σ 0 30 = 2 ∧ 0 ≤ j ∧ j < σ 0 31) ∨ (z = 0 ∧ ¬ (σ 0 30 = 2 ∧ 0 ≤ j ∧ j < σ 0 31)))) := by
  refine Mt.of okM_Mo_isJob (Nat.le_of_ble_eq_true rfl) (fun hk hg => ?_)
  refine ok_aload_n 0 rfl rfl rfl (ok_getI 1 rfl rfl fl_X12_282 rfl rfl (Or.inl rfl) (ok_iconst 2 rfl rfl (by decide) (ok_icmp_ne 3 28 rfl rfl rfl (fun h5 => ?_) (fun h5 => ?_))))
  · refine ok_iconst 16 rfl rfl (by decide) (ok_zret 17 rfl rfl rfl (by first | omega | (simp [up_if]; omega) | (simp [up_if] at *; omega)) ?_)
    exact ⟨_, rfl, rfl, by omega⟩
  · have t := h.two (by omega)
    refine ok_iload_n 4 rfl rfl rfl (ok_i2l 5 rfl rfl (ok_lconst (w := 0) 6 rfl rfl rfl (by decide) (ok_aload_n 7 rfl rfl rfl (ok_getI 8 rfl rfl fl_X12_363 rfl rfl (Or.inl rfl) (ok_iconst 9 rfl rfl (by decide) (ok_isub 10 rfl rfl (by first | omega | (simp [up_if]; omega) | (simp [up_if] at *; omega)) (ok_i2l 11 rfl rfl (ok_callSI (M' := M_Mo_isIn) (as := [_, _, _]) 12 rfl rfl ml_X12_99 (s_Mo_isIn_r) ⟨Nat.le_of_ble_eq_true rfl, Nat.le_of_ble_eq_true rfl⟩ rfl (Nat.le_of_ble_eq_true rfl) (fun σ' z hz => ?_)))))))))
    obtain ⟨hs_, hz⟩ := hz
    rw [hs_]; clear hs_ σ'
    refine ok_if_eq 13 28 rfl rfl rfl (fun h21 => ?_) (fun h21 => ?_)
    · refine ok_iconst 16 rfl rfl (by decide) (ok_zret 17 rfl rfl rfl (by first | omega | (simp [up_if]; omega) | (simp [up_if] at *; omega)) ?_)
      exact ⟨_, rfl, rfl, by omega⟩
    · refine ok_iconst 14 rfl rfl (by decide) (ok_goto 15 29 rfl rfl rfl (ok_zret 17 rfl rfl rfl (by first | omega | (simp [up_if]; omega) | (simp [up_if] at *; omega)) ?_))
      exact ⟨_, rfl, rfl, by omega⟩
theorem s_Mo_job {σ : eS} {j w : Int} (h : iK σ) : MtI shB M_Mo_job [vr 0, vi j, vi w] σ (fun σ' _ => σ' = σ) := by
  refine Mt.of okM_Mo_job (Nat.le_of_ble_eq_true rfl) (fun hk hg => ?_)
  obtain ⟨k1, k2, k3, k4, k5, k6, -⟩ := id h
  refine ok_aload_n 0 rfl rfl rfl (ok_iload_n 1 rfl rfl rfl (ok_callVI (M' := M_Mo_isJob) (as := [_]) 2 rfl rfl ml_X12_366 (s_Mo_isJob h) rfl rfl (Nat.le_of_ble_eq_true rfl) ⟨Nat.le_of_ble_eq_true rfl, Nat.le_of_ble_eq_true rfl⟩ rfl (Nat.le_of_ble_eq_true rfl) (fun σ' z1 a1 => ?_)))
  obtain ⟨hs_, a1⟩ := a1
  rw [hs_]; clear hs_ σ'
  refine ok_if_eq 3 20 rfl rfl rfl (fun h5 => ?_) (fun h5 => ?_)
  · refine ok_iconst 10 rfl rfl (by decide) (ok_iret 11 rfl rfl rfl ?_)
    exact ⟨_, rfl, rfl⟩
  · refine ok_iload_n 4 rfl rfl rfl (ok_i2l 5 rfl rfl (ok_lconst (w := 0) 6 rfl rfl rfl (by decide) (ok_ldc2 7 (2) rfl rfl kc_X12_306 (by decide) (ok_callSI (M' := M_Mo_isIn) (as := [_, _, _]) 8 rfl rfl ml_X12_99 (s_Mo_isIn_r) ⟨Nat.le_of_ble_eq_true rfl, Nat.le_of_ble_eq_true rfl⟩ rfl (Nat.le_of_ble_eq_true rfl) (fun σ' z2 a2 => ?_)))))
    obtain ⟨hs_, a2⟩ := a2
    rw [hs_]; clear hs_ σ'
    refine ok_if_ne 9 22 rfl rfl rfl (fun h17 => ?_) (fun h17 => ?_)
    · refine ok_iconst 12 rfl rfl (by decide) (ok_ist3 13 rfl rfl rfl (ok_iconst 14 rfl rfl (by decide) (ok_ist4 15 rfl rfl rfl (ok_iconst 16 rfl rfl (by decide) (ok_ist5 17 rfl rfl rfl (ok_iconst 18 rfl rfl (by decide) (ok_ist6 19 rfl rfl rfl (ok_iconst 20 rfl rfl (by decide) (ok_ist7 21 rfl rfl rfl (ok_iconst 22 rfl rfl (by decide) (ok_ist8 23 rfl rfl rfl ?_)))))))))))
      have r1 := yes1 a1 h5
      have r3 := h.two r1.1
      refine lpO3 (fun (x p : Int) (y : Int × Int × Int × Int) => [some (vr 0), some (vi j), some (vi w), some (vi x), some (vi y.1), some (vi y.2.1), some (vi y.2.2.1), some (vi y.2.2.2), some (vi p), none]) (fun _ _ _ => σ) (fun x p y => 0 ≤ p ∧ p ≤ σ 0 27 ∧ x = sm (fun q => σ 12 q) p.toNat ∧ 0 ≤ y.2.1 ∧ y.2.1 ≤ p ∧ 0 ≤ y.2.2.1 ∧ y.2.2.1 ≤ p) (fun _ p _ => (64 - p).toNat) ?_ 0 0 (0, 0, 0, -1) ⟨by omega, by omega, rfl, by decide, by decide, by decide, by decide⟩
      rintro x p ⟨y1, y2, y3, y4⟩ ⟨p1, p2, xe, c1, c2, c3, c4⟩ ih
      dsimp only at c1 c2 c3 c4 ⊢
      obtain ⟨w3, w4⟩ := wt_sum h p1 p2
      refine ok_iload 24 rfl rfl rfl (ok_aload_n 25 rfl rfl rfl (ok_getI 26 rfl rfl fl_X12_273 rfl rfl (Or.inl rfl) (ok_icmp_ge 27 126 rfl rfl rfl (fun h45 => ?_) (fun h45 => ?_))))
      · refine ok_iload_n 69 rfl rfl rfl (ok_if_ne 70 135 rfl rfl rfl (fun h127 => ?_) (fun h127 => ?_))
        · refine ok_iload_n 73 rfl rfl rfl (ok_iconst 74 rfl rfl (by decide) (ok_icmp_ne 75 145 rfl rfl rfl (fun h137 => ?_) (fun h137 => ?_)))
          · refine ok_iload 78 rfl rfl rfl (ok_iret 79 rfl rfl rfl ?_)
            exact ⟨_, rfl, rfl⟩
          · refine ok_iload 76 rfl rfl rfl (ok_goto 77 147 rfl rfl rfl (ok_iret 79 rfl rfl rfl ?_))
            exact ⟨_, rfl, rfl⟩
        · refine ok_iload 71 rfl rfl rfl (ok_goto 72 147 rfl rfl rfl (ok_iret 79 rfl rfl rfl ?_))
          exact ⟨_, rfl, rfl⟩
      · obtain ⟨w1, w2⟩ := wt_le h p1 (by omega)
        have e := sm_s (fun q => σ 12 q) p1
        have w5 := (wt_sum h (k := p + 1) (by omega) (by omega)).2
        refine ok_iload_n 28 rfl rfl rfl (ok_aload_n 29 rfl rfl rfl (ok_getR 30 rfl rfl fl_X12_48 rfl rfl (ok_iload 31 rfl rfl rfl (ok_iald 32 rfl rfl rfl (by first | omega | (simp [up_if]; omega) | (simp [up_if] at *; omega)) (ok_iadd 33 rfl rfl (by first | omega | (simp [up_if]; omega) | (simp [up_if] at *; omega)) (ok_ist3 34 rfl rfl rfl (ok_aload_n 35 rfl rfl rfl (ok_getR 36 rfl rfl fl_X12_51 rfl rfl (ok_bipush 37 rfl rfl (by decide) (by decide) (ok_iload 38 rfl rfl rfl (ok_imul 39 rfl rfl (by first | omega | (simp [up_if]; omega) | (simp [up_if] at *; omega)) (ok_iload_n 40 rfl rfl rfl (ok_iadd 41 rfl rfl (by first | omega | (simp [up_if]; omega) | (simp [up_if] at *; omega)) (ok_iald 42 rfl rfl rfl (by first | omega | (simp [up_if]; omega) | (simp [up_if] at *; omega)) (ok_ist9 43 rfl rfl rfl (ok_iload 44 rfl rfl rfl (ok_aload_n 45 rfl rfl rfl (ok_getI 46 rfl rfl fl_X12_363 rfl rfl (Or.inl rfl) (ok_icmp_lt 47 84 rfl rfl rfl (fun h78 => ?_) (fun h78 => ?_))))))))))))))))))))
        · refine ok_iload_n 49 rfl rfl rfl (ok_ist4 50 rfl rfl rfl (ok_inc5 51 rfl rfl rfl (by first | omega | (simp [up_if]; omega) | (simp [up_if] at *; omega)) (ok_iload 52 rfl rfl rfl (ok_iload 53 rfl rfl rfl (ok_iconst 54 rfl rfl (by decide) (ok_icmp_eq 55 109 rfl rfl rfl (fun h95 => ?_) (fun h95 => ?_)))))))
          · refine ok_iconst 61 rfl rfl (by decide) (ok_callSI (M' := M_Mo_one) (as := [_]) 62 rfl rfl ml_X12_192 (s_Mo_one) ⟨Nat.le_of_ble_eq_true rfl, Nat.le_of_ble_eq_true rfl⟩ rfl (Nat.le_of_ble_eq_true rfl) (fun σ' z hz => ?_))
            obtain ⟨hs_, hz⟩ := hz
            rw [hs_]; clear hs_ σ'
            have q1 : 0 ≤ z ∧ z ≤ 1 := by rw [hz]; split <;> omega
            refine ok_iadd 63 rfl rfl (by first | omega | (simp [up_if]; omega) | (simp [up_if] at *; omega)) (ok_ist6 64 rfl rfl rfl (ok_iload 65 rfl rfl rfl (ok_ist7 66 rfl rfl rfl (ok_inc8 67 rfl rfl rfl (by first | omega | (simp [up_if]; omega) | (simp [up_if] at *; omega)) (ok_goto 68 39 rfl rfl rfl ?_)))))
            exact ok_fg [some (vr 0), some (vi j), some (vi w), some (vi _), some (vi _), some (vi _), some (vi _), some (vi _), some (vi _), none] ⟨rfl, rfl, rfl, rfl, rfl, rfl, rfl, rfl, rfl, trivial⟩ (ih _ (p + 1) (_, _, _, _) ⟨by omega, by omega, by omega, by dsimp only; omega, by dsimp only; omega, by dsimp only; omega, by dsimp only; omega⟩ (by omega))
          · refine ok_iload 56 rfl rfl rfl (ok_iload 57 rfl rfl rfl (ok_icmp_eq 58 109 rfl rfl rfl (fun h102 => ?_) (fun h102 => ?_)))
            · refine ok_iconst 61 rfl rfl (by decide) (ok_callSI (M' := M_Mo_one) (as := [_]) 62 rfl rfl ml_X12_192 (s_Mo_one) ⟨Nat.le_of_ble_eq_true rfl, Nat.le_of_ble_eq_true rfl⟩ rfl (Nat.le_of_ble_eq_true rfl) (fun σ' z hz => ?_))
              obtain ⟨hs_, hz⟩ := hz
              rw [hs_]; clear hs_ σ'
              have q1 : 0 ≤ z ∧ z ≤ 1 := by rw [hz]; split <;> omega
              refine ok_iadd 63 rfl rfl (by first | omega | (simp [up_if]; omega) | (simp [up_if] at *; omega)) (ok_ist6 64 rfl rfl rfl (ok_iload 65 rfl rfl rfl (ok_ist7 66 rfl rfl rfl (ok_inc8 67 rfl rfl rfl (by first | omega | (simp [up_if]; omega) | (simp [up_if] at *; omega)) (ok_goto 68 39 rfl rfl rfl ?_)))))
              exact ok_fg [some (vr 0), some (vi j), some (vi w), some (vi _), some (vi _), some (vi _), some (vi _), some (vi _), some (vi _), none] ⟨rfl, rfl, rfl, rfl, rfl, rfl, rfl, rfl, rfl, trivial⟩ (ih _ (p + 1) (_, _, _, _) ⟨by omega, by omega, by omega, by dsimp only; omega, by dsimp only; omega, by dsimp only; omega, by dsimp only; omega⟩ (by omega))
            · refine ok_iconst 59 rfl rfl (by decide) (ok_goto 60 110 rfl rfl rfl (ok_callSI (M' := M_Mo_one) (as := [_]) 62 rfl rfl ml_X12_192 (s_Mo_one) ⟨Nat.le_of_ble_eq_true rfl, Nat.le_of_ble_eq_true rfl⟩ rfl (Nat.le_of_ble_eq_true rfl) (fun σ' z hz => ?_)))
              obtain ⟨hs_, hz⟩ := hz
              rw [hs_]; clear hs_ σ'
              have q1 : 0 ≤ z ∧ z ≤ 1 := by rw [hz]; split <;> omega
              refine ok_iadd 63 rfl rfl (by first | omega | (simp [up_if]; omega) | (simp [up_if] at *; omega)) (ok_ist6 64 rfl rfl rfl (ok_iload 65 rfl rfl rfl (ok_ist7 66 rfl rfl rfl (ok_inc8 67 rfl rfl rfl (by first | omega | (simp [up_if]; omega) | (simp [up_if] at *; omega)) (ok_goto 68 39 rfl rfl rfl ?_)))))
              exact ok_fg [some (vr 0), some (vi j), some (vi w), some (vi _), some (vi _), some (vi _), some (vi _), some (vi _), some (vi _), none] ⟨rfl, rfl, rfl, rfl, rfl, rfl, rfl, rfl, rfl, trivial⟩ (ih _ (p + 1) (_, _, _, _) ⟨by omega, by omega, by omega, by dsimp only; omega, by dsimp only; omega, by dsimp only; omega, by dsimp only; omega⟩ (by omega))
        · refine ok_goto 48 120 rfl rfl rfl (ok_inc8 67 rfl rfl rfl (by first | omega | (simp [up_if]; omega) | (simp [up_if] at *; omega)) (ok_goto 68 39 rfl rfl rfl ?_))
          exact ok_fg [some (vr 0), some (vi j), some (vi w), some (vi _), some (vi _), some (vi _), some (vi _), some (vi _), some (vi _), none] ⟨rfl, rfl, rfl, rfl, rfl, rfl, rfl, rfl, rfl, trivial⟩ (ih _ (p + 1) (_, _, _, _) ⟨by omega, by omega, by omega, by dsimp only; omega, by dsimp only; omega, by dsimp only; omega, by dsimp only; omega⟩ (by omega))
    · refine ok_iconst 10 rfl rfl (by decide) (ok_iret 11 rfl rfl rfl ?_)
      exact ⟨_, rfl, rfl⟩
theorem s_Mo_isLeast {σ : eS} {w : Int} : MtI shB M_Mo_isLeast [vi w] σ (fun σ' z => σ' = σ ∧ ((z = 1 ∧ 0 ≤ w ∧ w ≤ 99999999) ∨ (z = 0 ∧ ¬ (0 ≤ w ∧ w ≤ 99999999)))) := by
  refine Mt.of okM_Mo_isLeast (Nat.le_of_ble_eq_true rfl) (fun hk hg => ?_)
  refine ok_iload_n 0 rfl rfl rfl (ok_i2l 1 rfl rfl (ok_lconst (w := 0) 2 rfl rfl rfl (by decide) (ok_ldc2 3 (99999999) rfl rfl kc_X12_95 (by decide) (ok_callSI (M' := M_Mo_isIn) (as := [_, _, _]) 4 rfl rfl ml_X12_99 (s_Mo_isIn_r) ⟨Nat.le_of_ble_eq_true rfl, Nat.le_of_ble_eq_true rfl⟩ rfl (Nat.le_of_ble_eq_true rfl) (fun σ' z hz => ?_)))))
  obtain ⟨hs_, hz⟩ := hz
  rw [hs_]; clear hs_ σ'
  refine ok_zret 5 rfl rfl rfl (by omega) ?_
  exact ⟨_, rfl, rfl, hz⟩
