section
theorem sm_mn {f : Int → Int} {m : Nat} : ∀ {n : Nat}, m ≤ n → (∀ k : Int, 0 ≤ k → k < n → 0 ≤ f k) → sm f m ≤ sm f n
  | 0, h, _ => by rw [show m = 0 by omega]; exact Int.le_refl _
  | n + 1, h, p => by
    rcases (by omega : m ≤ n ∨ m = n + 1) with q | q
    · have e := sm_s f (j := (n : Int)) (by omega)
      rw [show ((n : Int) + 1).toNat = n + 1 by omega, Int.toNat_natCast] at e
      have := sm_mn q (fun k a b => p k a (by omega))
      have := p (n : Int) (by omega) (by omega)
      omega
    · rw [q]; exact Int.le_refl _
theorem mi_bd {σ : eS} {k : Int} (h : iMi σ) (hk : 0 ≤ k) (hk2 : k < σ 22 5) : 0 ≤ σ 23 k ∧ 0 ≤ sm (fun k => σ 23 k) k.toNat ∧ sm (fun k => σ 23 k) k.toNat + σ 23 k ≤ 799999992 := by
  obtain ⟨⟨h1, h2, h3, h4, h5, h6, h7⟩, a, b, c⟩ := h
  have p := a k hk hk2
  have e := sm_s (fun k => σ 23 k) (j := k) hk
  have m := sm_mn (f := fun k => σ 23 k) (m := (k + 1).toNat) (n := (σ 22 5).toNat) (by omega) (fun k x y => a k x (by omega))
  have z := sm_mn (f := fun k => σ 23 k) (m := 0) (n := k.toNat) (by omega) (fun k x y => a k x (by omega))
  have z0 : sm (fun k => σ 23 k) 0 = 0 := rfl
  omega
theorem s_Mi_columnOf {σ : eS} {k r : Int} (h : iMi σ) (hk : 0 ≤ k ∧ k < 64) (hr : 0 ≤ r ∧ r < 8) : MtI shA M_Mi_columnOf [vr 22, vi k, vi r] σ (fun σ' z => σ' = σ ∧ z = σ 24 (k * 8 + r) ∧ 0 ≤ z ∧ z ≤ 7) := by
  refine Mt.of okM_Mi_columnOf (Nat.le_of_ble_eq_true rfl) (fun hk hg => ?_)
  have b := h.2.2.1 (k * 8 + r) (by omega) (by omega)
  refine ok_aload_n 0 rfl rfl rfl (ok_getR 1 rfl rfl fl_X3_15 rfl rfl (ok_iload_n 2 rfl rfl rfl (ok_bipush 3 rfl rfl (by decide) (by decide) (ok_imul 4 rfl rfl (by first | omega | (simp [up_if]; omega) | (simp [up_if] at *; omega)) (ok_iload_n 5 rfl rfl rfl (ok_iadd 6 rfl rfl (by first | omega | (simp [up_if]; omega) | (simp [up_if] at *; omega)) (ok_iald 7 rfl rfl rfl (by first | omega | (simp [up_if]; omega) | (simp [up_if] at *; omega)) (ok_iret 8 rfl rfl rfl ?_))))))))
  exact ⟨_, rfl, rfl, rfl, b.1, b.2⟩
theorem s_Mi_hasPart {σ : eS} {k : Int} : MtI shA M_Mi_hasPart [vr 22, vi k] σ (fun σ' z => σ' = σ ∧ ((z = 1 ∧ 0 ≤ k ∧ k < σ 22 5) ∨ (z = 0 ∧ ¬ (0 ≤ k ∧ k < σ 22 5)))) := by
  refine Mt.of okM_Mi_hasPart (Nat.le_of_ble_eq_true rfl) (fun hk hg => ?_)
  refine ok_iload_n 0 rfl rfl rfl (ok_if_lt 1 16 rfl rfl rfl (fun h1 => ?_) (fun h1 => ?_))
  · refine ok_iconst 8 rfl rfl (by decide) (ok_zret 9 rfl rfl rfl (by first | omega | (simp [up_if]; omega) | (simp [up_if] at *; omega)) ?_)
    exact ⟨_, rfl, rfl, by omega⟩
  · refine ok_iload_n 2 rfl rfl rfl (ok_aload_n 3 rfl rfl rfl (ok_getI 4 rfl rfl fl_X3_28 rfl rfl (Or.inl rfl) (ok_icmp_ge 5 16 rfl rfl rfl (fun h9 => ?_) (fun h9 => ?_))))
    · refine ok_iconst 8 rfl rfl (by decide) (ok_zret 9 rfl rfl rfl (by first | omega | (simp [up_if]; omega) | (simp [up_if] at *; omega)) ?_)
      exact ⟨_, rfl, rfl, by omega⟩
    · refine ok_iconst 6 rfl rfl (by decide) (ok_goto 7 17 rfl rfl rfl (ok_zret 9 rfl rfl rfl (by first | omega | (simp [up_if]; omega) | (simp [up_if] at *; omega)) ?_))
      exact ⟨_, rfl, rfl, by omega⟩
theorem s_Mi_hasRow {σ : eS} {k : Int} : MtI shA M_Mi_hasRow [vr 22, vi k] σ (fun σ' z => σ' = σ ∧ ((z = 1 ∧ 0 ≤ k ∧ k < σ 22 4) ∨ (z = 0 ∧ ¬ (0 ≤ k ∧ k < σ 22 4)))) := by
  refine Mt.of okM_Mi_hasRow (Nat.le_of_ble_eq_true rfl) (fun hk hg => ?_)
  refine ok_iload_n 0 rfl rfl rfl (ok_if_lt 1 16 rfl rfl rfl (fun h1 => ?_) (fun h1 => ?_))
  · refine ok_iconst 8 rfl rfl (by decide) (ok_zret 9 rfl rfl rfl (by first | omega | (simp [up_if]; omega) | (simp [up_if] at *; omega)) ?_)
    exact ⟨_, rfl, rfl, by omega⟩
  · refine ok_iload_n 2 rfl rfl rfl (ok_aload_n 3 rfl rfl rfl (ok_getI 4 rfl rfl fl_X3_25 rfl rfl (Or.inl rfl) (ok_icmp_ge 5 16 rfl rfl rfl (fun h9 => ?_) (fun h9 => ?_))))
    · refine ok_iconst 8 rfl rfl (by decide) (ok_zret 9 rfl rfl rfl (by first | omega | (simp [up_if]; omega) | (simp [up_if] at *; omega)) ?_)
      exact ⟨_, rfl, rfl, by omega⟩
    · refine ok_iconst 6 rfl rfl (by decide) (ok_goto 7 17 rfl rfl rfl (ok_zret 9 rfl rfl rfl (by first | omega | (simp [up_if]; omega) | (simp [up_if] at *; omega)) ?_))
      exact ⟨_, rfl, rfl, by omega⟩
theorem s_Mi_hasJob {σ : eS} {k : Int} : MtI shA M_Mi_hasJob [vr 22, vi k] σ (fun σ' z => σ' = σ ∧ ((z = 1 ∧ σ 22 2 = 2 ∧ 0 ≤ k ∧ k < σ 22 3) ∨ (z = 0 ∧ ¬ (σ 22 2 = 2 ∧ 0 ≤ k ∧ k < σ 22 3)))) := by
  refine Mt.of okM_Mi_hasJob (Nat.le_of_ble_eq_true rfl) (fun hk hg => ?_)
  refine ok_aload_n 0 rfl rfl rfl (ok_getI 1 rfl rfl fl_X3_18 rfl rfl (Or.inl rfl) (ok_iconst 2 rfl rfl (by decide) (ok_icmp_ne 3 24 rfl rfl rfl (fun h5 => ?_) (fun h5 => ?_))))
  · refine ok_iconst 12 rfl rfl (by decide) (ok_zret 13 rfl rfl rfl (by first | omega | (simp [up_if]; omega) | (simp [up_if] at *; omega)) ?_)
    exact ⟨_, rfl, rfl, by omega⟩
  · refine ok_iload_n 4 rfl rfl rfl (ok_if_lt 5 24 rfl rfl rfl (fun h9 => ?_) (fun h9 => ?_))
    · refine ok_iconst 12 rfl rfl (by decide) (ok_zret 13 rfl rfl rfl (by first | omega | (simp [up_if]; omega) | (simp [up_if] at *; omega)) ?_)
      exact ⟨_, rfl, rfl, by omega⟩
    · refine ok_iload_n 6 rfl rfl rfl (ok_aload_n 7 rfl rfl rfl (ok_getI 8 rfl rfl fl_X3_22 rfl rfl (Or.inl rfl) (ok_icmp_ge 9 24 rfl rfl rfl (fun h17 => ?_) (fun h17 => ?_))))
      · refine ok_iconst 12 rfl rfl (by decide) (ok_zret 13 rfl rfl rfl (by first | omega | (simp [up_if]; omega) | (simp [up_if] at *; omega)) ?_)
        exact ⟨_, rfl, rfl, by omega⟩
      · refine ok_iconst 10 rfl rfl (by decide) (ok_goto 11 25 rfl rfl rfl (ok_zret 13 rfl rfl rfl (by first | omega | (simp [up_if]; omega) | (simp [up_if] at *; omega)) ?_))
        exact ⟨_, rfl, rfl, by omega⟩
theorem s_Mi_inLeastTerms {σ : eS} {w b : Int} (h : iMi σ) (hw : 0 ≤ w ∧ w ≤ 799999992) : MtI shA M_Mi_inLeastTerms [vr 22, vi w, vi b] σ (fun σ' _ => σ' = σ ∧ True) := by
  refine Mt.of okM_Mi_inLeastTerms (Nat.le_of_ble_eq_true rfl) (fun hk hg => ?_)
  obtain ⟨⟨h1, h2, h3, h4, h5, h6, h7⟩, a, b, c⟩ := h
  refine ok_aload_n 0 rfl rfl rfl (ok_getI 1 rfl rfl fl_X3_31 rfl rfl (Or.inl rfl) (ok_i2l 2 rfl rfl (ok_iload_n 3 rfl rfl rfl (ok_i2l 4 rfl rfl (ok_callSL (M' := M_Nu_greatestDivisor) (as := [_, _]) 5 rfl rfl ml_X3_40 (s_Nu_greatestDivisor h5 ⟨hw.1, by omega⟩) ⟨Nat.le_of_ble_eq_true rfl, Nat.le_of_ble_eq_true rfl⟩ rfl (Nat.le_of_ble_eq_true rfl) (fun σ' z hz => ?_))))))
  rw [hz.1, hz.2]
  clear hz z σ'
  refine ok_l2iW 6 rfl rfl (ok_ist3 7 rfl rfl rfl (ok_iload_n 8 rfl rfl rfl (ok_iconst 9 rfl rfl (by decide) (ok_icmp_ge 10 19 rfl rfl rfl (fun h14 => ?_) (fun h14 => ?_)))))
  · refine ok_iload_n 13 rfl rfl rfl (ok_if_eq 14 29 rfl rfl rfl (fun h20 => ?_) (fun h20 => ?_))
    · refine ok_aload_n 19 rfl rfl rfl (ok_getI 20 rfl rfl fl_X3_31 rfl rfl (Or.inl rfl) (ok_iload_n 21 rfl rfl rfl (ok_idiv 22 rfl rfl (by first | omega | (simp [up_if]; omega) | (simp [up_if] at *; omega)) (by first | omega | (simp [up_if]; omega) | (simp [up_if] at *; omega)) (ok_iret 23 rfl rfl rfl ?_))))
      exact ⟨_, rfl, rfl, trivial⟩
    · refine ok_iload_n 15 rfl rfl rfl (ok_iload_n 16 rfl rfl rfl (ok_idiv 17 rfl rfl (by first | omega | (simp [up_if]; omega) | (simp [up_if] at *; omega)) (by first | omega | (simp [up_if]; omega) | (simp [up_if] at *; omega)) (ok_goto 18 35 rfl rfl rfl (ok_iret 23 rfl rfl rfl ?_))))
      exact ⟨_, rfl, rfl, trivial⟩
  · refine ok_iconst 11 rfl rfl (by decide) (ok_iret 12 rfl rfl rfl ?_)
    exact ⟨_, rfl, rfl, trivial⟩
theorem s_Mi_partAt {σ : eS} {r : Int} (h : iMi σ) : MtI shA M_Mi_partAt [vr 22, vi r] σ (fun σ' z => σ' = σ ∧ (z = -1 ∨ (0 ≤ z ∧ z < σ 22 5))) := by
  refine Mt.of okM_Mi_partAt (Nat.le_of_ble_eq_true rfl) (fun hk hg => ?_)
  obtain ⟨⟨h1, h2, h3, h4, h5, h6, h7⟩, a, b, c⟩ := id h
  refine ok_iload_n 0 rfl rfl rfl (ok_if_ge 1 6 rfl rfl rfl (fun h1 => ?_) (fun h1 => ?_))
  · refine ok_iload_n 4 rfl rfl rfl (ok_ist2 5 rfl rfl rfl (ok_iconst 6 rfl rfl (by decide) (ok_ist3 7 rfl rfl rfl ?_)))
    refine lpO2 (fun (v j : Int) => [some (vr 22), some (vi r), some (vi v), some (vi j)]) (fun _ _ => σ) (fun v j => 0 ≤ j ∧ j ≤ 64 ∧ 0 ≤ v ∧ v ≤ r) (fun _ j => (64 - j).toNat) ?_ r 0 ⟨by omega, by omega, by omega, by omega⟩
    have hr : rg r := hk.2.1
    rintro v j ⟨j1, j2, v1, v2⟩ ih
    refine ok_iload_n 8 rfl rfl rfl (ok_aload_n 9 rfl rfl rfl (ok_getI 10 rfl rfl fl_X3_28 rfl rfl (Or.inl rfl) (ok_icmp_ge 11 45 rfl rfl rfl (fun h15 => ?_) (fun h15 => ?_))))
    · refine ok_iconst 29 rfl rfl (by decide) (ok_iret 30 rfl rfl rfl ?_)
      exact ⟨_, rfl, rfl, Or.inl rfl⟩
    · have w := mi_bd h j1 (by omega)
      refine ok_iload_n 12 rfl rfl rfl (ok_aload_n 13 rfl rfl rfl (ok_getR 14 rfl rfl fl_X3_9 rfl rfl (ok_iload_n 15 rfl rfl rfl (ok_iald 16 rfl rfl rfl (by first | omega | (simp [up_if]; omega) | (simp [up_if] at *; omega)) (ok_icmp_ge 17 30 rfl rfl rfl (fun h25 => ?_) (fun h25 => ?_))))))
      · refine ok_iload_n 20 rfl rfl rfl (ok_aload_n 21 rfl rfl rfl (ok_getR 22 rfl rfl fl_X3_9 rfl rfl (ok_iload_n 23 rfl rfl rfl (ok_iald 24 rfl rfl rfl (by first | omega | (simp [up_if]; omega) | (simp [up_if] at *; omega)) (ok_isub 25 rfl rfl (by first | omega | (simp [up_if]; omega) | (simp [up_if] at *; omega)) (ok_ist2 26 rfl rfl rfl (ok_inc3 27 rfl rfl rfl (by first | omega | (simp [up_if]; omega) | (simp [up_if] at *; omega)) (ok_goto 28 10 rfl rfl rfl ?_))))))))
        exact ih _ (j + 1) ⟨by omega, by omega, by omega, by omega⟩ (by omega)
      · refine ok_iload_n 18 rfl rfl rfl (ok_iret 19 rfl rfl rfl ?_)
        exact ⟨_, rfl, rfl, Or.inr ⟨by omega, by omega⟩⟩
  · refine ok_iconst 2 rfl rfl (by decide) (ok_iret 3 rfl rfl rfl ?_)
    exact ⟨_, rfl, rfl, Or.inl rfl⟩
theorem s_Mi_weightOfBoth {σ : eS} {r c r2 c2 : Int} (h : iMi σ) (hr : 0 ≤ r ∧ r < 8) (hr2 : 0 ≤ r2 ∧ r2 < 8) : MtI shA M_Mi_weightOfBoth [vr 22, vi r, vi c, vi r2, vi c2] σ (fun σ' z => σ' = σ ∧ 0 ≤ z ∧ z ≤ 799999992) := by
  refine Mt.of okM_Mi_weightOfBoth (Nat.le_of_ble_eq_true rfl) (fun hk hg => ?_)
  obtain ⟨⟨h1, h2, h3, h4, h5, h6, h7⟩, a, b, d⟩ := id h
  refine ok_iconst 0 rfl rfl (by decide) (ok_ist5 1 rfl rfl rfl (ok_iconst 2 rfl rfl (by decide) (ok_ist6 3 rfl rfl rfl ?_)))
  refine lpO2 (fun (v j : Int) => [some (vr 22), some (vi r), some (vi c), some (vi r2), some (vi c2), some (vi v), some (vi j)]) (fun _ _ => σ) (fun v j => 0 ≤ j ∧ j ≤ 64 ∧ 0 ≤ v ∧ v ≤ 799999992 ∧ (j ≤ σ 22 5 → v ≤ sm (fun k => σ 23 k) j.toNat)) (fun _ j => (64 - j).toNat) ?_ 0 0 ⟨by omega, by omega, by omega, by omega, fun _ => Int.le_refl _⟩
  rintro v j ⟨j1, j2, v1, v2, v3⟩ ih
  refine ok_iload 4 rfl rfl rfl (ok_aload_n 5 rfl rfl rfl (ok_getI 6 rfl rfl fl_X3_28 rfl rfl (Or.inl rfl) (ok_icmp_ge 7 56 rfl rfl rfl (fun h12 => ?_) (fun h12 => ?_))))
  · refine ok_iload 29 rfl rfl rfl (ok_iret 30 rfl rfl rfl ?_)
    exact ⟨_, rfl, rfl, v1, v2⟩
  · have w := mi_bd h j1 (by omega)
    have e := sm_s (fun k => σ 23 k) (j := j) j1
    have v4 := v3 (by omega)
    clear v3
    refine ok_aload_n 8 rfl rfl rfl (ok_iload 9 rfl rfl rfl (ok_iload_n 10 rfl rfl rfl (ok_callVI (M' := M_Mi_columnOf) (as := [_, _]) 11 rfl rfl ml_X3_46 (s_Mi_columnOf h ⟨by omega, by omega⟩ hr) rfl rfl (Nat.le_of_ble_eq_true rfl) ⟨Nat.le_of_ble_eq_true rfl, Nat.le_of_ble_eq_true rfl⟩ rfl (Nat.le_of_ble_eq_true rfl) (fun σ' z1 x1 => ?_))))
    obtain ⟨hs_, x1⟩ := x1
    rw [hs_]; clear hs_ σ'
    refine ok_iload_n 12 rfl rfl rfl (ok_icmp_ne 13 50 rfl rfl rfl (fun h23 => ?_) (fun h23 => ?_))
    · refine ok_inc6 27 rfl rfl rfl (by first | omega | (simp [up_if]; omega) | (simp [up_if] at *; omega)) (ok_goto 28 6 rfl rfl rfl ?_)
      exact ih _ (j + 1) ⟨by omega, by omega, by omega, by omega, fun _ => by omega⟩ (by omega)
    · refine ok_aload_n 14 rfl rfl rfl (ok_iload 15 rfl rfl rfl (ok_iload_n 16 rfl rfl rfl (ok_callVI (M' := M_Mi_columnOf) (as := [_, _]) 17 rfl rfl ml_X3_46 (s_Mi_columnOf h ⟨by omega, by omega⟩ hr2) rfl rfl (Nat.le_of_ble_eq_true rfl) ⟨Nat.le_of_ble_eq_true rfl, Nat.le_of_ble_eq_true rfl⟩ rfl (Nat.le_of_ble_eq_true rfl) (fun σ' z2 x2 => ?_))))
      obtain ⟨hs_, x2⟩ := x2
      rw [hs_]; clear hs_ σ'
      refine ok_iload 18 rfl rfl rfl (ok_icmp_ne 19 50 rfl rfl rfl (fun h35 => ?_) (fun h35 => ?_))
      · refine ok_inc6 27 rfl rfl rfl (by first | omega | (simp [up_if]; omega) | (simp [up_if] at *; omega)) (ok_goto 28 6 rfl rfl rfl ?_)
        exact ih _ (j + 1) ⟨by omega, by omega, by omega, by omega, fun _ => by omega⟩ (by omega)
      · refine ok_iload 20 rfl rfl rfl (ok_aload_n 21 rfl rfl rfl (ok_getR 22 rfl rfl fl_X3_9 rfl rfl (ok_iload 23 rfl rfl rfl (ok_iald 24 rfl rfl rfl (by first | omega | (simp [up_if]; omega) | (simp [up_if] at *; omega)) (ok_iadd 25 rfl rfl (by first | omega | (simp [up_if]; omega) | (simp [up_if] at *; omega)) (ok_ist5 26 rfl rfl rfl (ok_inc6 27 rfl rfl rfl (by first | omega | (simp [up_if]; omega) | (simp [up_if] at *; omega)) (ok_goto 28 6 rfl rfl rfl ?_))))))))
        exact ih _ (j + 1) ⟨by omega, by omega, by omega, by omega, fun _ => by omega⟩ (by omega)
theorem s_Mi_weightOf {σ : eS} {r c : Int} (h : iMi σ) (hr : 0 ≤ r ∧ r < 8) : MtI shA M_Mi_weightOf [vr 22, vi r, vi c] σ (fun σ' z => σ' = σ ∧ 0 ≤ z ∧ z ≤ 799999992) := by
  refine Mt.of okM_Mi_weightOf (Nat.le_of_ble_eq_true rfl) (fun hk hg => ?_)
  refine ok_aload_n 0 rfl rfl rfl (ok_iload_n 1 rfl rfl rfl (ok_iload_n 2 rfl rfl rfl (ok_iload_n 3 rfl rfl rfl (ok_iload_n 4 rfl rfl rfl (ok_callVI (M' := M_Mi_weightOfBoth) (as := [_, _, _, _]) 5 rfl rfl ml_X3_50 (s_Mi_weightOfBoth h hr hr) rfl rfl (Nat.le_of_ble_eq_true rfl) ⟨Nat.le_of_ble_eq_true rfl, Nat.le_of_ble_eq_true rfl⟩ rfl (Nat.le_of_ble_eq_true rfl) (fun σ' z hz => ?_))))))
  obtain ⟨hs_, hz⟩ := hz
  rw [hs_]; clear hs_ σ'
  refine ok_iret 6 rfl rfl rfl ?_
  exact ⟨_, rfl, rfl, hz⟩
theorem s_Mi_commonestColumn {σ : eS} {r : Int} (h : iMi σ) (hr : 0 ≤ r ∧ r < 8) : MtI shA M_Mi_commonestColumn [vr 22, vi r] σ (fun σ' _ => σ' = σ ∧ True) := by
  refine Mt.of okM_Mi_commonestColumn (Nat.le_of_ble_eq_true rfl) (fun hk hg => ?_)
  obtain ⟨⟨h1, h2, h3, h4, h5, h6, h7⟩, a, b, d⟩ := id h
  refine ok_iconst 0 rfl rfl (by decide) (ok_ist2 1 rfl rfl rfl (ok_iconst 2 rfl rfl (by decide) (ok_ist3 3 rfl rfl rfl ?_)))
  refine lpO2 (fun (v j : Int) => [some (vr 22), some (vi r), some (vi v), some (vi j)]) (fun _ _ => σ) (fun _ j => 1 ≤ j ∧ j ≤ 9) (fun _ j => (9 - j).toNat) ?_ 0 1 ⟨by omega, by omega⟩
  rintro v j ⟨j1, j2⟩ ih
  refine ok_iload_n 4 rfl rfl rfl (ok_aload_n 5 rfl rfl rfl (ok_getI 6 rfl rfl fl_X3_25 rfl rfl (Or.inl rfl) (ok_icmp_ge 7 35 rfl rfl rfl (fun h9 => ?_) (fun h9 => ?_))))
  · refine ok_iload_n 21 rfl rfl rfl (ok_iret 22 rfl rfl rfl ?_)
    exact ⟨_, rfl, rfl, trivial⟩
  · refine ok_aload_n 8 rfl rfl rfl (ok_iload_n 9 rfl rfl rfl (ok_iload_n 10 rfl rfl rfl (ok_callVI (M' := M_Mi_weightOf) (as := [_, _]) 11 rfl rfl ml_X3_54 (s_Mi_weightOf h hr) rfl rfl (Nat.le_of_ble_eq_true rfl) ⟨Nat.le_of_ble_eq_true rfl, Nat.le_of_ble_eq_true rfl⟩ rfl (Nat.le_of_ble_eq_true rfl) (fun σ' z1 x1 => ?_))))
    obtain ⟨hs_, x1⟩ := x1
    rw [hs_]; clear hs_ σ'
    refine ok_aload_n 12 rfl rfl rfl (ok_iload_n 13 rfl rfl rfl (ok_iload_n 14 rfl rfl rfl (ok_callVI (M' := M_Mi_weightOf) (as := [_, _]) 15 rfl rfl ml_X3_54 (s_Mi_weightOf h hr) rfl rfl (Nat.le_of_ble_eq_true rfl) ⟨Nat.le_of_ble_eq_true rfl, Nat.le_of_ble_eq_true rfl⟩ rfl (Nat.le_of_ble_eq_true rfl) (fun σ' z2 x2 => ?_))))
    obtain ⟨hs_, x2⟩ := x2
    rw [hs_]; clear hs_ σ'
    refine ok_icmp_le 16 29 rfl rfl rfl (fun h24 => ?_) (fun h24 => ?_)
    · refine ok_inc3 19 rfl rfl rfl (by first | omega | (simp [up_if]; omega) | (simp [up_if] at *; omega)) (ok_goto 20 4 rfl rfl rfl ?_)
      exact ih _ (j + 1) ⟨by omega, by omega⟩ (by omega)
    · refine ok_iload_n 17 rfl rfl rfl (ok_ist2 18 rfl rfl rfl (ok_inc3 19 rfl rfl rfl (by first | omega | (simp [up_if]; omega) | (simp [up_if] at *; omega)) (ok_goto 20 4 rfl rfl rfl ?_)))
      exact ih _ (j + 1) ⟨by omega, by omega⟩ (by omega)
theorem s_Mi_countColumns {σ : eS} {r : Int} (h : iMi σ) (hr : 0 ≤ r ∧ r < 8) : MtI shA M_Mi_countColumns [vr 22, vi r] σ (fun σ' _ => σ' = σ ∧ True) := by
  refine Mt.of okM_Mi_countColumns (Nat.le_of_ble_eq_true rfl) (fun hk hg => ?_)
  obtain ⟨⟨h1, h2, h3, h4, h5, h6, h7⟩, a, b, d⟩ := id h
  refine ok_iconst 0 rfl rfl (by decide) (ok_ist2 1 rfl rfl rfl (ok_iconst 2 rfl rfl (by decide) (ok_ist3 3 rfl rfl rfl ?_)))
  refine lpO2 (fun (v j : Int) => [some (vr 22), some (vi r), some (vi v), some (vi j)]) (fun _ _ => σ) (fun _ j => 0 ≤ j ∧ j ≤ 64) (fun _ j => (64 - j).toNat) ?_ 0 0 ⟨by omega, by omega⟩
  rintro v j ⟨j1, j2⟩ ih
  refine ok_iload_n 4 rfl rfl rfl (ok_aload_n 5 rfl rfl rfl (ok_getI 6 rfl rfl fl_X3_28 rfl rfl (Or.inl rfl) (ok_icmp_ge 7 29 rfl rfl rfl (fun h9 => ?_) (fun h9 => ?_))))
  · refine ok_iload_n 19 rfl rfl rfl (ok_callSI (M' := M_Ji_bitCount) (as := [_]) 20 rfl rfl ml_X3_57 (s_Ji_bitCount) ⟨Nat.le_of_ble_eq_true rfl, Nat.le_of_ble_eq_true rfl⟩ rfl (Nat.le_of_ble_eq_true rfl) (fun σ' z hz => ?_))
    rw [hz.1, hz.2]
    clear hz z σ'
    refine ok_iret 21 rfl rfl rfl ?_
    exact ⟨_, rfl, rfl, trivial⟩
  · refine ok_iload_n 8 rfl rfl rfl (ok_iconst 9 rfl rfl (by decide) (ok_aload_n 10 rfl rfl rfl (ok_iload_n 11 rfl rfl rfl (ok_iload_n 12 rfl rfl rfl (ok_callVI (M' := M_Mi_columnOf) (as := [_, _]) 13 rfl rfl ml_X3_46 (s_Mi_columnOf h ⟨by omega, by omega⟩ hr) rfl rfl (Nat.le_of_ble_eq_true rfl) ⟨Nat.le_of_ble_eq_true rfl, Nat.le_of_ble_eq_true rfl⟩ rfl (Nat.le_of_ble_eq_true rfl) (fun σ' z1 x1 => ?_))))))
    obtain ⟨hs_, x1⟩ := x1
    rw [hs_]; clear hs_ σ'
    refine ok_ishl 14 rfl rfl (ok_ior 15 rfl rfl (ok_ist2 16 rfl rfl rfl (ok_inc3 17 rfl rfl rfl (by first | omega | (simp [up_if]; omega) | (simp [up_if] at *; omega)) (ok_goto 18 4 rfl rfl rfl ?_))))
    exact ih _ (j + 1) ⟨by omega, by omega⟩ (by omega)
theorem s_Mi_machineOf {σ : eS} {k r : Int} (h : iMi σ) (hkk : 0 ≤ k ∧ k < 64) (hr : 0 ≤ r ∧ r < 8) : MtI shA M_Mi_machineOf [vr 22, vi k, vi r] σ (fun σ' z => σ' = σ ∧ -1 ≤ z ∧ z ≤ 7) := by
  refine Mt.of okM_Mi_machineOf (Nat.le_of_ble_eq_true rfl) (fun hk hg => ?_)
  refine ok_aload_n 0 rfl rfl rfl (ok_iload_n 1 rfl rfl rfl (ok_iload_n 2 rfl rfl rfl (ok_callVI (M' := M_Mi_columnOf) (as := [_, _]) 3 rfl rfl ml_X3_46 (s_Mi_columnOf h hkk hr) rfl rfl (Nat.le_of_ble_eq_true rfl) ⟨Nat.le_of_ble_eq_true rfl, Nat.le_of_ble_eq_true rfl⟩ rfl (Nat.le_of_ble_eq_true rfl) (fun σ' z hz => ?_))))
  obtain ⟨hs_, hz⟩ := hz
  rw [hs_]; clear hs_ σ'
  refine ok_ist3 4 rfl rfl rfl (ok_iload_n 5 rfl rfl rfl (ok_aload_n 6 rfl rfl rfl (ok_getI 7 rfl rfl fl_X3_22 rfl rfl (Or.inl rfl) (ok_icmp_ge 8 19 rfl rfl rfl (fun h12 => ?_) (fun h12 => ?_)))))
  · refine ok_iconst 11 rfl rfl (by decide) (ok_iret 12 rfl rfl rfl ?_)
    exact ⟨_, rfl, rfl, by omega, by omega⟩
  · refine ok_iload_n 9 rfl rfl rfl (ok_goto 10 20 rfl rfl rfl (ok_iret 12 rfl rfl rfl ?_))
    exact ⟨_, rfl, rfl, by omega, by omega⟩
theorem s_Mi_lastHour {σ : eS} {r : Int} (h : iMi σ) (hr : 0 ≤ r ∧ r < 8) : MtI shA M_Mi_lastHour [vr 22, vi r] σ (fun σ' _ => σ' = σ ∧ True) := by
  refine Mt.of okM_Mi_lastHour (Nat.le_of_ble_eq_true rfl) (fun hk hg => ?_)
  obtain ⟨⟨h1, h2, h3, h4, h5, h6, h7⟩, a, b, d⟩ := id h
  refine ok_iconst 0 rfl rfl (by decide) (ok_ist2 1 rfl rfl rfl (ok_iconst 2 rfl rfl (by decide) (ok_ist3 3 rfl rfl rfl (ok_iconst 4 rfl rfl (by decide) (ok_ist4 5 rfl rfl rfl ?_)))))
  refine lpO3 (fun (u v j : Int) => [some (vr 22), some (vi r), some (vi u), some (vi v), some (vi j)]) (fun _ _ _ => σ) (fun _ v j => 0 ≤ j ∧ j ≤ 64 ∧ v = sm (fun k => σ 23 k) j.toNat) (fun _ _ j => (64 - j).toNat) ?_ (-1) 0 0 ⟨by omega, by omega, rfl⟩
  rintro u v j ⟨j1, j2, v1⟩ ih
  refine ok_iload 6 rfl rfl rfl (ok_aload_n 7 rfl rfl rfl (ok_getI 8 rfl rfl fl_X3_28 rfl rfl (Or.inl rfl) (ok_icmp_ge 9 47 rfl rfl rfl (fun h13 => ?_) (fun h13 => ?_))))
  · refine ok_iload_n 29 rfl rfl rfl (ok_iret 30 rfl rfl rfl ?_)
    exact ⟨_, rfl, rfl, trivial⟩
  · have w := mi_bd h j1 (by omega)
    have e := sm_s (fun k => σ 23 k) (j := j) j1
    refine ok_iload_n 10 rfl rfl rfl (ok_aload_n 11 rfl rfl rfl (ok_getR 12 rfl rfl fl_X3_9 rfl rfl (ok_iload 13 rfl rfl rfl (ok_iald 14 rfl rfl rfl (by first | omega | (simp [up_if]; omega) | (simp [up_if] at *; omega)) (ok_iadd 15 rfl rfl (by first | omega | (simp [up_if]; omega) | (simp [up_if] at *; omega)) (ok_ist3 16 rfl rfl rfl (ok_aload_n 17 rfl rfl rfl (ok_iload 18 rfl rfl rfl (ok_iload_n 19 rfl rfl rfl (ok_callVI (M' := M_Mi_machineOf) (as := [_, _]) 20 rfl rfl ml_X3_63 (s_Mi_machineOf h ⟨by omega, by omega⟩ hr) rfl rfl (Nat.le_of_ble_eq_true rfl) ⟨Nat.le_of_ble_eq_true rfl, Nat.le_of_ble_eq_true rfl⟩ rfl (Nat.le_of_ble_eq_true rfl) (fun σ' z1 x1 => ?_)))))))))))
    obtain ⟨hs_, x1⟩ := x1
    rw [hs_]; clear hs_ σ'
    refine ok_iconst 21 rfl rfl (by decide) (ok_icmp_eq 22 41 rfl rfl rfl (fun h34 => ?_) (fun h34 => ?_))
    · refine ok_inc4 27 rfl rfl rfl (by first | omega | (simp [up_if]; omega) | (simp [up_if] at *; omega)) (ok_goto 28 7 rfl rfl rfl ?_)
      exact ih _ _ (j + 1) ⟨by omega, by omega, by omega⟩ (by omega)
    · refine ok_iload_n 23 rfl rfl rfl (ok_iconst 24 rfl rfl (by decide) (ok_isub 25 rfl rfl (by first | omega | (simp [up_if]; omega) | (simp [up_if] at *; omega)) (ok_ist2 26 rfl rfl rfl (ok_inc4 27 rfl rfl rfl (by first | omega | (simp [up_if]; omega) | (simp [up_if] at *; omega)) (ok_goto 28 7 rfl rfl rfl ?_)))))
      exact ih _ _ (j + 1) ⟨by omega, by omega, by omega⟩ (by omega)
theorem s_Mi_countPieces {σ : eS} {r : Int} (h : iMi σ) (hr : 0 ≤ r ∧ r < 8) : MtI shA M_Mi_countPieces [vr 22, vi r] σ (fun σ' _ => σ' = σ ∧ True) := by
  refine Mt.of okM_Mi_countPieces (Nat.le_of_ble_eq_true rfl) (fun hk hg => ?_)
  obtain ⟨⟨h1, h2, h3, h4, h5, h6, h7⟩, a, b, d⟩ := id h
  refine ok_iconst 0 rfl rfl (by decide) (ok_ist2 1 rfl rfl rfl (ok_iconst 2 rfl rfl (by decide) (ok_ist3 3 rfl rfl rfl ?_)))
  refine lpO2 (fun (v j : Int) => [some (vr 22), some (vi r), some (vi v), some (vi j)]) (fun _ _ => σ) (fun v j => 0 ≤ j ∧ j ≤ 64 ∧ 0 ≤ v ∧ v ≤ j) (fun _ j => (64 - j).toNat) ?_ 0 0 ⟨by omega, by omega, by omega, by omega⟩
  rintro v j ⟨j1, j2, v1, v2⟩ ih
  refine ok_iload_n 4 rfl rfl rfl (ok_aload_n 5 rfl rfl rfl (ok_getI 6 rfl rfl fl_X3_28 rfl rfl (Or.inl rfl) (ok_icmp_ge 7 31 rfl rfl rfl (fun h9 => ?_) (fun h9 => ?_))))
  · refine ok_iload_n 17 rfl rfl rfl (ok_iret 18 rfl rfl rfl ?_)
    exact ⟨_, rfl, rfl, trivial⟩
  · refine ok_aload_n 8 rfl rfl rfl (ok_iload_n 9 rfl rfl rfl (ok_iload_n 10 rfl rfl rfl (ok_callVI (M' := M_Mi_machineOf) (as := [_, _]) 11 rfl rfl ml_X3_63 (s_Mi_machineOf h ⟨by omega, by omega⟩ hr) rfl rfl (Nat.le_of_ble_eq_true rfl) ⟨Nat.le_of_ble_eq_true rfl, Nat.le_of_ble_eq_true rfl⟩ rfl (Nat.le_of_ble_eq_true rfl) (fun σ' z1 x1 => ?_))))
    obtain ⟨hs_, x1⟩ := x1
    rw [hs_]; clear hs_ σ'
    refine ok_iconst 12 rfl rfl (by decide) (ok_icmp_eq 13 25 rfl rfl rfl (fun h19 => ?_) (fun h19 => ?_))
    · refine ok_inc3 15 rfl rfl rfl (by first | omega | (simp [up_if]; omega) | (simp [up_if] at *; omega)) (ok_goto 16 4 rfl rfl rfl ?_)
      exact ih _ (j + 1) ⟨by omega, by omega, by omega, by omega⟩ (by omega)
    · refine ok_inc2 14 rfl rfl rfl (by first | omega | (simp [up_if]; omega) | (simp [up_if] at *; omega)) (ok_inc3 15 rfl rfl rfl (by first | omega | (simp [up_if]; omega) | (simp [up_if] at *; omega)) (ok_goto 16 4 rfl rfl rfl ?_))
      exact ih _ (j + 1) ⟨by omega, by omega, by omega, by omega⟩ (by omega)
theorem s_Mi_countMoves {σ : eS} {r : Int} (h : iMi σ) (hr : 0 ≤ r ∧ r < 8) : MtI shA M_Mi_countMoves [vr 22, vi r] σ (fun σ' _ => σ' = σ ∧ True) := by
  refine Mt.of okM_Mi_countMoves (Nat.le_of_ble_eq_true rfl) (fun hk hg => ?_)
  obtain ⟨⟨h1, h2, h3, h4, h5, h6, h7⟩, a, b, d⟩ := id h
  refine ok_iconst 0 rfl rfl (by decide) (ok_ist2 1 rfl rfl rfl (ok_iconst 2 rfl rfl (by decide) (ok_ist3 3 rfl rfl rfl (ok_iconst 4 rfl rfl (by decide) (ok_ist4 5 rfl rfl rfl ?_)))))
  refine lpO3 (fun (v u j : Int) => [some (vr 22), some (vi r), some (vi v), some (vi u), some (vi j), none]) (fun _ _ _ => σ) (fun v _ j => 0 ≤ j ∧ j ≤ 64 ∧ 0 ≤ v ∧ v ≤ j) (fun _ _ j => (64 - j).toNat) ?_ 0 (-1) 0 ⟨by omega, by omega, by omega, by omega⟩
  rintro v u j ⟨j1, j2, v1, v2⟩ ih
  refine ok_iload 6 rfl rfl rfl (ok_aload_n 7 rfl rfl rfl (ok_getI 8 rfl rfl fl_X3_28 rfl rfl (Or.inl rfl) (ok_icmp_ge 9 54 rfl rfl rfl (fun h13 => ?_) (fun h13 => ?_))))
  · refine ok_iload_n 29 rfl rfl rfl (ok_iret 30 rfl rfl rfl ?_)
    exact ⟨_, rfl, rfl, trivial⟩
  · refine ok_aload_n 10 rfl rfl rfl (ok_iload 11 rfl rfl rfl (ok_iload_n 12 rfl rfl rfl (ok_callVI (M' := M_Mi_machineOf) (as := [_, _]) 13 rfl rfl ml_X3_63 (s_Mi_machineOf h ⟨by omega, by omega⟩ hr) rfl rfl (Nat.le_of_ble_eq_true rfl) ⟨Nat.le_of_ble_eq_true rfl, Nat.le_of_ble_eq_true rfl⟩ rfl (Nat.le_of_ble_eq_true rfl) (fun σ' z1 x1 => ?_))))
    obtain ⟨hs_, x1⟩ := x1
    rw [hs_]; clear hs_ σ'
    refine ok_ist5 14 rfl rfl rfl (ok_iload 15 rfl rfl rfl (ok_iconst 16 rfl rfl (by decide) (ok_icmp_eq 17 48 rfl rfl rfl (fun h28 => ?_) (fun h28 => ?_))))
    · refine ok_inc4 27 rfl rfl rfl (by first | omega | (simp [up_if]; omega) | (simp [up_if] at *; omega)) (ok_goto 28 7 rfl rfl rfl ?_)
      exact ok_fg [some (vr 22), some (vi r), some (vi _), some (vi _), some (vi (j + 1)), none] ⟨rfl, rfl, rfl, rfl, rfl, trivial⟩ (ih _ _ (j + 1) ⟨by omega, by omega, by omega, by omega⟩ (by omega))
    · refine ok_iload_n 18 rfl rfl rfl (ok_iconst 19 rfl rfl (by decide) (ok_icmp_eq 20 45 rfl rfl rfl (fun h33 => ?_) (fun h33 => ?_)))
      · refine ok_iload 25 rfl rfl rfl (ok_ist3 26 rfl rfl rfl (ok_inc4 27 rfl rfl rfl (by first | omega | (simp [up_if]; omega) | (simp [up_if] at *; omega)) (ok_goto 28 7 rfl rfl rfl ?_)))
        exact ok_fg [some (vr 22), some (vi r), some (vi _), some (vi _), some (vi (j + 1)), none] ⟨rfl, rfl, rfl, rfl, rfl, trivial⟩ (ih _ _ (j + 1) ⟨by omega, by omega, by omega, by omega⟩ (by omega))
      · refine ok_iload_n 21 rfl rfl rfl (ok_iload 22 rfl rfl rfl (ok_icmp_eq 23 45 rfl rfl rfl (fun h39 => ?_) (fun h39 => ?_)))
        · refine ok_iload 25 rfl rfl rfl (ok_ist3 26 rfl rfl rfl (ok_inc4 27 rfl rfl rfl (by first | omega | (simp [up_if]; omega) | (simp [up_if] at *; omega)) (ok_goto 28 7 rfl rfl rfl ?_)))
          exact ok_fg [some (vr 22), some (vi r), some (vi _), some (vi _), some (vi (j + 1)), none] ⟨rfl, rfl, rfl, rfl, rfl, trivial⟩ (ih _ _ (j + 1) ⟨by omega, by omega, by omega, by omega⟩ (by omega))
        · refine ok_inc2 24 rfl rfl rfl (by first | omega | (simp [up_if]; omega) | (simp [up_if] at *; omega)) (ok_iload 25 rfl rfl rfl (ok_ist3 26 rfl rfl rfl (ok_inc4 27 rfl rfl rfl (by first | omega | (simp [up_if]; omega) | (simp [up_if] at *; omega)) (ok_goto 28 7 rfl rfl rfl ?_))))
          exact ok_fg [some (vr 22), some (vi r), some (vi _), some (vi _), some (vi (j + 1)), none] ⟨rfl, rfl, rfl, rfl, rfl, trivial⟩ (ih _ _ (j + 1) ⟨by omega, by omega, by omega, by omega⟩ (by omega))
theorem s_Ev_part {σ : eS} {k r : Int} (h : IA σ) : MtI shA M_Ev_part [vr 0, vi k, vi r] σ (fun σ' _ => σ' = σ ∧ True) := by
  refine Mt.of okM_Ev_part (Nat.le_of_ble_eq_true rfl) (fun hk hg => ?_)
  have hm := h.2.2.2.1
  obtain ⟨⟨h1, h2, h3, h4, h5, h6, h7⟩, a, b, d⟩ := id hm
  refine ok_aload_n 0 rfl rfl rfl (ok_getR 1 rfl rfl fl_X11_48 rfl rfl (ok_iload_n 2 rfl rfl rfl (ok_callVI (M' := M_Mi_hasPart) (as := [_]) 3 rfl rfl ml_X11_181 (s_Mi_hasPart) rfl rfl (Nat.le_of_ble_eq_true rfl) ⟨Nat.le_of_ble_eq_true rfl, Nat.le_of_ble_eq_true rfl⟩ rfl (Nat.le_of_ble_eq_true rfl) (fun σ' z1 x1 => ?_))))
  obtain ⟨hs_, x1⟩ := x1
  rw [hs_]; clear hs_ σ'
  refine ok_if_eq 4 34 rfl rfl rfl (fun h8 => ?_) (fun h8 => ?_)
  · refine ok_iconst 16 rfl rfl (by decide) (ok_iret 17 rfl rfl rfl ?_)
    exact ⟨_, rfl, rfl, trivial⟩
  · refine ok_aload_n 5 rfl rfl rfl (ok_getR 6 rfl rfl fl_X11_48 rfl rfl (ok_iload_n 7 rfl rfl rfl (ok_callVI (M' := M_Mi_hasRow) (as := [_]) 8 rfl rfl ml_X11_184 (s_Mi_hasRow) rfl rfl (Nat.le_of_ble_eq_true rfl) ⟨Nat.le_of_ble_eq_true rfl, Nat.le_of_ble_eq_true rfl⟩ rfl (Nat.le_of_ble_eq_true rfl) (fun σ' z2 x2 => ?_))))
    obtain ⟨hs_, x2⟩ := x2
    rw [hs_]; clear hs_ σ'
    refine ok_if_eq 9 34 rfl rfl rfl (fun h19 => ?_) (fun h19 => ?_)
    · refine ok_iconst 16 rfl rfl (by decide) (ok_iret 17 rfl rfl rfl ?_)
      exact ⟨_, rfl, rfl, trivial⟩
    · refine ok_aload_n 10 rfl rfl rfl (ok_getR 11 rfl rfl fl_X11_48 rfl rfl (ok_iload_n 12 rfl rfl rfl (ok_iload_n 13 rfl rfl rfl (ok_callVI (M' := M_Mi_columnOf) (as := [_, _]) 14 rfl rfl ml_X11_187 (s_Mi_columnOf hm ⟨by omega, by omega⟩ ⟨by omega, by omega⟩) rfl rfl (Nat.le_of_ble_eq_true rfl) ⟨Nat.le_of_ble_eq_true rfl, Nat.le_of_ble_eq_true rfl⟩ rfl (Nat.le_of_ble_eq_true rfl) (fun σ' z3 x3 => ?_)))))
      obtain ⟨hs_, x3⟩ := x3
      rw [hs_]; clear hs_ σ'
      refine ok_goto 15 35 rfl rfl rfl (ok_iret 17 rfl rfl rfl ?_)
      exact ⟨_, rfl, rfl, trivial⟩
theorem s_Ev_weight {σ : eS} {k w : Int} (h : IA σ) : MtI shA M_Ev_weight [vr 0, vi k, vi w] σ (fun σ' _ => σ' = σ ∧ True) := by
  refine Mt.of okM_Ev_weight (Nat.le_of_ble_eq_true rfl) (fun hk hg => ?_)
  have hm := h.2.2.2.1
  obtain ⟨⟨h1, h2, h3, h4, h5, h6, h7⟩, a, b, d⟩ := id hm
  refine ok_aload_n 0 rfl rfl rfl (ok_getR 1 rfl rfl fl_X11_48 rfl rfl (ok_iload_n 2 rfl rfl rfl (ok_callVI (M' := M_Mi_hasPart) (as := [_]) 3 rfl rfl ml_X11_181 (s_Mi_hasPart) rfl rfl (Nat.le_of_ble_eq_true rfl) ⟨Nat.le_of_ble_eq_true rfl, Nat.le_of_ble_eq_true rfl⟩ rfl (Nat.le_of_ble_eq_true rfl) (fun σ' z1 x1 => ?_))))
  obtain ⟨hs_, x1⟩ := x1
  rw [hs_]; clear hs_ σ'
  refine ok_if_eq 4 20 rfl rfl rfl (fun h8 => ?_) (fun h8 => ?_)
  · refine ok_iconst 10 rfl rfl (by decide) (ok_iret 11 rfl rfl rfl ?_)
    exact ⟨_, rfl, rfl, trivial⟩
  · refine ok_iload_n 5 rfl rfl rfl (ok_if_lt 6 20 rfl rfl rfl (fun h12 => ?_) (fun h12 => ?_))
    · refine ok_iconst 10 rfl rfl (by decide) (ok_iret 11 rfl rfl rfl ?_)
      exact ⟨_, rfl, rfl, trivial⟩
    · refine ok_iload_n 7 rfl rfl rfl (ok_iconst 8 rfl rfl (by decide) (ok_icmp_le 9 22 rfl rfl rfl (fun h17 => ?_) (fun h17 => ?_)))
      · have w0 := mi_bd hm (k := k) (by omega) (by omega)
        refine ok_aload_n 12 rfl rfl rfl (ok_getR 13 rfl rfl fl_X11_48 rfl rfl (ok_getR 14 rfl rfl fl_X11_191 rfl rfl (ok_iload_n 15 rfl rfl rfl (ok_iald 16 rfl rfl rfl (by first | omega | (simp [up_if]; omega) | (simp [up_if] at *; omega)) (ok_ist3 17 rfl rfl rfl (ok_iload_n 18 rfl rfl rfl (ok_if_ne 19 40 rfl rfl rfl (fun h33 => ?_) (fun h33 => ?_))))))))
        · refine ok_aload_n 22 rfl rfl rfl (ok_getR 23 rfl rfl fl_X11_48 rfl rfl (ok_iload_n 24 rfl rfl rfl (ok_iload_n 25 rfl rfl rfl (ok_iconst 26 rfl rfl (by decide) (ok_icmp_ne 27 54 rfl rfl rfl (fun h47 => ?_) (fun h47 => ?_))))))
          · refine ok_iconst 30 rfl rfl (by decide) (ok_callVI (M' := M_Mi_inLeastTerms) (as := [_, _]) 31 rfl rfl ml_X11_194 (s_Mi_inLeastTerms hm ⟨by omega, by omega⟩) rfl rfl (Nat.le_of_ble_eq_true rfl) ⟨Nat.le_of_ble_eq_true rfl, Nat.le_of_ble_eq_true rfl⟩ rfl (Nat.le_of_ble_eq_true rfl) (fun σ' z3 x3 => ?_))
            obtain ⟨hs_, x3⟩ := x3
            rw [hs_]; clear hs_ σ'
            refine ok_iret 32 rfl rfl rfl ?_
            exact ⟨_, rfl, rfl, trivial⟩
          · refine ok_iconst 28 rfl rfl (by decide) (ok_goto 29 55 rfl rfl rfl (ok_callVI (M' := M_Mi_inLeastTerms) (as := [_, _]) 31 rfl rfl ml_X11_194 (s_Mi_inLeastTerms hm ⟨by omega, by omega⟩) rfl rfl (Nat.le_of_ble_eq_true rfl) ⟨Nat.le_of_ble_eq_true rfl, Nat.le_of_ble_eq_true rfl⟩ rfl (Nat.le_of_ble_eq_true rfl) (fun σ' z3 x3 => ?_)))
            obtain ⟨hs_, x3⟩ := x3
            rw [hs_]; clear hs_ σ'
            refine ok_iret 32 rfl rfl rfl ?_
            exact ⟨_, rfl, rfl, trivial⟩
        · refine ok_iload_n 20 rfl rfl rfl (ok_goto 21 58 rfl rfl rfl (ok_iret 32 rfl rfl rfl ?_))
          exact ⟨_, rfl, rfl, trivial⟩
      · refine ok_iconst 10 rfl rfl (by decide) (ok_iret 11 rfl rfl rfl ?_)
        exact ⟨_, rfl, rfl, trivial⟩
theorem s_Ev_draw {σ : eS} {r : Int} (h : IA σ) : MtI shA M_Ev_draw [vr 0, vi r] σ (fun σ' _ => σ' = σ ∧ True) := by
  refine Mt.of okM_Ev_draw (Nat.le_of_ble_eq_true rfl) (fun hk hg => ?_)
  refine ok_aload_n 0 rfl rfl rfl (ok_getR 1 rfl rfl fl_X11_48 rfl rfl (ok_iload_n 2 rfl rfl rfl (ok_callVI (M' := M_Mi_partAt) (as := [_]) 3 rfl rfl ml_X11_198 (s_Mi_partAt h.2.2.2.1) rfl rfl (Nat.le_of_ble_eq_true rfl) ⟨Nat.le_of_ble_eq_true rfl, Nat.le_of_ble_eq_true rfl⟩ rfl (Nat.le_of_ble_eq_true rfl) (fun σ' z1 x1 => ?_))))
  obtain ⟨hs_, x1⟩ := x1
  rw [hs_]; clear hs_ σ'
  refine ok_iret 4 rfl rfl rfl ?_
  exact ⟨_, rfl, rfl, trivial⟩
theorem s_Ev_joint {σ : eS} {i j k l w : Int} (h : IA σ) : MtI shA M_Ev_joint [vr 0, vi i, vi j, vi k, vi l, vi w] σ (fun σ' _ => σ' = σ ∧ True) := by
  refine Mt.of okM_Ev_joint (Nat.le_of_ble_eq_true rfl) (fun hk hg => ?_)
  have hm := h.2.2.2.1
  obtain ⟨⟨h1, h2, h3, h4, h5, h6, h7⟩, a, b, d⟩ := id hm
  refine ok_aload_n 0 rfl rfl rfl (ok_getR 1 rfl rfl fl_X11_48 rfl rfl (ok_iload_n 2 rfl rfl rfl (ok_callVI (M' := M_Mi_hasRow) (as := [_]) 3 rfl rfl ml_X11_184 (s_Mi_hasRow) rfl rfl (Nat.le_of_ble_eq_true rfl) ⟨Nat.le_of_ble_eq_true rfl, Nat.le_of_ble_eq_true rfl⟩ rfl (Nat.le_of_ble_eq_true rfl) (fun σ' z1 x1 => ?_))))
  obtain ⟨hs_, x1⟩ := x1
  rw [hs_]; clear hs_ σ'
  refine ok_if_eq 4 45 rfl rfl rfl (fun h8 => ?_) (fun h8 => ?_)
  · refine ok_iconst 20 rfl rfl (by decide) (ok_iret 21 rfl rfl rfl ?_)
    exact ⟨_, rfl, rfl, trivial⟩
  · refine ok_aload_n 5 rfl rfl rfl (ok_getR 6 rfl rfl fl_X11_48 rfl rfl (ok_iload_n 7 rfl rfl rfl (ok_callVI (M' := M_Mi_hasRow) (as := [_]) 8 rfl rfl ml_X11_184 (s_Mi_hasRow) rfl rfl (Nat.le_of_ble_eq_true rfl) ⟨Nat.le_of_ble_eq_true rfl, Nat.le_of_ble_eq_true rfl⟩ rfl (Nat.le_of_ble_eq_true rfl) (fun σ' z2 x2 => ?_))))
    obtain ⟨hs_, x2⟩ := x2
    rw [hs_]; clear hs_ σ'
    refine ok_if_eq 9 45 rfl rfl rfl (fun h19 => ?_) (fun h19 => ?_)
    · refine ok_iconst 20 rfl rfl (by decide) (ok_iret 21 rfl rfl rfl ?_)
      exact ⟨_, rfl, rfl, trivial⟩
    · refine ok_aload_n 10 rfl rfl rfl (ok_getR 11 rfl rfl fl_X11_48 rfl rfl (ok_iload_n 12 rfl rfl rfl (ok_callVI (M' := M_Mi_hasRow) (as := [_]) 13 rfl rfl ml_X11_184 (s_Mi_hasRow) rfl rfl (Nat.le_of_ble_eq_true rfl) ⟨Nat.le_of_ble_eq_true rfl, Nat.le_of_ble_eq_true rfl⟩ rfl (Nat.le_of_ble_eq_true rfl) (fun σ' z3 x3 => ?_))))
      obtain ⟨hs_, x3⟩ := x3
      rw [hs_]; clear hs_ σ'
      refine ok_if_eq 14 45 rfl rfl rfl (fun h30 => ?_) (fun h30 => ?_)
      · refine ok_iconst 20 rfl rfl (by decide) (ok_iret 21 rfl rfl rfl ?_)
        exact ⟨_, rfl, rfl, trivial⟩
      · refine ok_aload_n 15 rfl rfl rfl (ok_getR 16 rfl rfl fl_X11_48 rfl rfl (ok_iload 17 rfl rfl rfl (ok_callVI (M' := M_Mi_hasRow) (as := [_]) 18 rfl rfl ml_X11_184 (s_Mi_hasRow) rfl rfl (Nat.le_of_ble_eq_true rfl) ⟨Nat.le_of_ble_eq_true rfl, Nat.le_of_ble_eq_true rfl⟩ rfl (Nat.le_of_ble_eq_true rfl) (fun σ' z4 x4 => ?_))))
        obtain ⟨hs_, x4⟩ := x4
        rw [hs_]; clear hs_ σ'
        refine ok_if_ne 19 47 rfl rfl rfl (fun h42 => ?_) (fun h42 => ?_)
        · refine ok_iload 22 rfl rfl rfl (ok_if_lt 23 58 rfl rfl rfl (fun h49 => ?_) (fun h49 => ?_))
          · refine ok_iconst 27 rfl rfl (by decide) (ok_iret 28 rfl rfl rfl ?_)
            exact ⟨_, rfl, rfl, trivial⟩
          · refine ok_iload 24 rfl rfl rfl (ok_iconst 25 rfl rfl (by decide) (ok_icmp_le 26 60 rfl rfl rfl (fun h55 => ?_) (fun h55 => ?_)))
            · refine ok_aload_n 29 rfl rfl rfl (ok_getR 30 rfl rfl fl_X11_48 rfl rfl (ok_aload_n 31 rfl rfl rfl (ok_getR 32 rfl rfl fl_X11_48 rfl rfl (ok_iload_n 33 rfl rfl rfl (ok_iload_n 34 rfl rfl rfl (ok_iload_n 35 rfl rfl rfl (ok_iload 36 rfl rfl rfl (ok_callVI (M' := M_Mi_weightOfBoth) (as := [_, _, _, _]) 37 rfl rfl ml_X11_201 (s_Mi_weightOfBoth hm ⟨by omega, by omega⟩ ⟨by omega, by omega⟩) rfl rfl (Nat.le_of_ble_eq_true rfl) ⟨Nat.le_of_ble_eq_true rfl, Nat.le_of_ble_eq_true rfl⟩ rfl (Nat.le_of_ble_eq_true rfl) (fun σ' z5 x5 => ?_)))))))))
              obtain ⟨hs_, x5⟩ := x5
              rw [hs_]; clear hs_ σ'
              refine ok_iload 38 rfl rfl rfl (ok_if_ne 39 85 rfl rfl rfl (fun h78 => ?_) (fun h78 => ?_))
              · refine ok_iconst 42 rfl rfl (by decide) (ok_callVI (M' := M_Mi_inLeastTerms) (as := [_, _]) 43 rfl rfl ml_X11_194 (s_Mi_inLeastTerms hm x5) rfl rfl (Nat.le_of_ble_eq_true rfl) ⟨Nat.le_of_ble_eq_true rfl, Nat.le_of_ble_eq_true rfl⟩ rfl (Nat.le_of_ble_eq_true rfl) (fun σ' z6 x6 => ?_))
                obtain ⟨hs_, x6⟩ := x6
                rw [hs_]; clear hs_ σ'
                refine ok_iret 44 rfl rfl rfl ?_
                exact ⟨_, rfl, rfl, trivial⟩
              · refine ok_iconst 40 rfl rfl (by decide) (ok_goto 41 86 rfl rfl rfl (ok_callVI (M' := M_Mi_inLeastTerms) (as := [_, _]) 43 rfl rfl ml_X11_194 (s_Mi_inLeastTerms hm x5) rfl rfl (Nat.le_of_ble_eq_true rfl) ⟨Nat.le_of_ble_eq_true rfl, Nat.le_of_ble_eq_true rfl⟩ rfl (Nat.le_of_ble_eq_true rfl) (fun σ' z6 x6 => ?_)))
                obtain ⟨hs_, x6⟩ := x6
                rw [hs_]; clear hs_ σ'
                refine ok_iret 44 rfl rfl rfl ?_
                exact ⟨_, rfl, rfl, trivial⟩
            · refine ok_iconst 27 rfl rfl (by decide) (ok_iret 28 rfl rfl rfl ?_)
              exact ⟨_, rfl, rfl, trivial⟩
        · refine ok_iconst 20 rfl rfl (by decide) (ok_iret 21 rfl rfl rfl ?_)
          exact ⟨_, rfl, rfl, trivial⟩
theorem s_Ev_most {σ : eS} {r w : Int} (h : IA σ) : MtI shA M_Ev_most [vr 0, vi r, vi w] σ (fun σ' _ => σ' = σ ∧ True) := by
  refine Mt.of okM_Ev_most (Nat.le_of_ble_eq_true rfl) (fun hk hg => ?_)
  have hm := h.2.2.2.1
  obtain ⟨⟨h1, h2, h3, h4, h5, h6, h7⟩, a, b, d⟩ := id hm
  refine ok_aload_n 0 rfl rfl rfl (ok_getR 1 rfl rfl fl_X11_48 rfl rfl (ok_iload_n 2 rfl rfl rfl (ok_callVI (M' := M_Mi_hasRow) (as := [_]) 3 rfl rfl ml_X11_184 (s_Mi_hasRow) rfl rfl (Nat.le_of_ble_eq_true rfl) ⟨Nat.le_of_ble_eq_true rfl, Nat.le_of_ble_eq_true rfl⟩ rfl (Nat.le_of_ble_eq_true rfl) (fun σ' z1 x1 => ?_))))
  obtain ⟨hs_, x1⟩ := x1
  rw [hs_]; clear hs_ σ'
  refine ok_if_eq 4 20 rfl rfl rfl (fun h8 => ?_) (fun h8 => ?_)
  · refine ok_iconst 10 rfl rfl (by decide) (ok_iret 11 rfl rfl rfl ?_)
    exact ⟨_, rfl, rfl, trivial⟩
  · refine ok_iload_n 5 rfl rfl rfl (ok_if_lt 6 20 rfl rfl rfl (fun h12 => ?_) (fun h12 => ?_))
    · refine ok_iconst 10 rfl rfl (by decide) (ok_iret 11 rfl rfl rfl ?_)
      exact ⟨_, rfl, rfl, trivial⟩
    · refine ok_iload_n 7 rfl rfl rfl (ok_iconst 8 rfl rfl (by decide) (ok_icmp_le 9 22 rfl rfl rfl (fun h17 => ?_) (fun h17 => ?_)))
      · refine ok_iload_n 12 rfl rfl rfl (ok_iconst 13 rfl rfl (by decide) (ok_icmp_ne 14 36 rfl rfl rfl (fun h24 => ?_) (fun h24 => ?_)))
        · refine ok_aload_n 20 rfl rfl rfl (ok_getR 21 rfl rfl fl_X11_48 rfl rfl (ok_iload_n 22 rfl rfl rfl (ok_callVI (M' := M_Mi_commonestColumn) (as := [_]) 23 rfl rfl ml_X11_273 (s_Mi_commonestColumn hm ⟨by omega, by omega⟩) rfl rfl (Nat.le_of_ble_eq_true rfl) ⟨Nat.le_of_ble_eq_true rfl, Nat.le_of_ble_eq_true rfl⟩ rfl (Nat.le_of_ble_eq_true rfl) (fun σ' z3 x3 => ?_))))
          obtain ⟨hs_, x3⟩ := x3
          rw [hs_]; clear hs_ σ'
          refine ok_ist3 24 rfl rfl rfl (ok_iload_n 25 rfl rfl rfl (ok_if_ne 26 53 rfl rfl rfl (fun h46 => ?_) (fun h46 => ?_)))
          · refine ok_aload_n 29 rfl rfl rfl (ok_getR 30 rfl rfl fl_X11_48 rfl rfl (ok_iload_n 31 rfl rfl rfl (ok_iload_n 32 rfl rfl rfl (ok_callVI (M' := M_Mi_weightOf) (as := [_, _]) 33 rfl rfl ml_X11_276 (s_Mi_weightOf hm ⟨by omega, by omega⟩) rfl rfl (Nat.le_of_ble_eq_true rfl) ⟨Nat.le_of_ble_eq_true rfl, Nat.le_of_ble_eq_true rfl⟩ rfl (Nat.le_of_ble_eq_true rfl) (fun σ' z4 x4 => ?_)))))
            obtain ⟨hs_, x4⟩ := x4
            rw [hs_]; clear hs_ σ'
            refine ok_iret 34 rfl rfl rfl ?_
            exact ⟨_, rfl, rfl, trivial⟩
          · refine ok_iload_n 27 rfl rfl rfl (ok_goto 28 62 rfl rfl rfl (ok_iret 34 rfl rfl rfl ?_))
            exact ⟨_, rfl, rfl, trivial⟩
        · refine ok_aload_n 15 rfl rfl rfl (ok_getR 16 rfl rfl fl_X11_48 rfl rfl (ok_iload_n 17 rfl rfl rfl (ok_callVI (M' := M_Mi_countColumns) (as := [_]) 18 rfl rfl ml_X11_270 (s_Mi_countColumns hm ⟨by omega, by omega⟩) rfl rfl (Nat.le_of_ble_eq_true rfl) ⟨Nat.le_of_ble_eq_true rfl, Nat.le_of_ble_eq_true rfl⟩ rfl (Nat.le_of_ble_eq_true rfl) (fun σ' z2 x2 => ?_))))
          obtain ⟨hs_, x2⟩ := x2
          rw [hs_]; clear hs_ σ'
          refine ok_iret 19 rfl rfl rfl ?_
          exact ⟨_, rfl, rfl, trivial⟩
      · refine ok_iconst 10 rfl rfl (by decide) (ok_iret 11 rfl rfl rfl ?_)
        exact ⟨_, rfl, rfl, trivial⟩
theorem s_Ev_works {σ : eS} {j t : Int} (h : IA σ) : MtI shA M_Ev_works [vr 0, vi j, vi t] σ (fun σ' _ => σ' = σ ∧ True) := by
  refine Mt.of okM_Ev_works (Nat.le_of_ble_eq_true rfl) (fun hk hg => ?_)
  have hm := h.2.2.2.1
  obtain ⟨⟨h1, h2, h3, h4, h5, h6, h7⟩, a, b, d⟩ := id hm
  refine ok_aload_n 0 rfl rfl rfl (ok_getR 1 rfl rfl fl_X11_48 rfl rfl (ok_iload_n 2 rfl rfl rfl (ok_callVI (M' := M_Mi_hasJob) (as := [_]) 3 rfl rfl ml_X11_300 (s_Mi_hasJob) rfl rfl (Nat.le_of_ble_eq_true rfl) ⟨Nat.le_of_ble_eq_true rfl, Nat.le_of_ble_eq_true rfl⟩ rfl (Nat.le_of_ble_eq_true rfl) (fun σ' z1 x1 => ?_))))
  obtain ⟨hs_, x1⟩ := x1
  rw [hs_]; clear hs_ σ'
  refine ok_if_ne 4 13 rfl rfl rfl (fun h8 => ?_) (fun h8 => ?_)
  · refine ok_aload_n 7 rfl rfl rfl (ok_getR 8 rfl rfl fl_X11_48 rfl rfl (ok_iload_n 9 rfl rfl rfl (ok_callVI (M' := M_Mi_partAt) (as := [_]) 10 rfl rfl ml_X11_198 (s_Mi_partAt hm) rfl rfl (Nat.le_of_ble_eq_true rfl) ⟨Nat.le_of_ble_eq_true rfl, Nat.le_of_ble_eq_true rfl⟩ rfl (Nat.le_of_ble_eq_true rfl) (fun σ' z2 x2 => ?_))))
    obtain ⟨hs_, x2⟩ := x2
    rw [hs_]; clear hs_ σ'
    refine ok_ist3 11 rfl rfl rfl (ok_iload_n 12 rfl rfl rfl (ok_iconst 13 rfl rfl (by decide) (ok_icmp_ne 14 31 rfl rfl rfl (fun h24 => ?_) (fun h24 => ?_))))
    · refine ok_aload_n 17 rfl rfl rfl (ok_getR 18 rfl rfl fl_X11_48 rfl rfl (ok_iload_n 19 rfl rfl rfl (ok_iload_n 20 rfl rfl rfl (ok_callVI (M' := M_Mi_machineOf) (as := [_, _]) 21 rfl rfl ml_X11_303 (s_Mi_machineOf hm ⟨by omega, by omega⟩ ⟨by omega, by omega⟩) rfl rfl (Nat.le_of_ble_eq_true rfl) ⟨Nat.le_of_ble_eq_true rfl, Nat.le_of_ble_eq_true rfl⟩ rfl (Nat.le_of_ble_eq_true rfl) (fun σ' z3 x3 => ?_)))))
      obtain ⟨hs_, x3⟩ := x3
      rw [hs_]; clear hs_ σ'
      refine ok_iret 22 rfl rfl rfl ?_
      exact ⟨_, rfl, rfl, trivial⟩
    · refine ok_iconst 15 rfl rfl (by decide) (ok_goto 16 40 rfl rfl rfl (ok_iret 22 rfl rfl rfl ?_))
      exact ⟨_, rfl, rfl, trivial⟩
  · refine ok_iconst 5 rfl rfl (by decide) (ok_iret 6 rfl rfl rfl ?_)
    exact ⟨_, rfl, rfl, trivial⟩
theorem s_Ev_job {σ : eS} {j w : Int} (h : IA σ) : MtI shA M_Ev_job [vr 0, vi j, vi w] σ (fun σ' _ => σ' = σ ∧ True) := by
  refine Mt.of okM_Ev_job (Nat.le_of_ble_eq_true rfl) (fun hk hg => ?_)
  have hm := h.2.2.2.1
  obtain ⟨⟨h1, h2, h3, h4, h5, h6, h7⟩, a, b, d⟩ := id hm
  refine ok_aload_n 0 rfl rfl rfl (ok_getR 1 rfl rfl fl_X11_48 rfl rfl (ok_iload_n 2 rfl rfl rfl (ok_callVI (M' := M_Mi_hasJob) (as := [_]) 3 rfl rfl ml_X11_300 (s_Mi_hasJob) rfl rfl (Nat.le_of_ble_eq_true rfl) ⟨Nat.le_of_ble_eq_true rfl, Nat.le_of_ble_eq_true rfl⟩ rfl (Nat.le_of_ble_eq_true rfl) (fun σ' z1 x1 => ?_))))
  obtain ⟨hs_, x1⟩ := x1
  rw [hs_]; clear hs_ σ'
  refine ok_if_ne 4 13 rfl rfl rfl (fun h8 => ?_) (fun h8 => ?_)
  · refine ok_iload_n 7 rfl rfl rfl ?_
    rcases (by omega : w = 0 ∨ w = 1 ∨ w = 2 ∨ (w < 0 ∨ 2 < w)) with q_ | q_ | q_ | q_
    · subst q_
      refine ok_tin 8 (len := 26) 40 rfl rfl (by decide) (by decide) rfl rfl ?_
      refine ok_aload_n 9 rfl rfl rfl (ok_getR 10 rfl rfl fl_X11_48 rfl rfl (ok_iload_n 11 rfl rfl rfl (ok_callVI (M' := M_Mi_lastHour) (as := [_]) 12 rfl rfl ml_X11_306 (s_Mi_lastHour hm ⟨by omega, by omega⟩) rfl rfl (Nat.le_of_ble_eq_true rfl) ⟨Nat.le_of_ble_eq_true rfl, Nat.le_of_ble_eq_true rfl⟩ rfl (Nat.le_of_ble_eq_true rfl) (fun σ' z2 x2 => ?_))))
      obtain ⟨hs_, x2⟩ := x2
      rw [hs_]; clear hs_ σ'
      refine ok_iret 13 rfl rfl rfl ?_
      exact ⟨_, rfl, rfl, trivial⟩
    · subst q_
      refine ok_tin 8 (len := 26) 49 rfl rfl (by decide) (by decide) rfl rfl ?_
      refine ok_aload_n 14 rfl rfl rfl (ok_getR 15 rfl rfl fl_X11_48 rfl rfl (ok_iload_n 16 rfl rfl rfl (ok_callVI (M' := M_Mi_countPieces) (as := [_]) 17 rfl rfl ml_X11_309 (s_Mi_countPieces hm ⟨by omega, by omega⟩) rfl rfl (Nat.le_of_ble_eq_true rfl) ⟨Nat.le_of_ble_eq_true rfl, Nat.le_of_ble_eq_true rfl⟩ rfl (Nat.le_of_ble_eq_true rfl) (fun σ' z2 x2 => ?_))))
      obtain ⟨hs_, x2⟩ := x2
      rw [hs_]; clear hs_ σ'
      refine ok_iret 18 rfl rfl rfl ?_
      exact ⟨_, rfl, rfl, trivial⟩
    · subst q_
      refine ok_tin 8 (len := 26) 58 rfl rfl (by decide) (by decide) rfl rfl ?_
      refine ok_aload_n 19 rfl rfl rfl (ok_getR 20 rfl rfl fl_X11_48 rfl rfl (ok_iload_n 21 rfl rfl rfl (ok_callVI (M' := M_Mi_countMoves) (as := [_]) 22 rfl rfl ml_X11_312 (s_Mi_countMoves hm ⟨by omega, by omega⟩) rfl rfl (Nat.le_of_ble_eq_true rfl) ⟨Nat.le_of_ble_eq_true rfl, Nat.le_of_ble_eq_true rfl⟩ rfl (Nat.le_of_ble_eq_true rfl) (fun σ' z2 x2 => ?_))))
      obtain ⟨hs_, x2⟩ := x2
      rw [hs_]; clear hs_ σ'
      refine ok_iret 23 rfl rfl rfl ?_
      exact ⟨_, rfl, rfl, trivial⟩
    · refine ok_tout 8 (len := 26) 67 rfl rfl q_ rfl ?_
      refine ok_iconst 24 rfl rfl (by decide) (ok_iret 25 rfl rfl rfl ?_)
      exact ⟨_, rfl, rfl, trivial⟩
  · refine ok_iconst 5 rfl rfl (by decide) (ok_iret 6 rfl rfl rfl ?_)
    exact ⟨_, rfl, rfl, trivial⟩
abbrev rgS1 : Nat → Int → Prop := fun c _ => c = 46 ∨ c = 47
theorem s_Sh_put {σ : eS} {z : Int} (h : iSh σ) : MtV shA M_Sh_put [vr 46, vi z] σ (fun σ' => fr rgS1 σ σ' ∧ iSh σ') := by
  refine Mt.of okM_Sh_put (Nat.le_of_ble_eq_true rfl) (fun hk hg => ?_)
  have h1 := h.1
  have h2 := h.2
  refine ok_aload_n 0 rfl rfl rfl (ok_getI 1 rfl rfl fl_X8_15 rfl rfl (Or.inl rfl) (ok_sipush 2 rfl rfl (by decide) (by decide) (ok_icmp_ge 3 30 rfl rfl rfl (fun h7 => ?_) (fun h7 => ?_))))
  · refine ok_vret 16 rfl rfl rfl ?_
    exact ⟨rfl, fr.rf, h⟩
  · refine ok_aload_n 4 rfl rfl rfl (ok_getR 5 rfl rfl fl_X8_11 rfl rfl (ok_aload_n 6 rfl rfl rfl (ok_getI 7 rfl rfl fl_X8_15 rfl rfl (Or.inl rfl) (ok_iload_n 8 rfl rfl rfl (ok_iast 9 rfl rfl rfl (by first | omega | (simp [up_if]; omega) | (simp [up_if] at *; omega)) (ok_aload_n 10 rfl rfl rfl (ok_dup 11 rfl rfl rfl (ok_getI 12 rfl rfl fl_X8_15 rfl rfl (Or.inl rfl) (ok_iconst 13 rfl rfl (by decide) (ok_iadd 14 rfl rfl (by first | omega | (simp [up_if]; omega) | (simp [up_if] at *; omega)) (ok_putI 15 rfl rfl fl_X8_15 rfl rfl rfl rfl (ok_vret 16 rfl rfl rfl ?_))))))))))))
    exact ⟨rfl, fr_up (fr_up fr.rf (by simp [rgS1])) (by simp [rgS1]), by simp [up_if]; omega, by simp [up_if]; omega⟩
theorem s_Sh_putNumber {σ : eS} {z : Int} (h : iSh σ) (hz : 0 ≤ z) : MtV shA M_Sh_putNumber [vr 46, vi z] σ (fun σ' => fr rgS1 σ σ' ∧ iSh σ') := by
  refine Mt.of okM_Sh_putNumber (Nat.le_of_ble_eq_true rfl) (fun hk hg => ?_)
  have hr : rg z := hk.2.1
  refine ok_iconst 0 rfl rfl (by decide) (ok_ist2 1 rfl rfl rfl (ok_iconst 2 rfl rfl (by decide) (ok_ist3 3 rfl rfl rfl ?_)))
  refine lpO2 (fun (v j : Int) => [some (vr 46), some (vi z), some (vi v), some (vi j)]) (fun _ _ => σ) (fun v j => 0 ≤ j ∧ j ≤ 9 ∧ 1 ≤ v ∧ v ≤ 2147483647) (fun _ j => (9 - j).toNat) ?_ 1 0 ⟨by omega, by omega, by omega, by omega⟩
  rintro v j ⟨j1, j2, v1, v2⟩ ih
  have tail : Ok shA M_Sh_putNumber 29 [some (vr 46), some (vi z), some (vi v), some (vi j)] [] σ (fun σ' v => v = none ∧ fr rgS1 σ σ' ∧ iSh σ') := by
    clear ih
    refine ok_iconst 18 rfl rfl (by decide) (ok_ist3 19 rfl rfl rfl ?_)
    refine lpO3 (fun (v j : Int) (_ : eS) => [some (vr 46), some (vi z), some (vi v), some (vi j)]) (fun _ _ ρ => ρ) (fun v j ρ => 0 ≤ j ∧ j ≤ 10 ∧ 0 ≤ v ∧ v ≤ 2147483647 ∧ fr rgS1 σ ρ ∧ iSh ρ) (fun _ j _ => (10 - j).toNat) ?_ v 0 σ ⟨by omega, by omega, by omega, by omega, fr.rf, h⟩
    clear j1 j2 v1 v2 v j
    rintro v j ρ ⟨j1, j2, v1, v2, f, h1⟩ ih
    refine ok_iload_n 20 rfl rfl rfl (ok_bipush 21 rfl rfl (by decide) (by decide) (ok_icmp_ge 22 65 rfl rfl rfl (fun h34 => ?_) (fun h34 => ?_)))
    · refine ok_vret 40 rfl rfl rfl ?_
      exact ⟨rfl, f, h1⟩
    · refine ok_iload_n 23 rfl rfl rfl (ok_if_le 24 65 rfl rfl rfl (fun h38 => ?_) (fun h38 => ?_))
      · refine ok_vret 40 rfl rfl rfl ?_
        exact ⟨rfl, f, h1⟩
      · have d : 0 ≤ z / v := Int.ediv_nonneg hz v1
        refine ok_aload_n 25 rfl rfl rfl (ok_bipush 26 rfl rfl (by decide) (by decide) (ok_iload_n 27 rfl rfl rfl (ok_iload_n 28 rfl rfl rfl (ok_idiv 29 rfl rfl (by first | omega | (simp [up_if]; omega) | (simp [up_if] at *; omega)) (by first | omega | (simp [up_if]; omega) | (simp [up_if] at *; omega)) (ok_bipush 30 rfl rfl (by decide) (by decide) (ok_irem 31 rfl rfl (by first | omega | (simp [up_if]; omega) | (simp [up_if] at *; omega)) (by first | omega | (simp [up_if]; omega) | (simp [up_if] at *; omega)) (ok_iadd 32 rfl rfl (by first | omega | (simp [up_if]; omega) | (simp [up_if] at *; omega)) (ok_callVV (M' := M_Sh_put) (as := [_]) 33 rfl rfl ml_X8_31 (s_Sh_put h1) rfl rfl (Nat.le_of_ble_eq_true rfl) ⟨Nat.le_of_ble_eq_true rfl, Nat.le_of_ble_eq_true rfl⟩ rfl (Nat.le_of_ble_eq_true rfl) (fun τ f1 => ?_)))))))))
        refine ok_iload_n 34 rfl rfl rfl (ok_bipush 35 rfl rfl (by decide) (by decide) (ok_idiv 36 rfl rfl (by first | omega | (simp [up_if]; omega) | (simp [up_if] at *; omega)) (by first | omega | (simp [up_if]; omega) | (simp [up_if] at *; omega)) (ok_ist2 37 rfl rfl rfl (ok_inc3 38 rfl rfl rfl (by first | omega | (simp [up_if]; omega) | (simp [up_if] at *; omega)) (ok_goto 39 31 rfl rfl rfl ?_)))))
        exact ih _ (j + 1) τ ⟨by omega, by omega, by omega, by omega, f.tr f1.1, f1.2⟩ (by omega)
  refine ok_iload_n 4 rfl rfl rfl (ok_bipush 5 rfl rfl (by decide) (by decide) (ok_icmp_ge 6 29 rfl rfl rfl (fun h7 => ?_) (fun h7 => ?_)))
  · exact tail
  · refine ok_iload_n 7 rfl rfl rfl (ok_iload_n 8 rfl rfl rfl (ok_idiv 9 rfl rfl (by first | omega | (simp [up_if]; omega) | (simp [up_if] at *; omega)) (by first | omega | (simp [up_if]; omega) | (simp [up_if] at *; omega)) (ok_bipush 10 rfl rfl (by decide) (by decide) (ok_icmp_le 11 29 rfl rfl rfl (fun h15 => ?_) (fun h15 => ?_)))))
    · exact tail
    · have m : v * 10 ≤ z := mul_le_div (by omega) (by omega)
      refine ok_iload_n 12 rfl rfl rfl (ok_bipush 13 rfl rfl (by decide) (by decide) (ok_imul 14 rfl rfl (by first | omega | (simp [up_if]; omega) | (simp [up_if] at *; omega)) (ok_ist2 15 rfl rfl rfl (ok_inc3 16 rfl rfl rfl (by first | omega | (simp [up_if]; omega) | (simp [up_if] at *; omega)) (ok_goto 17 4 rfl rfl rfl ?_)))))
      exact ih _ (j + 1) ⟨by omega, by omega, by omega, by omega⟩ (by omega)
theorem s_Sh_write {σ : eS} (hm : iMi σ) : MtV shA M_Sh_write [vr 46, vr 22] σ (fun σ' => fr rgS1 σ σ' ∧ iSh σ') := by
  refine Mt.of okM_Sh_write (Nat.le_of_ble_eq_true rfl) (fun hk hg => ?_)
  obtain ⟨⟨h1, h2, h3, h4, h5, h6, h7⟩, a, b, d⟩ := id hm
  refine ok_aload_n 0 rfl rfl rfl (ok_iconst 1 rfl rfl (by decide) (ok_putI 2 rfl rfl fl_X8_15 rfl rfl rfl rfl (ok_iconst 3 rfl rfl (by decide) (ok_ist2 4 rfl rfl rfl ?_))))
  refine lpO2 (fun (k : Int) (_ : eS) => [some (vr 46), some (vr 22), some (vi k), none]) (fun _ ρ => ρ) (fun k ρ => 0 ≤ k ∧ k ≤ 64 ∧ fr rgS1 σ ρ ∧ iSh ρ) (fun k _ => (64 - k).toNat) ?_ 0 _ ⟨by omega, by omega, fr_up fr.rf (by simp [rgS1]), by simp [up_if], by simp [up_if]⟩
  rintro k ρ ⟨k1, k2, f, hS⟩ ih
  have e5 : ρ 22 5 = σ 22 5 := f 22 5 (by simp [rgS1])
  refine ok_iload_n 5 rfl rfl rfl (ok_aload_n 6 rfl rfl rfl (ok_getI 7 rfl rfl fl_X8_19 rfl rfl (Or.inl rfl) (ok_icmp_ge 8 72 rfl rfl rfl (fun h12 => ?_) (fun h12 => ?_))))
  · refine ok_vret 39 rfl rfl rfl ?_
    exact ⟨rfl, f, hS⟩
  · have w0 := mi_bd hm k1 (by omega)
    rw [← f 23 k (by simp [rgS1])] at w0
    refine ok_aload_n 9 rfl rfl rfl (ok_aload_n 10 rfl rfl rfl (ok_getR 11 rfl rfl fl_X8_24 rfl rfl (ok_iload_n 12 rfl rfl rfl (ok_iald 13 rfl rfl rfl (by first | omega | (simp [up_if]; omega) | (simp [up_if] at *; omega)) (ok_callVV (M' := M_Sh_putNumber) (as := [_]) 14 rfl rfl ml_X8_27 (s_Sh_putNumber hS w0.1) rfl rfl (Nat.le_of_ble_eq_true rfl) ⟨Nat.le_of_ble_eq_true rfl, Nat.le_of_ble_eq_true rfl⟩ rfl (Nat.le_of_ble_eq_true rfl) (fun ρ1 f1 => ?_))))))
    refine ok_aload_n 15 rfl rfl rfl (ok_bipush 16 rfl rfl (by decide) (by decide) (ok_callVV (M' := M_Sh_put) (as := [_]) 17 rfl rfl ml_X8_31 (s_Sh_put f1.2) rfl rfl (Nat.le_of_ble_eq_true rfl) ⟨Nat.le_of_ble_eq_true rfl, Nat.le_of_ble_eq_true rfl⟩ rfl (Nat.le_of_ble_eq_true rfl) (fun ρ2 f2 => ?_)))
    refine ok_iconst 18 rfl rfl (by decide) (ok_ist3 19 rfl rfl rfl ?_)
    have f3 := (f.tr f1.1).tr f2.1
    refine lpO2 (fun (j : Int) (_ : eS) => [some (vr 46), some (vr 22), some (vi k), some (vi j)]) (fun _ ρ => ρ) (fun j ρ => 0 ≤ j ∧ j ≤ 8 ∧ fr rgS1 σ ρ ∧ iSh ρ) (fun j _ => (8 - j).toNat) ?_ 0 ρ2 ⟨by omega, by omega, f3, f2.2⟩
    have kl : k < 64 := by omega
    clear f3 f2 ρ2 w0 e5 h12 f1 ρ1 f hS ρ
    rintro j ρ ⟨j1, j2, f, hS⟩ ih2
    have e4 : ρ 22 4 = σ 22 4 := f 22 4 (by simp [rgS1])
    refine ok_iload_n 20 rfl rfl rfl (ok_aload_n 21 rfl rfl rfl (ok_getI 22 rfl rfl fl_X8_34 rfl rfl (Or.inl rfl) (ok_icmp_ge 23 60 rfl rfl rfl (fun h38 => ?_) (fun h38 => ?_))))
    · refine ok_aload_n 34 rfl rfl rfl (ok_bipush 35 rfl rfl (by decide) (by decide) (ok_callVV (M' := M_Sh_put) (as := [_]) 36 rfl rfl ml_X8_31 (s_Sh_put hS) rfl rfl (Nat.le_of_ble_eq_true rfl) ⟨Nat.le_of_ble_eq_true rfl, Nat.le_of_ble_eq_true rfl⟩ rfl (Nat.le_of_ble_eq_true rfl) (fun ρ1 f1 => ?_)))
      refine ok_inc2 37 rfl rfl rfl (by first | omega | (simp [up_if]; omega) | (simp [up_if] at *; omega)) (ok_goto 38 7 rfl rfl rfl ?_)
      exact ok_fg [some (vr 46), some (vr 22), some (vi (k + 1)), none] ⟨rfl, rfl, rfl, trivial⟩ (ih (k + 1) ρ1 ⟨by omega, by omega, f.tr f1.1, f1.2⟩ (by omega))
    · refine ok_aload_n 24 rfl rfl rfl (ok_bipush 25 rfl rfl (by decide) (by decide) (ok_aload_n 26 rfl rfl rfl (ok_iload_n 27 rfl rfl rfl (ok_iload_n 28 rfl rfl rfl (ok_callVI (M' := M_Mi_columnOf) (as := [_, _]) 29 rfl rfl ml_X8_37 (s_Mi_columnOf (iMi_cg hm (fun c k a b => f c k (by simp only [rgS1]; omega))) ⟨k1, kl⟩ ⟨j1, by omega⟩) rfl rfl (Nat.le_of_ble_eq_true rfl) ⟨Nat.le_of_ble_eq_true rfl, Nat.le_of_ble_eq_true rfl⟩ rfl (Nat.le_of_ble_eq_true rfl) (fun σ' z hz => ?_))))))
      obtain ⟨hs_, hz⟩ := hz
      rw [hs_]; clear hs_ σ'
      refine ok_iadd 30 rfl rfl (by first | omega | (simp [up_if]; omega) | (simp [up_if] at *; omega)) (ok_callVV (M' := M_Sh_put) (as := [_]) 31 rfl rfl ml_X8_31 (s_Sh_put hS) rfl rfl (Nat.le_of_ble_eq_true rfl) ⟨Nat.le_of_ble_eq_true rfl, Nat.le_of_ble_eq_true rfl⟩ rfl (Nat.le_of_ble_eq_true rfl) (fun ρ1 f1 => ?_))
      refine ok_inc3 32 rfl rfl rfl (by first | omega | (simp [up_if]; omega) | (simp [up_if] at *; omega)) (ok_goto 33 33 rfl rfl rfl ?_)
      exact ih2 (j + 1) ρ1 ⟨by omega, by omega, f.tr f1.1, f1.2⟩ (by omega)
/-- what was shown changes -/
def QAw (σ σ' : eS) : Prop := IA σ' ∧ tpS σ σ' ∧ tbS σ σ' ∧ miS σ σ' ∧ mkS 20000 σ σ'
theorem s_Ev_show {σ : eS} (h : IA σ) : MtI shA M_Ev_show [vr 0] σ (fun σ' _ => QAw σ σ') := by
  refine Mt.of okM_Ev_show (Nat.le_of_ble_eq_true rfl) (fun hk hg => ?_)
  refine ok_aload_n 0 rfl rfl rfl (ok_getR 1 rfl rfl fl_X11_69 rfl rfl (ok_aload_n 2 rfl rfl rfl (ok_getR 3 rfl rfl fl_X11_48 rfl rfl (ok_callVV (M' := M_Sh_write) (as := [_]) 4 rfl rfl ml_X11_286 (s_Sh_write h.2.2.2.1) rfl rfl (Nat.le_of_ble_eq_true rfl) ⟨Nat.le_of_ble_eq_true rfl, Nat.le_of_ble_eq_true rfl⟩ rfl (Nat.le_of_ble_eq_true rfl) (fun τ f => ?_)))))
  refine ok_aload_n 5 rfl rfl rfl (ok_getR 6 rfl rfl fl_X11_69 rfl rfl (ok_getI 7 rfl rfl fl_X11_290 rfl rfl (Or.inl rfl) (ok_iret 8 rfl rfl rfl ?_)))
  refine ⟨_, rfl, ⟨?_, iTs_cg h.2.1 (fun c k a b d => f.1 c k (by simp only [rgS1]; omega)), iCh_cg h.2.2.1 (fun k => f.1 _ k (by simp [rgS1])), iMi_cg h.2.2.2.1 (fun c k a b => f.1 c k (by simp only [rgS1]; omega)), f.2, iSu_cg h.2.2.2.2.2 (fun k => f.1 _ k (by simp [rgS1]))⟩, ⟨fun k => f.1 _ k (by simp [rgS1]), fun k => f.1 _ k (by simp [rgS1])⟩, fun c k a b d => f.1 c k (by simp only [rgS1]; omega), fun c k a b => f.1 c k (by simp only [rgS1]; omega), mkS_fr (by decide) f.1 (by simp [rgS1]) (fun k => by simp [rgS1])⟩
  unfold tL
  rw [f.1 10 3 (by simp [rgS1])]
  exact h.1
end
section
/-! peelers -/
def pP (p q : Nat) : Prop := (p = 20 ∧ q = 21) ∨ (p = 30 ∧ q = 35) ∨ (p = 31 ∧ q = 36) ∨ (p = 32 ∧ q = 37) ∨ (p = 33 ∧ q = 38) ∨ (p = 34 ∧ q = 39)
theorem sP {p q : Nat} (h : pP p q) : nth shA p = some (0, 3, [16 + 3, q + 3, 0, 0, 0, 0]) := by rcases h with ⟨a, b⟩ | ⟨a, b⟩ | ⟨a, b⟩ | ⟨a, b⟩ | ⟨a, b⟩ | ⟨a, b⟩ <;> subst a <;> subst b <;> rfl
theorem sQ {p q : Nat} (h : pP p q) : nth shA q = some (1, 64, []) := by rcases h with ⟨a, b⟩ | ⟨a, b⟩ | ⟨a, b⟩ | ⟨a, b⟩ | ⟨a, b⟩ | ⟨a, b⟩ <;> subst b <;> rfl
theorem pP_n {p q : Nat} (h : pP p q) : ((p = 20 ∧ q = 21) ∨ (30 ≤ p ∧ p ≤ 34 ∧ 35 ≤ q ∧ q ≤ 39)) ∧ p ≠ q ∧ p < q ∧ 20 ≤ p ∧ 21 ≤ q := by unfold pP at h; omega
def iPe (σ : eS) (p q : Nat) : Prop := (0 ≤ σ p 2 ∧ σ p 2 ≤ 8) ∧ ∀ k : Int, 0 ≤ k → k < 64 → 0 ≤ σ q k
theorem iPe_cg {σ τ : eS} {p q : Nat} (h : iPe σ p q) (e : τ p 2 = σ p 2) (e2 : ∀ k, τ q k = σ q k) : iPe τ p q := by
  unfold iPe
  rw [e]
  exact ⟨h.1, fun k a b => by rw [e2]; exact h.2 k a b⟩
theorem s_Ja_fill {σ : eS} {c N : Nat} {v : Int} (hs : nth shA c = some (1, N, [])) (hN : N ≤ 400) : MtV shA M_Ja_fill [vr c, vi v] σ (fun σ' => fr (fun x _ => x = c) σ σ' ∧ ∀ k : Int, 0 ≤ k → k < N → σ' c k = v) := by
  refine Mt.of okM_Ja_fill (Nat.le_of_ble_eq_true rfl) (fun hk hg => ?_)
  refine ok_iconst 0 rfl rfl (by decide) (ok_ist2 1 rfl rfl rfl (ok_aload_n 2 rfl rfl rfl (ok_alen 3 rfl rfl hs rfl rfl (by omega) (ok_ist3 4 rfl rfl rfl ?_))))
  refine lpO2 (fun (i : Int) (_ : eS) => [some (vr c), some (vi v), some (vi i), some (vi (N : Int))]) (fun _ ρ => ρ) (fun i ρ => 0 ≤ i ∧ i ≤ N ∧ fr (fun x _ => x = c) σ ρ ∧ ∀ k, 0 ≤ k → k < i → ρ c k = v) (fun i _ => (400 - i).toNat) ?_ 0 σ ⟨by omega, by omega, fr.rf, fun k a b => by omega⟩
  rintro i ρ ⟨i1, i2, f, hv⟩ ih
  refine ok_iload_n 5 rfl rfl rfl (ok_iload_n 6 rfl rfl rfl (ok_icmp_ge 7 20 rfl rfl rfl (fun h7 => ?_) (fun h7 => ?_)))
  · refine ok_vret 14 rfl rfl rfl ?_
    exact ⟨rfl, f, fun k a b => hv k a (by omega)⟩
  · refine ok_aload_n 8 rfl rfl rfl (ok_iload_n 9 rfl rfl rfl (ok_iload_n 10 rfl rfl rfl (ok_iast 11 rfl rfl hs (by first | omega | (simp [up_if]; omega) | (simp [up_if] at *; omega)) (ok_inc2 12 rfl rfl rfl (by first | omega | (simp [up_if]; omega) | (simp [up_if] at *; omega)) (ok_goto 13 5 rfl rfl rfl ?_)))))
    refine ih (i + 1) _ ⟨by omega, by omega, fr_up f rfl, up_to (fun k a b => ?_) (up_same _ _ _ _)⟩ (by omega)
    rw [up_nk _ _ _ _ (by omega)]
    exact hv k a b
theorem fr_cp {P : Nat → Int → Prop} {σ : eS} {c0 c1 : Nat} {sp dp n : Int} (h : ∀ k, dp ≤ k → k < dp + n → P c1 k) : fr P σ (cp σ c0 sp c1 dp n) := fun c k q => by
  unfold cp
  rw [if_neg]
  intro w
  exact q (by rw [w.1]; exact h k w.2.1 w.2.2)
abbrev rgP0 (p q : Nat) : Nat → Int → Prop := fun c k => (c = p ∧ 2 ≤ k ∧ k ≤ 5) ∨ c = q
theorem s_Pe_startTable {σ : eS} {p q t : Nat} (hp : pP p q) (ht : tA t) (hT : iT σ t) : MtV shA M_Pe_startTable [vr p, vr t] σ (fun σ' => fr (rgP0 p q) σ σ' ∧ iPe σ' p q ∧ σ' p 2 = σ t 1 ∧ σ' p 3 = σ t 3) := by
  refine Mt.of okM_Pe_startTable (Nat.le_of_ble_eq_true rfl) (fun hk hg => ?_)
  obtain ⟨n0, n1, n2, n3, n4⟩ := pP_n hp
  have nA := tA_10 ht
  obtain ⟨τ, eτ⟩ : ∃ τ, τ = cp σ (t + 4) 0 q 0 64 := ⟨_, rfl⟩
  have f : fr (fun c _ => c = q) σ τ := by rw [eτ]; exact fr_cp (fun k _ _ => rfl)
  have e : ∀ k, 0 ≤ k → k < 64 → τ q k = σ (t + 4) k := fun k a b => by rw [eτ]; unfold cp; rw [if_pos ⟨rfl, by omega, by omega⟩]; congr 1; omega
  have e1 : τ t 1 = σ t 1 := f t 1 (by omega)
  have e3 : τ t 3 = σ t 3 := f t 3 (by omega)
  refine ok_aload_n 0 rfl rfl rfl (ok_getR 1 rfl rfl fl_X5_32 (sT ht) rfl (ok_iconst 2 rfl rfl (by decide) (ok_aload_n 3 rfl rfl rfl (ok_getR 4 rfl rfl fl_X5_9 (sP hp) rfl (ok_iconst 5 rfl rfl (by decide) (ok_bipush 6 rfl rfl (by decide) (by decide) (ok_copy 7 rfl rfl (wd3 104 rfl rfl) ⟨Nat.le_of_ble_eq_true rfl, Nat.le_of_ble_eq_true rfl⟩ (sC ht) (sQ hp) (by decide) (by decide) (by decide) (by decide) (by decide) ?_)))))))
  rw [← eτ]
  refine ok_aload_n 8 rfl rfl rfl (ok_aload_n 9 rfl rfl rfl (ok_getI 10 rfl rfl fl_X5_41 (sT ht) rfl (Or.inl rfl) (ok_putI 11 rfl rfl fl_X5_15 (sP hp) rfl rfl rfl (ok_aload_n 12 rfl rfl rfl (ok_aload_n 13 rfl rfl rfl (ok_getI 14 rfl rfl fl_X5_42 (sT ht) rfl (Or.inl rfl) (ok_putI 15 rfl rfl fl_X5_19 (sP hp) rfl rfl rfl (ok_aload_n 16 rfl rfl rfl (ok_iconst 17 rfl rfl (by decide) (ok_putI 18 rfl rfl fl_X5_22 (sP hp) rfl rfl rfl (ok_vret 19 rfl rfl rfl ?_)))))))))))
  refine ⟨rfl, fr_up (fr_up (fr_up (f.mono (fun c k w => Or.inr w)) (by simp [rgP0])) (by simp [rgP0])) (by simp [rgP0]), ⟨?_, fun k a b => ?_⟩, ?_, ?_⟩
  · rw [up_nk _ _ _ _ (by decide), up_nk _ _ _ _ (by decide), up_same, e1]; exact ⟨hT.1, hT.2.1⟩
  · rw [up_ne _ _ _ _ (Ne.symm n1), up_ne _ _ _ _ (Ne.symm n1), up_ne _ _ _ _ (Ne.symm n1), e k a b]; exact (hT.2.2.2 k a b).1
  · rw [up_nk _ _ _ _ (by decide), up_nk _ _ _ _ (by decide), up_same, e1]
  · rw [up_nk _ _ _ _ (by decide), up_same, up_ne _ _ _ _ (by omega), e3]
theorem s_Pe_startLike {σ : eS} {p q p' q' : Nat} (hp : pP p q) (hp' : pP p' q') (hne : p' ≠ p) (hne2 : q' ≠ q) (h : iPe σ p' q') : MtV shA M_Pe_startLike [vr p, vr p'] σ (fun σ' => fr (rgP0 p q) σ σ' ∧ iPe σ' p q ∧ σ' p 2 = σ p' 2 ∧ σ' p 3 = σ p' 3) := by
  refine Mt.of okM_Pe_startLike (Nat.le_of_ble_eq_true rfl) (fun hk hg => ?_)
  obtain ⟨n0, n1, n2, n3, n4⟩ := pP_n hp
  obtain ⟨m0, m1, m2, m3, m4⟩ := pP_n hp'
  obtain ⟨τ, eτ⟩ : ∃ τ, τ = cp σ q' 0 q 0 64 := ⟨_, rfl⟩
  have f : fr (fun c _ => c = q) σ τ := by rw [eτ]; exact fr_cp (fun k _ _ => rfl)
  have e : ∀ k, 0 ≤ k → k < 64 → τ q k = σ q' k := fun k a b => by rw [eτ]; unfold cp; rw [if_pos ⟨rfl, by omega, by omega⟩]; congr 1; omega
  have e1 : τ p' 2 = σ p' 2 := f p' 2 (by omega)
  have e3 : τ p' 3 = σ p' 3 := f p' 3 (by omega)
  refine ok_aload_n 0 rfl rfl rfl (ok_getR 1 rfl rfl fl_X5_9 (sP hp') rfl (ok_iconst 2 rfl rfl (by decide) (ok_aload_n 3 rfl rfl rfl (ok_getR 4 rfl rfl fl_X5_9 (sP hp) rfl (ok_iconst 5 rfl rfl (by decide) (ok_bipush 6 rfl rfl (by decide) (by decide) (ok_copy 7 rfl rfl (wd3 104 rfl rfl) ⟨Nat.le_of_ble_eq_true rfl, Nat.le_of_ble_eq_true rfl⟩ (sQ hp') (sQ hp) (by decide) (by decide) (by decide) (by decide) (by decide) ?_)))))))
  rw [← eτ]
  refine ok_aload_n 8 rfl rfl rfl (ok_aload_n 9 rfl rfl rfl (ok_getI 10 rfl rfl fl_X5_15 (sP hp') rfl (Or.inl rfl) (ok_putI 11 rfl rfl fl_X5_15 (sP hp) rfl rfl rfl (ok_aload_n 12 rfl rfl rfl (ok_aload_n 13 rfl rfl rfl (ok_getI 14 rfl rfl fl_X5_19 (sP hp') rfl (Or.inl rfl) (ok_putI 15 rfl rfl fl_X5_19 (sP hp) rfl rfl rfl (ok_aload_n 16 rfl rfl rfl (ok_aload_n 17 rfl rfl rfl (ok_getI 18 rfl rfl fl_X5_22 (sP hp') rfl (Or.inl rfl) (ok_putI 19 rfl rfl fl_X5_22 (sP hp) rfl rfl rfl (ok_vret 20 rfl rfl rfl ?_))))))))))))
  refine ⟨rfl, fr_up (fr_up (fr_up (f.mono (fun c k w => Or.inr w)) (by simp [rgP0])) (by simp [rgP0])) (by simp [rgP0]), ⟨?_, fun k a b => ?_⟩, ?_, ?_⟩
  · rw [up_nk _ _ _ _ (by decide), up_nk _ _ _ _ (by decide), up_same, e1]; exact h.1
  · rw [up_ne _ _ _ _ (Ne.symm n1), up_ne _ _ _ _ (Ne.symm n1), up_ne _ _ _ _ (Ne.symm n1), e k a b]; exact h.2 k a b
  · rw [up_nk _ _ _ _ (by decide), up_nk _ _ _ _ (by decide), up_same, e1]
  · rw [up_nk _ _ _ _ (by decide), up_same, up_ne _ _ _ _ hne, e3]
theorem s_Pe_leastPlace {σ : eS} {p q : Nat} (hp : pP p q) (h : iPe σ p q) : MtI shA M_Pe_leastPlace [vr p] σ (fun σ' z => σ' = σ ∧ 0 ≤ z ∧ z < 64) := by
  refine Mt.of okM_Pe_leastPlace (Nat.le_of_ble_eq_true rfl) (fun hk hg => ?_)
  have n1 := h.1.1
  have n2 := h.1.2
  refine ok_iconst 0 rfl rfl (by decide) (ok_ist1 1 rfl rfl rfl (ok_aload_n 2 rfl rfl rfl (ok_getI 3 rfl rfl fl_X5_19 (sP hp) rfl (Or.inl rfl) (ok_iconst 4 rfl rfl (by decide) (ok_iaddW 5 rfl rfl (ok_ist2 6 rfl rfl rfl (ok_iconst 7 rfl rfl (by decide) (ok_ist3 8 rfl rfl rfl ?_))))))))
  refine lpO3 (fun v l i : Int => [some (vr p), some (vi v), some (vi l), some (vi i), none, none]) (fun _ _ _ => σ) (fun v _ i => 0 ≤ i ∧ i ≤ 8 ∧ 0 ≤ v ∧ v < 64) (fun _ _ i => (8 - i).toNat) ?_ 0 _ 0 ⟨by omega, by omega, by omega, by omega⟩
  rintro v l i ⟨i1, i2, v1, v2⟩ ih
  refine ok_iload_n 9 rfl rfl rfl (ok_aload_n 10 rfl rfl rfl (ok_getI 11 rfl rfl fl_X5_15 (sP hp) rfl (Or.inl rfl) (ok_icmp_ge 12 79 rfl rfl rfl (fun h16 => ?_) (fun h16 => ?_))))
  · refine ok_iload_n 45 rfl rfl rfl (ok_iret 46 rfl rfl rfl ?_)
    exact ⟨_, rfl, rfl, v1, v2⟩
  · refine ok_iconst 13 rfl rfl (by decide) (ok_ist4 14 rfl rfl rfl ?_)
    refine lpO3 (fun v l j : Int => [some (vr p), some (vi v), some (vi l), some (vi i), some (vi j), none]) (fun _ _ _ => σ) (fun v _ j => 0 ≤ j ∧ j ≤ 8 ∧ 0 ≤ v ∧ v < 64) (fun _ _ j => (8 - j).toNat) ?_ v l 0 ⟨by omega, by omega, v1, v2⟩
    clear v1 v2 l v
    rintro v l j ⟨j1, j2, v1, v2⟩ ih2
    refine ok_iload 15 rfl rfl rfl (ok_aload_n 16 rfl rfl rfl (ok_getI 17 rfl rfl fl_X5_15 (sP hp) rfl (Or.inl rfl) (ok_icmp_ge 18 73 rfl rfl rfl (fun h28 => ?_) (fun h28 => ?_))))
    · refine ok_inc3 43 rfl rfl rfl (by first | omega | (simp [up_if]; omega) | (simp [up_if] at *; omega)) (ok_goto 44 11 rfl rfl rfl ?_)
      exact ok_fg [some (vr p), some (vi _), some (vi _), some (vi (i + 1)), none, none] ⟨rfl, rfl, rfl, rfl, trivial⟩ (ih _ _ (i + 1) ⟨by omega, by omega, v1, v2⟩ (by omega))
    · refine ok_aload_n 19 rfl rfl rfl (ok_getR 20 rfl rfl fl_X5_9 (sP hp) rfl (ok_iload_n 21 rfl rfl rfl (ok_bipush 22 rfl rfl (by decide) (by decide) (ok_imul 23 rfl rfl (by first | omega | (simp [up_if]; omega) | (simp [up_if] at *; omega)) (ok_iload 24 rfl rfl rfl (ok_iadd 25 rfl rfl (by first | omega | (simp [up_if]; omega) | (simp [up_if] at *; omega)) (ok_iald 26 rfl rfl (sQ hp) (by first | omega | (simp [up_if]; omega) | (simp [up_if] at *; omega)) (ok_ist5 27 rfl rfl rfl (ok_iload 28 rfl rfl rfl (ok_if_le 29 67 rfl rfl rfl (fun h47 => ?_) (fun h47 => ?_)))))))))))
      · refine ok_inc4 41 rfl rfl rfl (by first | omega | (simp [up_if]; omega) | (simp [up_if] at *; omega)) (ok_goto 42 22 rfl rfl rfl ?_)
        exact ok_fg [some (vr p), some (vi _), some (vi _), some (vi i), some (vi (j + 1)), none] ⟨rfl, rfl, rfl, rfl, rfl, trivial⟩ (ih2 _ _ (j + 1) ⟨by omega, by omega, by omega, by omega⟩ (by omega))
      · refine ok_iload 30 rfl rfl rfl (ok_iload_n 31 rfl rfl rfl (ok_icmp_ge 32 67 rfl rfl rfl (fun h53 => ?_) (fun h53 => ?_)))
        · refine ok_inc4 41 rfl rfl rfl (by first | omega | (simp [up_if]; omega) | (simp [up_if] at *; omega)) (ok_goto 42 22 rfl rfl rfl ?_)
          exact ok_fg [some (vr p), some (vi _), some (vi _), some (vi i), some (vi (j + 1)), none] ⟨rfl, rfl, rfl, rfl, rfl, trivial⟩ (ih2 _ _ (j + 1) ⟨by omega, by omega, by omega, by omega⟩ (by omega))
        · refine ok_iload 33 rfl rfl rfl (ok_ist2 34 rfl rfl rfl (ok_iload_n 35 rfl rfl rfl (ok_bipush 36 rfl rfl (by decide) (by decide) (ok_imul 37 rfl rfl (by first | omega | (simp [up_if]; omega) | (simp [up_if] at *; omega)) (ok_iload 38 rfl rfl rfl (ok_iadd 39 rfl rfl (by first | omega | (simp [up_if]; omega) | (simp [up_if] at *; omega)) (ok_ist1 40 rfl rfl rfl (ok_inc4 41 rfl rfl rfl (by first | omega | (simp [up_if]; omega) | (simp [up_if] at *; omega)) (ok_goto 42 22 rfl rfl rfl ?_)))))))))
          exact ok_fg [some (vr p), some (vi _), some (vi _), some (vi i), some (vi (j + 1)), none] ⟨rfl, rfl, rfl, rfl, rfl, trivial⟩ (ih2 _ _ (j + 1) ⟨by omega, by omega, by omega, by omega⟩ (by omega))
theorem s_Pe_choose {σ : eS} {p q : Nat} {r : Int} (hp : pP p q) (h : iPe σ p q) (hC : iCh σ) : MtI shA M_Pe_choose [vr p, vi r] σ (fun σ' z => fr rgCh σ σ' ∧ iCh σ' ∧ (z = 0 ∨ z = 1) ∧ mkS 1 σ σ') := by
  refine Mt.of okM_Pe_choose (Nat.le_of_ble_eq_true rfl) (fun hk hg => ?_)
  obtain ⟨n0, n1, n2, n3, n4⟩ := pP_n hp
  have hn := h.1
  refine ok_aload_n 0 rfl rfl rfl (ok_getR 1 rfl rfl fl_X5_9 (sP hp) rfl (ok_aload_n 2 rfl rfl rfl (ok_getI 3 rfl rfl fl_X5_15 (sP hp) rfl (Or.inl rfl) (ok_iconst 4 rfl rfl (by decide) (ok_callSL (M' := M_Jo_of) (as := [_, _, _]) 5 rfl rfl ml_X5_77 (s_Jo_of (sQ hp) hn.2) ⟨Nat.le_of_ble_eq_true rfl, Nat.le_of_ble_eq_true rfl⟩ rfl (Nat.le_of_ble_eq_true rfl) (fun σ' J hJ => ?_))))))
  obtain ⟨hs_, hJ⟩ := hJ
  rw [hs_]; clear hs_ σ'
  refine ok_lst2 6 rfl rfl rfl (ok_iload_n 7 rfl rfl rfl ?_)
  rcases (by omega : r = 1 ∨ r = 2 ∨ r = 3 ∨ (r < 1 ∨ 3 < r)) with q_ | q_ | q_ | q_
  · subst q_
    refine ok_tin 8 (len := 26) 40 rfl rfl (by decide) (by decide) rfl rfl ?_
    refine ok_aload_n 9 rfl rfl rfl (ok_getR 10 rfl rfl fl_X5_28 (sP hp) rfl (ok_aload_n 11 rfl rfl rfl (ok_getR 12 rfl rfl fl_X5_9 (sP hp) rfl (ok_lload_n 13 rfl rfl rfl (ok_aload_n 14 rfl rfl rfl (ok_getI 15 rfl rfl fl_X5_15 (sP hp) rfl (Or.inl rfl) (ok_callVL (M' := M_Ch_greatestLeast) (as := [_, _, _]) 16 rfl rfl ml_X5_83 (s_Ch_greatestLeast (sQ hp) hn) rfl rfl (Nat.le_of_ble_eq_true rfl) ⟨Nat.le_of_ble_eq_true rfl, Nat.le_of_ble_eq_true rfl⟩ rfl (Nat.le_of_ble_eq_true rfl) (fun τ g f => ?_))))))))
    have f0 : fr rgCh σ τ := f.mono (fun c k w => by simp only [rgCh]; omega)
    have hC0 : iCh τ := iCh_cg hC (fun k => f _ _ (by simp))
    have hn0 : τ p 2 = σ p 2 := f _ _ (by omega)
    have m0 : mkS 0 σ τ := mkS_fr (by decide) f (by omega) (fun k => by omega)
    refine ok_l2iW 17 rfl rfl (ok_ist4 18 rfl rfl rfl (ok_iload 19 rfl rfl rfl (ok_if_le 20 95 rfl rfl rfl (fun h61 => ?_) (fun h61 => ?_))))
    · refine ok_iconst 35 rfl rfl (by decide) (ok_zret 36 rfl rfl rfl (by first | omega | (simp [up_if]; omega) | (simp [up_if] at *; omega)) ?_)
      exact ⟨_, rfl, f0, hC0, Or.inl rfl, m0.mono (by decide)⟩
    · refine ok_aload_n 21 rfl rfl rfl (ok_getR 22 rfl rfl fl_X5_28 (sP hp) rfl (ok_aload_n 23 rfl rfl rfl (ok_getR 24 rfl rfl fl_X5_9 (sP hp) rfl (ok_aload_n 25 rfl rfl rfl (ok_getI 26 rfl rfl fl_X5_15 (sP hp) rfl (Or.inl rfl) (ok_iload 27 rfl rfl rfl (ok_callSL (M' := M_Jo_of) (as := [_, _, _]) 28 rfl rfl ml_X5_77 (s_Jo_of (sQ hp) (by omega)) ⟨Nat.le_of_ble_eq_true rfl, Nat.le_of_ble_eq_true rfl⟩ rfl (Nat.le_of_ble_eq_true rfl) (fun σ' J2 hJ2 => ?_))))))))
      obtain ⟨hs_, hJ2⟩ := hJ2
      rw [hs_]; clear hs_ σ'
      refine ok_aload_n 29 rfl rfl rfl (ok_getI 30 rfl rfl fl_X5_15 (sP hp) rfl (Or.inl rfl) (ok_callVI (M' := M_Ch_findFirst) (as := [_, _]) 31 rfl rfl ml_X5_87 (s_Ch_findFirst hC0 ⟨by omega, by omega⟩) rfl rfl (Nat.le_of_ble_eq_true rfl) ⟨Nat.le_of_ble_eq_true rfl, Nat.le_of_ble_eq_true rfl⟩ rfl (Nat.le_of_ble_eq_true rfl) (fun τ2 z2 f2 => ?_)))
      refine ok_if_eq 32 95 rfl rfl rfl (fun h88 => ?_) (fun h88 => ?_)
      · refine ok_iconst 35 rfl rfl (by decide) (ok_zret 36 rfl rfl rfl (by first | omega | (simp [up_if]; omega) | (simp [up_if] at *; omega)) ?_)
        exact ⟨_, rfl, f0.tr f2.1, f2.2.1, by omega, (m0.tr f2.2.2.2 (by decide) (by decide)).mono (by decide)⟩
      · refine ok_iconst 33 rfl rfl (by decide) (ok_goto 34 96 rfl rfl rfl (ok_zret 36 rfl rfl rfl (by first | omega | (simp [up_if]; omega) | (simp [up_if] at *; omega)) ?_))
        exact ⟨_, rfl, f0.tr f2.1, f2.2.1, by omega, (m0.tr f2.2.2.2 (by decide) (by decide)).mono (by decide)⟩
  · subst q_
    refine ok_tin 8 (len := 26) 97 rfl rfl (by decide) (by decide) rfl rfl ?_
    refine ok_aload_n 37 rfl rfl rfl (ok_callVI (M' := M_Pe_leastPlace) (as := []) 38 rfl rfl ml_X5_91 (s_Pe_leastPlace hp h) (sP hp) rfl (Nat.le_of_ble_eq_true rfl) ⟨Nat.le_of_ble_eq_true rfl, Nat.le_of_ble_eq_true rfl⟩ rfl (Nat.le_of_ble_eq_true rfl) (fun σ' k hk1 => ?_))
    obtain ⟨hs_, hk1⟩ := hk1
    rw [hs_]; clear hs_ σ'
    refine ok_ist5 39 rfl rfl rfl (ok_aload_n 40 rfl rfl rfl (ok_getR 41 rfl rfl fl_X5_28 (sP hp) rfl (ok_lload_n 42 rfl rfl rfl (ok_iload 43 rfl rfl rfl (ok_bipush 44 rfl rfl (by decide) (by decide) (ok_idiv 45 rfl rfl (by first | omega | (simp [up_if]; omega) | (simp [up_if] at *; omega)) (by first | omega | (simp [up_if]; omega) | (simp [up_if] at *; omega)) (ok_iload 46 rfl rfl rfl (ok_bipush 47 rfl rfl (by decide) (by decide) (ok_irem 48 rfl rfl (by first | omega | (simp [up_if]; omega) | (simp [up_if] at *; omega)) (by first | omega | (simp [up_if]; omega) | (simp [up_if] at *; omega)) (ok_callSL (M' := M_Jo_through) (as := [_, _, _]) 49 rfl rfl ml_X5_94 (s_Jo_through) ⟨Nat.le_of_ble_eq_true rfl, Nat.le_of_ble_eq_true rfl⟩ rfl (Nat.le_of_ble_eq_true rfl) (fun σ' J3 hJ3 => ?_)))))))))))
    obtain ⟨hs_, hJ3⟩ := hJ3
    rw [hs_]; clear hs_ σ'
    refine ok_aload_n 50 rfl rfl rfl (ok_getI 51 rfl rfl fl_X5_15 (sP hp) rfl (Or.inl rfl) (ok_callVI (M' := M_Ch_findFirst) (as := [_, _]) 52 rfl rfl ml_X5_87 (s_Ch_findFirst hC hn) rfl rfl (Nat.le_of_ble_eq_true rfl) ⟨Nat.le_of_ble_eq_true rfl, Nat.le_of_ble_eq_true rfl⟩ rfl (Nat.le_of_ble_eq_true rfl) (fun τ2 z2 f2 => ?_)))
    refine ok_zret 53 rfl rfl rfl f2.2.2.1 ?_
    exact ⟨_, rfl, f2⟩
  · subst q_
    refine ok_tin 8 (len := 26) 129 rfl rfl (by decide) (by decide) rfl rfl ?_
    refine ok_aload_n 54 rfl rfl rfl (ok_getR 55 rfl rfl fl_X5_28 (sP hp) rfl (ok_aload_n 56 rfl rfl rfl (ok_getR 57 rfl rfl fl_X5_9 (sP hp) rfl (ok_lload_n 58 rfl rfl rfl (ok_aload_n 59 rfl rfl rfl (ok_getI 60 rfl rfl fl_X5_15 (sP hp) rfl (Or.inl rfl) (ok_callVL (M' := M_Ch_findRichest) (as := [_, _, _]) 61 rfl rfl ml_X5_98 (s_Ch_findRichest (sQ hp) hC hn) rfl rfl (Nat.le_of_ble_eq_true rfl) ⟨Nat.le_of_ble_eq_true rfl, Nat.le_of_ble_eq_true rfl⟩ rfl (Nat.le_of_ble_eq_true rfl) (fun τ2 z2 f2 => ?_))))))))
    refine ok_ldc2 62 (-1) rfl rfl kc_X5_101 (by decide) (ok_lcmp_eq 63 64 156 rfl rfl rfl rfl rfl (fun h148 => ?_) (fun h148 => ?_))
    · refine ok_iconst 67 rfl rfl (by decide) (ok_zret 68 rfl rfl rfl (by first | omega | (simp [up_if]; omega) | (simp [up_if] at *; omega)) ?_)
      exact ⟨_, rfl, f2.1, f2.2.1, by omega, f2.2.2.mono (by decide)⟩
    · refine ok_iconst 65 rfl rfl (by decide) (ok_goto 66 157 rfl rfl rfl (ok_zret 68 rfl rfl rfl (by first | omega | (simp [up_if]; omega) | (simp [up_if] at *; omega)) ?_))
      exact ⟨_, rfl, f2.1, f2.2.1, by omega, f2.2.2.mono (by decide)⟩
  · refine ok_tout 8 (len := 26) 158 rfl rfl q_ rfl ?_
    refine ok_aload_n 69 rfl rfl rfl (ok_getR 70 rfl rfl fl_X5_28 (sP hp) rfl (ok_lload_n 71 rfl rfl rfl (ok_aload_n 72 rfl rfl rfl (ok_getI 73 rfl rfl fl_X5_15 (sP hp) rfl (Or.inl rfl) (ok_callVI (M' := M_Ch_findFirst) (as := [_, _]) 74 rfl rfl ml_X5_87 (s_Ch_findFirst hC hn) rfl rfl (Nat.le_of_ble_eq_true rfl) ⟨Nat.le_of_ble_eq_true rfl, Nat.le_of_ble_eq_true rfl⟩ rfl (Nat.le_of_ble_eq_true rfl) (fun τ2 z2 f2 => ?_))))))
    refine ok_zret 75 rfl rfl rfl f2.2.2.1 ?_
    exact ⟨_, rfl, f2⟩
theorem s_Pe_choiceNumber {σ : eS} {p q : Nat} (hp : pP p q) (h : iPe σ p q) : MtI shA M_Pe_choiceNumber [vr p] σ (fun σ' _ => σ' = σ ∧ True) := by
  refine Mt.of okM_Pe_choiceNumber (Nat.le_of_ble_eq_true rfl) (fun hk hg => ?_)
  have n1 := h.1.1
  have n2 := h.1.2
  refine ok_iconst 0 rfl rfl (by decide) (ok_ist1 1 rfl rfl rfl (ok_iconst 2 rfl rfl (by decide) (ok_ist2 3 rfl rfl rfl ?_)))
  refine lpO2 (fun v i : Int => [some (vr p), some (vi v), some (vi i)]) (fun _ _ => σ) (fun _ i => 0 ≤ i ∧ i ≤ 8) (fun _ i => (8 - i).toNat) ?_ 0 0 ⟨by omega, by omega⟩
  rintro v i ⟨i1, i2⟩ ih
  refine ok_iload_n 4 rfl rfl rfl (ok_aload_n 5 rfl rfl rfl (ok_getI 6 rfl rfl fl_X5_15 (sP hp) rfl (Or.inl rfl) (ok_icmp_ge 7 33 rfl rfl rfl (fun h9 => ?_) (fun h9 => ?_))))
  · refine ok_iload_n 20 rfl rfl rfl (ok_iret 21 rfl rfl rfl ?_)
    exact ⟨_, rfl, rfl, trivial⟩
  · refine ok_iload_n 8 rfl rfl rfl (ok_bipush 9 rfl rfl (by decide) (by decide) (ok_imulW 10 rfl rfl (ok_aload_n 11 rfl rfl rfl (ok_getR 12 rfl rfl fl_X5_28 (sP hp) rfl (ok_getR 13 rfl rfl fl_X5_66 rfl rfl (ok_iload_n 14 rfl rfl rfl (ok_iald 15 rfl rfl rfl (by first | omega | (simp [up_if]; omega) | (simp [up_if] at *; omega)) (ok_iaddW 16 rfl rfl (ok_ist1 17 rfl rfl rfl (ok_inc2 18 rfl rfl rfl (by first | omega | (simp [up_if]; omega) | (simp [up_if] at *; omega)) (ok_goto 19 4 rfl rfl rfl ?_)))))))))))
    exact ih _ (i + 1) ⟨by omega, by omega⟩ (by omega)
abbrev rgPe (p q : Nat) : Nat → Int → Prop := fun c k => (c = p ∧ 3 ≤ k ∧ k ≤ 5) ∨ c = q ∨ c = 16 ∨ c = 17 ∨ c = 18 ∨ c = 19
def QTk (p q : Nat) (σ σ' : eS) : Prop := fr (rgPe p q) σ σ' ∧ iPe σ' p q ∧ iCh σ' ∧ 0 ≤ σ' p 3 ∧ 0 ≤ σ' p 5 ∧ σ' p 3 + σ' p 5 ≤ max 0 (σ p 3) ∧ mkS 1 σ σ'
theorem s_Pe_takePart {σ : eS} {p q : Nat} {r : Int} (hp : pP p q) (h : iPe σ p q) (hC : iCh σ) : MtV shA M_Pe_takePart [vr p, vi r] σ (fun σ' => QTk p q σ σ') := by
  refine Mt.of okM_Pe_takePart (Nat.le_of_ble_eq_true rfl) (fun hk hg => ?_)
  obtain ⟨n0, n1, n2, n3, n4⟩ := pP_n hp
  obtain ⟨σ1, e1⟩ : ∃ τ, τ = up σ p 5 0 := ⟨_, rfl⟩
  have f1 : fr (rgPe p q) σ σ1 := by rw [e1]; exact fr_up fr.rf (by simp [rgPe])
  have h1 : iPe σ1 p q := iPe_cg h (by rw [e1]; exact up_nk _ _ _ _ (by decide)) (fun k => by rw [e1]; exact up_ne _ _ _ _ (by omega))
  have hC1 : iCh σ1 := iCh_cg hC (fun k => by rw [e1]; exact up_ne _ _ _ _ (by omega))
  have el : σ1 p 3 = σ p 3 := by rw [e1]; exact up_nk _ _ _ _ (by decide)
  have ew : σ1 p 5 = 0 := by rw [e1]; exact up_same _ _ _ _
  have m1 : mkS 0 σ σ1 := by rw [e1]; exact mkS_cg (by decide) (up_ne _ _ _ _ (by omega)) (fun k => up_ne _ _ _ _ (by omega))
  have stop0 : ∀ τ : eS, fr rgCh σ1 τ → iCh τ → mkS 1 σ1 τ → QTk p q σ (up τ p 3 0) := fun τ f hc hk => by
    have m2 : mkS 0 τ (up τ p 3 0) := mkS_cg (by decide) (up_ne _ _ _ _ (by omega)) (fun k => up_ne _ _ _ _ (by omega))
    refine ⟨fr_up (f1.tr (f.mono (fun c k w => by simp only [rgCh, rgPe] at w ⊢; omega))) (by simp [rgPe]), iPe_cg h1 ?_ (fun k => ?_), iCh_cg hc (fun k => up_ne _ _ _ _ (by omega)), ?_, ?_, ?_, ((m1.tr hk (by decide) (by decide)).tr m2 (by decide) (by decide)).mono (by decide)⟩
    · rw [up_nk _ _ _ _ (by decide)]; exact f _ _ (by simp only [rgCh]; omega)
    · rw [up_ne _ _ _ _ (by omega)]; exact f _ _ (by simp only [rgCh]; omega)
    · rw [up_same]; decide
    · rw [up_nk _ _ _ _ (by decide), f _ _ (by simp only [rgCh]; omega), ew]; decide
    · rw [up_same, up_nk _ _ _ _ (by decide), f p 5 (by simp only [rgCh]; omega), ew]; omega
  refine ok_aload_n 0 rfl rfl rfl (ok_iconst 1 rfl rfl (by decide) (ok_putI 2 rfl rfl fl_X5_25 (sP hp) rfl rfl rfl ?_))
  rw [← e1]
  refine ok_aload_n 3 rfl rfl rfl (ok_getI 4 rfl rfl fl_X5_19 (sP hp) rfl (Or.inl rfl) (ok_if_le 5 20 rfl rfl rfl (fun h9 => ?_) (fun h9 => ?_)))
  · refine ok_aload_n 10 rfl rfl rfl (ok_iconst 11 rfl rfl (by decide) (ok_putI 12 rfl rfl fl_X5_19 (sP hp) rfl rfl rfl (ok_vret 13 rfl rfl rfl ?_)))
    exact ⟨rfl, stop0 _ fr.rf hC1 (mkS_cg (by decide) rfl (fun _ => rfl))⟩
  · refine ok_aload_n 6 rfl rfl rfl (ok_iload_n 7 rfl rfl rfl (ok_callVI (M' := M_Pe_choose) (as := [_]) 8 rfl rfl ml_X5_62 (s_Pe_choose hp h1 hC1) (sP hp) rfl (Nat.le_of_ble_eq_true rfl) ⟨Nat.le_of_ble_eq_true rfl, Nat.le_of_ble_eq_true rfl⟩ rfl (Nat.le_of_ble_eq_true rfl) (fun τ z f => ?_)))
    refine ok_if_ne 9 26 rfl rfl rfl (fun h17 => ?_) (fun h17 => ?_)
    · have l0 : 0 < σ p 3 := by omega
      have hl : τ p 3 = σ p 3 := by rw [f.1 p 3 (by simp only [rgCh]; omega), el]
      have hn : τ p 2 = σ p 2 := by rw [f.1 p 2 (by simp only [rgCh]; omega), e1]; exact up_nk _ _ _ _ (by decide)
      have hq : ∀ k, 0 ≤ k → k < 64 → 0 ≤ τ q k := fun k a b => by rw [f.1 q k (by simp only [rgCh]; omega)]; exact h1.2 k a b
      have fA : fr (rgPe p q) σ τ := f1.tr (f.1.mono (fun c k w => by simp only [rgCh, rgPe] at w ⊢; omega))
      have hc := f.2.1
      have mA : mkS 1 σ τ := (m1.tr f.2.2.2 (by decide) (by decide)).mono (by decide)
      clear f h17 z h9 ew el
      have hn1 := h.1.1
      have hn2 := h.1.2
      refine ok_aload_n 14 rfl rfl rfl (ok_aload_n 15 rfl rfl rfl (ok_getI 16 rfl rfl fl_X5_19 (sP hp) rfl (Or.inl rfl) (ok_putI 17 rfl rfl fl_X5_25 (sP hp) rfl rfl rfl (ok_iconst 18 rfl rfl (by decide) (ok_ist2 19 rfl rfl rfl ?_)))))
      refine lpO2 (fun (i : Int) (_ : eS) => [some (vr p), some (vi r), some (vi i)]) (fun _ ρ => ρ) (fun i ρ => 0 ≤ i ∧ i ≤ σ p 2 ∧ fr (fun c k => c = p ∧ k = 5) τ ρ ∧ 0 ≤ ρ p 5 ∧ ρ p 5 ≤ σ p 3 ∧ ∀ k, 0 ≤ k → k < i → ρ p 5 ≤ τ q (k * 8 + τ 17 k)) (fun i _ => (8 - i).toNat) ?_ 0 _ ⟨by omega, by omega, fr_up fr.rf ⟨rfl, rfl⟩, by rw [up_same]; omega, by rw [up_same]; omega, fun k a b => by omega⟩
      rintro i ρ ⟨i1, i2, g, w1, w2, w3⟩ ih
      have g2 : ρ p 2 = σ p 2 := by rw [g p 2 (by omega), hn]
      have g17 : ∀ k, ρ 17 k = τ 17 k := fun k => g 17 k (by omega)
      have gq : ∀ k, ρ q k = τ q k := fun k => g q k (by omega)
      refine ok_iload_n 20 rfl rfl rfl (ok_aload_n 21 rfl rfl rfl (ok_getI 22 rfl rfl fl_X5_15 (sP hp) rfl (Or.inl rfl) (ok_icmp_ge 23 80 rfl rfl rfl (fun h41 => ?_) (fun h41 => ?_))))
      · refine ok_iconst 43 rfl rfl (by decide) (ok_ist2 44 rfl rfl rfl ?_)
        clear ih
        obtain ⟨W, eW⟩ : ∃ W, W = ρ p 5 := ⟨_, rfl⟩
        rw [← eW] at w1 w2 w3
        have w4 : ∀ k, 0 ≤ k → k < σ p 2 → W ≤ ρ q (k * 8 + ρ 17 k) := fun k a b => by rw [g17, gq]; exact w3 k a (by omega)
        have c4 : ∀ k : Int, 0 ≤ k → k < σ p 2 → 0 ≤ ρ 17 k ∧ ρ 17 k ≤ 7 := fun k a b => by rw [g17]; exact hc k a (by omega)
        have q4 : ∀ k, 0 ≤ k → k < 64 → 0 ≤ ρ q k := fun k a b => by rw [gq]; exact hq k a b
        clear w3 gq h41 i1 i2 i
        refine lpO2 (fun (i : Int) (_ : eS) => [some (vr p), some (vi r), some (vi i)]) (fun _ υ => υ) (fun i υ => 0 ≤ i ∧ i ≤ σ p 2 ∧ fr (fun c _ => c = q) ρ υ ∧ (∀ k, 0 ≤ k → k < 64 → 0 ≤ υ q k) ∧ ∀ k, i ≤ k → k < σ p 2 → W ≤ υ q (k * 8 + ρ 17 k)) (fun i _ => (8 - i).toNat) ?_ 0 ρ ⟨by omega, by omega, fr.rf, q4, w4⟩
        rintro i υ ⟨i1, i2, u, u1, u2⟩ ih
        have v2 : υ p 2 = σ p 2 := by rw [u p 2 (by omega), g2]
        have v5 : υ p 5 = W := by rw [u p 5 (by omega), eW]
        have v3 : υ p 3 = σ p 3 := by rw [u p 3 (by omega), g p 3 (by omega), hl]
        have v17 : ∀ k, υ 17 k = ρ 17 k := fun k => u 17 k (by omega)
        refine ok_gd (fun hgd => ?_)
        refine ok_iload_n 45 rfl rfl rfl (ok_aload_n 46 rfl rfl rfl (ok_getI 47 rfl rfl fl_X5_15 (sP hp) rfl (Or.inl rfl) (ok_icmp_ge 48 122 rfl rfl rfl (fun h87 => ?_) (fun h87 => ?_))))
        · have lr : rg (υ p 3) := eGd_i (k := 3) hgd (sP hp) rfl (by decide)
          refine ok_aload_n 68 rfl rfl rfl (ok_dup 69 rfl rfl rfl (ok_getI 70 rfl rfl fl_X5_19 (sP hp) rfl (Or.inl rfl) (ok_aload_n 71 rfl rfl rfl (ok_getI 72 rfl rfl fl_X5_25 (sP hp) rfl (Or.inl rfl) (ok_isub 73 rfl rfl (by first | omega | (simp [up_if]; omega) | (simp [up_if] at *; omega)) (ok_putI 74 rfl rfl fl_X5_19 (sP hp) rfl rfl rfl (ok_aload_n 75 rfl rfl rfl (ok_dup 76 rfl rfl rfl (ok_getI 77 rfl rfl fl_X5_22 (sP hp) rfl (Or.inl rfl) (ok_iconst 78 rfl rfl (by decide) (ok_iaddW 79 rfl rfl (ok_putI 80 rfl rfl fl_X5_22 (sP hp) rfl rfl rfl (ok_vret 81 rfl rfl rfl ?_)))))))))))))
          refine ⟨rfl, ?_, ?_, ?_, ?_, ?_, ?_, (mA.tr (mkS_cg (N := 0) (by decide) ?_ (fun k => ?_)) (by decide) (by decide)).mono (by decide)⟩
          · refine fr_up (fr_up ?_ (by simp [rgPe])) (by simp [rgPe])
            exact (fA.tr (g.mono (fun c k w => by simp only [rgPe]; omega))).tr (u.mono (fun c k w => by simp only [rgPe]; omega))
          · refine ⟨?_, fun k a b => ?_⟩
            · rw [up_nk _ _ _ _ (by decide), up_nk _ _ _ _ (by decide), v2]; exact h.1
            · rw [up_ne _ _ _ _ (by omega), up_ne _ _ _ _ (by omega)]; exact u1 k a b
          · exact iCh_cg hc (fun k => by rw [up_ne _ _ _ _ (by omega), up_ne _ _ _ _ (by omega), v17, g17])
          · rw [up_nk _ _ _ _ (by decide), up_same]; omega
          · rw [up_nk _ _ _ _ (by decide), up_nk _ _ _ _ (by decide)]; omega
          · rw [up_nk _ _ _ _ (by decide), up_same, up_nk _ _ _ _ (by decide), up_nk _ _ _ _ (by decide)]; omega
          · rw [up_ne _ _ _ _ (by omega), up_ne _ _ _ _ (by omega), u 16 3 (by omega), g 16 3 (by omega)]
          · rw [up_ne _ _ _ _ (by omega), up_ne _ _ _ _ (by omega), u 19 k (by omega), g 19 k (by omega)]
        · have c := c4 i i1 (by omega)
          rw [← v17] at c
          have uq := u2 i (Int.le_refl _) (by omega)
          rw [← v17] at uq
          have ur : rg (υ q (i * 8 + υ 17 i)) := eGd_a hgd (sQ hp) (Or.inl rfl)
          refine ok_aload_n 49 rfl rfl rfl (ok_getR 50 rfl rfl fl_X5_9 (sP hp) rfl (ok_iload_n 51 rfl rfl rfl (ok_bipush 52 rfl rfl (by decide) (by decide) (ok_imul 53 rfl rfl (by first | omega | (simp [up_if]; omega) | (simp [up_if] at *; omega)) (ok_aload_n 54 rfl rfl rfl (ok_getR 55 rfl rfl fl_X5_28 (sP hp) rfl (ok_getR 56 rfl rfl fl_X5_66 rfl rfl (ok_iload_n 57 rfl rfl rfl (ok_iald 58 rfl rfl rfl (by first | omega | (simp [up_if]; omega) | (simp [up_if] at *; omega)) (ok_iadd 59 rfl rfl (by first | omega | (simp [up_if]; omega) | (simp [up_if] at *; omega)) (ok_dup2 60 rfl rfl ⟨rfl, rfl⟩ (ok_iald 61 rfl rfl (sQ hp) (by first | omega | (simp [up_if]; omega) | (simp [up_if] at *; omega)) (ok_aload_n 62 rfl rfl rfl (ok_getI 63 rfl rfl fl_X5_25 (sP hp) rfl (Or.inl rfl) (ok_isub 64 rfl rfl (by first | omega | (simp [up_if]; omega) | (simp [up_if] at *; omega)) (ok_iast 65 rfl rfl (sQ hp) (by first | omega | (simp [up_if]; omega) | (simp [up_if] at *; omega)) (ok_inc2 66 rfl rfl rfl (by first | omega | (simp [up_if]; omega) | (simp [up_if] at *; omega)) (ok_goto 67 82 rfl rfl rfl ?_))))))))))))))))))
          rw [v5]
          refine ih (i + 1) _ ⟨by omega, by omega, fr_up u rfl, fun k a b => ?_, fun k a b => ?_⟩ (by omega)
          · rw [up_if]
            by_cases y : k = i * 8 + υ 17 i
            · rw [if_pos ⟨rfl, y⟩]; omega
            · rw [if_neg (fun x => y x.2)]; exact u1 k a b
          · have c' := c4 k (by omega) b
            rw [up_nk _ _ _ _ (by omega)]
            exact u2 k (by omega) b
      · have c := hc i (by omega) (by omega)
        rw [← g17] at c
        have cq := hq (i * 8 + ρ 17 i) (by omega) (by omega)
        rw [← gq] at cq
        refine ok_aload_n 24 rfl rfl rfl (ok_aload_n 25 rfl rfl rfl (ok_getI 26 rfl rfl fl_X5_25 (sP hp) rfl (Or.inl rfl) (ok_aload_n 27 rfl rfl rfl (ok_getR 28 rfl rfl fl_X5_9 (sP hp) rfl (ok_iload_n 29 rfl rfl rfl (ok_bipush 30 rfl rfl (by decide) (by decide) (ok_imul 31 rfl rfl (by first | omega | (simp [up_if]; omega) | (simp [up_if] at *; omega)) (ok_aload_n 32 rfl rfl rfl (ok_getR 33 rfl rfl fl_X5_28 (sP hp) rfl (ok_getR 34 rfl rfl fl_X5_66 rfl rfl (ok_iload_n 35 rfl rfl rfl (ok_iald 36 rfl rfl rfl (by first | omega | (simp [up_if]; omega) | (simp [up_if] at *; omega)) (ok_iadd 37 rfl rfl (by first | omega | (simp [up_if]; omega) | (simp [up_if] at *; omega)) (ok_iald 38 rfl rfl (sQ hp) (by first | omega | (simp [up_if]; omega) | (simp [up_if] at *; omega)) (ok_mmin 39 rfl rfl ml_X5_71 ⟨Nat.le_of_ble_eq_true rfl, Nat.le_of_ble_eq_true rfl⟩ (ok_putI 40 rfl rfl fl_X5_25 (sP hp) rfl rfl rfl (ok_inc2 41 rfl rfl rfl (by first | omega | (simp [up_if]; omega) | (simp [up_if] at *; omega)) (ok_goto 42 36 rfl rfl rfl ?_))))))))))))))))))
        refine ih (i + 1) _ ⟨by omega, by omega, fr_up g ⟨rfl, rfl⟩, by rw [up_same]; omega, by rw [up_same]; omega, ?_⟩ (by omega)
        rw [up_same]
        refine up_to (fun k a b => ?_) ?_
        · have := w3 k a b; omega
        · rw [← gq, ← g17]; omega
    · refine ok_aload_n 10 rfl rfl rfl (ok_iconst 11 rfl rfl (by decide) (ok_putI 12 rfl rfl fl_X5_19 (sP hp) rfl rfl rfl (ok_vret 13 rfl rfl rfl ?_)))
      exact ⟨rfl, stop0 _ f.1 f.2.1 f.2.2.2⟩
end
section
theorem s_Pe_startShop {σ : eS} {p q t : Nat} (hp : pP p q) (ht : tA t) (hT : iT σ t) (hn4 : σ t 1 ≤ 4) : MtV shA M_Pe_startShop [vr p, vr t] σ (fun σ' => fr (rgP0 p q) σ σ' ∧ iPe σ' p q ∧ σ' p 2 = 2 * σ t 1 ∧ 0 ≤ σ' p 3 ∧ σ' p 3 ≤ 799999992) := by
  refine Mt.of okM_Pe_startShop (Nat.le_of_ble_eq_true rfl) (fun hk hg => ?_)
  obtain ⟨n0, n1, n2, n3, n4⟩ := pP_n hp
  have nA := tA_10 ht
  have m1 := hT.1
  refine ok_aload_n 0 rfl rfl rfl (ok_getI 1 rfl rfl fl_X5_41 (sT ht) rfl (Or.inl rfl) (ok_ist2 2 rfl rfl rfl (ok_aload_n 3 rfl rfl rfl (ok_callVI (M' := M_Ta_greatestSum) (as := []) 4 rfl rfl ml_X5_45 (s_Ta_greatestSum ht hT) (sT ht) rfl (Nat.le_of_ble_eq_true rfl) ⟨Nat.le_of_ble_eq_true rfl, Nat.le_of_ble_eq_true rfl⟩ rfl (Nat.le_of_ble_eq_true rfl) (fun σ' L hL => ?_)))))
  obtain ⟨hs_, hL⟩ := hL
  rw [hs_]; clear hs_ σ'
  refine ok_ist3 5 rfl rfl rfl (ok_aload_n 6 rfl rfl rfl (ok_getR 7 rfl rfl fl_X5_9 (sP hp) rfl (ok_iconst 8 rfl rfl (by decide) (ok_callSV (M' := M_Ja_fill) (as := [_, _]) 9 rfl rfl ml_X5_49 (s_Ja_fill (sQ hp) (by decide)) ⟨Nat.le_of_ble_eq_true rfl, Nat.le_of_ble_eq_true rfl⟩ rfl (Nat.le_of_ble_eq_true rfl) (fun τ f => ?_)))))
  refine ok_iconst 10 rfl rfl (by decide) (ok_ist4 11 rfl rfl rfl ?_)
  obtain ⟨L1, L2, L3⟩ := hL
  refine lpO2 (fun (i : Int) (_ : eS) => [some (vr p), some (vr t), some (vi (σ t 1)), some (vi L), some (vi i), none, none]) (fun _ ρ => ρ) (fun i ρ => 0 ≤ i ∧ i ≤ σ t 1 ∧ fr (fun c _ => c = q) σ ρ ∧ ∀ k, 0 ≤ k → k < 64 → 0 ≤ ρ q k) (fun i _ => (8 - i).toNat) ?_ 0 τ ⟨by omega, by omega, f.1, fun k a b => by rw [f.2 k a b]; decide⟩
  clear f τ
  rintro i ρ ⟨i1, i2, f, hc⟩ ih
  refine ok_iload 12 rfl rfl rfl (ok_iload_n 13 rfl rfl rfl (ok_icmp_ge 14 143 rfl rfl rfl (fun h24 => ?_) (fun h24 => ?_)))
  · refine ok_aload_n 85 rfl rfl rfl (ok_iconst 86 rfl rfl (by decide) (ok_iload_n 87 rfl rfl rfl (ok_imul 88 rfl rfl (by first | omega | (simp [up_if]; omega) | (simp [up_if] at *; omega)) (ok_putI 89 rfl rfl fl_X5_15 (sP hp) rfl rfl rfl (ok_aload_n 90 rfl rfl rfl (ok_iload_n 91 rfl rfl rfl (ok_putI 92 rfl rfl fl_X5_19 (sP hp) rfl rfl rfl (ok_aload_n 93 rfl rfl rfl (ok_iconst 94 rfl rfl (by decide) (ok_putI 95 rfl rfl fl_X5_22 (sP hp) rfl rfl rfl (ok_vret 96 rfl rfl rfl ?_)))))))))))
    refine ⟨rfl, fr_up (fr_up (fr_up (f.mono (fun c k w => Or.inr w)) (by simp [rgP0])) (by simp [rgP0])) (by simp [rgP0]), ⟨?_, fun k a b => ?_⟩, ?_, ?_, ?_⟩
    · rw [up_nk _ _ _ _ (by decide), up_nk _ _ _ _ (by decide), up_same]; omega
    · rw [up_ne _ _ _ _ (Ne.symm n1), up_ne _ _ _ _ (Ne.symm n1), up_ne _ _ _ _ (Ne.symm n1)]; exact hc k a b
    · rw [up_nk _ _ _ _ (by decide), up_nk _ _ _ _ (by decide), up_same]
    · rw [up_nk _ _ _ _ (by decide), up_same]; exact L1
    · rw [up_nk _ _ _ _ (by decide), up_same]; exact L2
  · refine ok_iconst 15 rfl rfl (by decide) (ok_ist5 16 rfl rfl rfl ?_)
    have il : i < σ t 1 := by omega
    refine lpO2 (fun (j : Int) (_ : eS) => [some (vr p), some (vr t), some (vi (σ t 1)), some (vi L), some (vi i), some (vi j), none]) (fun _ ρ => ρ) (fun j ρ => 0 ≤ j ∧ j ≤ σ t 1 ∧ fr (fun c _ => c = q) σ ρ ∧ ∀ k, 0 ≤ k → k < 64 → 0 ≤ ρ q k) (fun j _ => (8 - j).toNat) ?_ 0 ρ ⟨by omega, by omega, f, hc⟩
    clear f hc ρ
    rintro j ρ ⟨j1, j2, f, hc⟩ ih2
    have hup : ∀ (υ : eS) (x z : Int), (∀ k, 0 ≤ k → k < 64 → 0 ≤ υ q k) → 0 ≤ z → ∀ k, 0 ≤ k → k < 64 → 0 ≤ up υ q x z q k := fun υ x z h hz k a b => by
      rw [up_if]
      by_cases y : k = x
      · rw [if_pos ⟨rfl, y⟩]; exact hz
      · rw [if_neg (fun w => y w.2)]; exact h k a b
    refine ok_iload 17 rfl rfl rfl (ok_iload_n 18 rfl rfl rfl (ok_icmp_ge 19 91 rfl rfl rfl (fun h33 => ?_) (fun h33 => ?_)))
    · have x1 := iT_cg hT (f t 1 (by omega)) (f t 2 (by omega)) (fun k => f (t + 4) k (by omega))
      have r1 := rowT_bd hT (i := i) ⟨i1, by omega⟩
      have r2 := colT_bd hT (i := i) ⟨i1, by omega⟩
      have r3 := L3 i i1 il
      refine ok_aload_n 53 rfl rfl rfl (ok_getR 54 rfl rfl fl_X5_9 (sP hp) rfl (ok_iload 55 rfl rfl rfl (ok_bipush 56 rfl rfl (by decide) (by decide) (ok_imul 57 rfl rfl (by first | omega | (simp [up_if]; omega) | (simp [up_if] at *; omega)) (ok_iload_n 58 rfl rfl rfl (ok_iadd 59 rfl rfl (by first | omega | (simp [up_if]; omega) | (simp [up_if] at *; omega)) (ok_iload 60 rfl rfl rfl (ok_iadd 61 rfl rfl (by first | omega | (simp [up_if]; omega) | (simp [up_if] at *; omega)) (ok_iload_n 62 rfl rfl rfl (ok_aload_n 63 rfl rfl rfl (ok_iload 64 rfl rfl rfl (ok_callVI (M' := M_Ta_sumOfRow) (as := [_]) 65 rfl rfl ml_X5_55 (s_Ta_sumOfRow ht x1.1 ⟨i1, by omega⟩) (sT ht) rfl (Nat.le_of_ble_eq_true rfl) ⟨Nat.le_of_ble_eq_true rfl, Nat.le_of_ble_eq_true rfl⟩ rfl (Nat.le_of_ble_eq_true rfl) (fun σ' z hz => ?_)))))))))))))
      rw [hz.1, hz.2]
      clear hz z σ'
      rw [x1.2.1]
      refine ok_isub 66 rfl rfl (by first | omega | (simp [up_if]; omega) | (simp [up_if] at *; omega)) (ok_iast 67 rfl rfl (sQ hp) (by first | omega | (simp [up_if]; omega) | (simp [up_if] at *; omega)) ?_)
      have f2 : fr (fun c _ => c = q) σ (up ρ q (i * 8 + σ t 1 + i) (L - rowT σ t i)) := fr_up f rfl
      have x2 := iT_cg hT (f2 t 1 (by omega)) (f2 t 2 (by omega)) (fun k => f2 (t + 4) k (by omega))
      refine ok_aload_n 68 rfl rfl rfl (ok_getR 69 rfl rfl fl_X5_9 (sP hp) rfl (ok_iload_n 70 rfl rfl rfl (ok_iload 71 rfl rfl rfl (ok_iadd 72 rfl rfl (by first | omega | (simp [up_if]; omega) | (simp [up_if] at *; omega)) (ok_bipush 73 rfl rfl (by decide) (by decide) (ok_imul 74 rfl rfl (by first | omega | (simp [up_if]; omega) | (simp [up_if] at *; omega)) (ok_iload 75 rfl rfl rfl (ok_iadd 76 rfl rfl (by first | omega | (simp [up_if]; omega) | (simp [up_if] at *; omega)) (ok_iload_n 77 rfl rfl rfl (ok_aload_n 78 rfl rfl rfl (ok_iload 79 rfl rfl rfl (ok_callVI (M' := M_Ta_sumOfColumn) (as := [_]) 80 rfl rfl ml_X5_59 (s_Ta_sumOfColumn ht x2.1 ⟨i1, by omega⟩) (sT ht) rfl (Nat.le_of_ble_eq_true rfl) ⟨Nat.le_of_ble_eq_true rfl, Nat.le_of_ble_eq_true rfl⟩ rfl (Nat.le_of_ble_eq_true rfl) (fun σ' z hz => ?_)))))))))))))
      rw [hz.1, hz.2]
      clear hz z σ'
      rw [x2.2.2]
      refine ok_isub 81 rfl rfl (by first | omega | (simp [up_if]; omega) | (simp [up_if] at *; omega)) (ok_iast 82 rfl rfl (sQ hp) (by first | omega | (simp [up_if]; omega) | (simp [up_if] at *; omega)) (ok_inc4 83 rfl rfl rfl (by first | omega | (simp [up_if]; omega) | (simp [up_if] at *; omega)) (ok_goto 84 21 rfl rfl rfl ?_)))
      exact ok_fg [some (vr p), some (vr t), some (vi (σ t 1)), some (vi L), some (vi (i + 1)), none, none] ⟨rfl, rfl, rfl, rfl, rfl, trivial⟩ (ih (i + 1) _ ⟨by omega, by omega, fr_up f2 rfl, hup _ _ _ (hup _ _ _ hc (by omega)) (by omega)⟩ (by omega))
    · refine ok_aload_n 20 rfl rfl rfl (ok_getR 21 rfl rfl fl_X5_32 (sT ht) rfl (ok_iload 22 rfl rfl rfl (ok_bipush 23 rfl rfl (by decide) (by decide) (ok_imul 24 rfl rfl (by first | omega | (simp [up_if]; omega) | (simp [up_if] at *; omega)) (ok_iload 25 rfl rfl rfl (ok_iadd 26 rfl rfl (by first | omega | (simp [up_if]; omega) | (simp [up_if] at *; omega)) (ok_iald 27 rfl rfl (sC ht) (by first | omega | (simp [up_if]; omega) | (simp [up_if] at *; omega)) (ok_ist6 28 rfl rfl rfl (ok_aload_n 29 rfl rfl rfl (ok_getR 30 rfl rfl fl_X5_9 (sP hp) rfl (ok_iload 31 rfl rfl rfl (ok_bipush 32 rfl rfl (by decide) (by decide) (ok_imul 33 rfl rfl (by first | omega | (simp [up_if]; omega) | (simp [up_if] at *; omega)) (ok_iload 34 rfl rfl rfl (ok_iadd 35 rfl rfl (by first | omega | (simp [up_if]; omega) | (simp [up_if] at *; omega)) (ok_iload 36 rfl rfl rfl (ok_iast 37 rfl rfl (sQ hp) (by first | omega | (simp [up_if]; omega) | (simp [up_if] at *; omega)) (ok_aload_n 38 rfl rfl rfl (ok_getR 39 rfl rfl fl_X5_9 (sP hp) rfl (ok_iload_n 40 rfl rfl rfl (ok_iload 41 rfl rfl rfl (ok_iadd 42 rfl rfl (by first | omega | (simp [up_if]; omega) | (simp [up_if] at *; omega)) (ok_bipush 43 rfl rfl (by decide) (by decide) (ok_imul 44 rfl rfl (by first | omega | (simp [up_if]; omega) | (simp [up_if] at *; omega)) (ok_iload_n 45 rfl rfl rfl (ok_iadd 46 rfl rfl (by first | omega | (simp [up_if]; omega) | (simp [up_if] at *; omega)) (ok_iload 47 rfl rfl rfl (ok_iadd 48 rfl rfl (by first | omega | (simp [up_if]; omega) | (simp [up_if] at *; omega)) (ok_iload 49 rfl rfl rfl (ok_iast 50 rfl rfl (sQ hp) (by first | omega | (simp [up_if]; omega) | (simp [up_if] at *; omega)) (ok_inc5 51 rfl rfl rfl (by first | omega | (simp [up_if]; omega) | (simp [up_if] at *; omega)) (ok_goto 52 30 rfl rfl rfl ?_))))))))))))))))))))))))))))))))
      have c := (hT.2.2.2 (i * 8 + j) (by omega) (by omega)).1
      rw [← f (t + 4) (i * 8 + j) (by omega)] at c
      exact ok_fg [some (vr p), some (vr t), some (vi (σ t 1)), some (vi L), some (vi i), some (vi (j + 1)), none] ⟨rfl, rfl, rfl, rfl, rfl, rfl, trivial⟩ (ih2 (j + 1) _ ⟨by omega, by omega, fr_up (fr_up f rfl) rfl, hup _ _ _ (hup _ _ _ hc c) c⟩ (by omega))
theorem s_Mi_start {σ : eS} {a b c d : Int} : MtV shA M_Mi_start [vr 22, vi a, vi b, vi c, vi d] σ (fun σ' => fr (fun c k => c = 22 ∧ 2 ≤ k ∧ k ≤ 6) σ σ' ∧ σ' 22 3 = b ∧ σ' 22 4 = c ∧ σ' 22 5 = 0 ∧ σ' 22 6 = d) := by
  refine Mt.of okM_Mi_start (Nat.le_of_ble_eq_true rfl) (fun hk hg => ?_)
  refine ok_aload_n 0 rfl rfl rfl (ok_iload_n 1 rfl rfl rfl (ok_putI 2 rfl rfl fl_X3_18 rfl rfl rfl rfl (ok_aload_n 3 rfl rfl rfl (ok_iload_n 4 rfl rfl rfl (ok_putI 5 rfl rfl fl_X3_22 rfl rfl rfl rfl (ok_aload_n 6 rfl rfl rfl (ok_iload_n 7 rfl rfl rfl (ok_putI 8 rfl rfl fl_X3_25 rfl rfl rfl rfl (ok_aload_n 9 rfl rfl rfl (ok_iload 10 rfl rfl rfl (ok_putI 11 rfl rfl fl_X3_31 rfl rfl rfl rfl (ok_aload_n 12 rfl rfl rfl (ok_iconst 13 rfl rfl (by decide) (ok_putI 14 rfl rfl fl_X3_28 rfl rfl rfl rfl (ok_vret 15 rfl rfl rfl ?_)))))))))))))))
  exact ⟨rfl, fr_up (fr_up (fr_up (fr_up (fr_up fr.rf (by simp)) (by simp)) (by simp)) (by simp)) (by simp), by simp [up_if], by simp [up_if], by simp [up_if], by simp [up_if]⟩
def sW (σ : eS) : Int := sm (fun k => σ 23 k) (σ 22 5).toNat
abbrev rgMi : Nat → Int → Prop := fun c k => (c = 22 ∧ k = 5) ∨ c = 23 ∨ c = 24
theorem s_Mi_add {σ : eS} {w : Int} (h : iMi σ) (hC : iCh σ) (hw : 0 ≤ w) (hs : sW σ + w ≤ σ 22 6) : MtV shA M_Mi_add [vr 22, vi w, vr 17] σ (fun σ' => fr rgMi σ σ' ∧ iMi σ' ∧ sW σ' ≤ sW σ + w) := by
  refine Mt.of okM_Mi_add (Nat.le_of_ble_eq_true rfl) (fun hk hg => ?_)
  obtain ⟨⟨h1, h2, h3, h4, h5, h6, h7⟩, a, b, d⟩ := id h
  refine ok_iload_n 0 rfl rfl rfl (ok_iconst 1 rfl rfl (by decide) (ok_icmp_lt 2 14 rfl rfl rfl (fun h2 => ?_) (fun h2 => ?_)))
  · refine ok_vret 7 rfl rfl rfl ?_
    exact ⟨rfl, fr.rf, h, by omega⟩
  · refine ok_aload_n 3 rfl rfl rfl (ok_getI 4 rfl rfl fl_X3_28 rfl rfl (Or.inl rfl) (ok_bipush 5 rfl rfl (by decide) (by decide) (ok_icmp_lt 6 15 rfl rfl rfl (fun h11 => ?_) (fun h11 => ?_))))
    · refine ok_aload_n 8 rfl rfl rfl (ok_getR 9 rfl rfl fl_X3_9 rfl rfl (ok_aload_n 10 rfl rfl rfl (ok_getI 11 rfl rfl fl_X3_28 rfl rfl (Or.inl rfl) (ok_iload_n 12 rfl rfl rfl (ok_iast 13 rfl rfl rfl (by first | omega | (simp [up_if]; omega) | (simp [up_if] at *; omega)) (ok_aload_n 14 rfl rfl rfl (ok_iconst 15 rfl rfl (by decide) (ok_aload_n 16 rfl rfl rfl (ok_getR 17 rfl rfl fl_X3_15 rfl rfl (ok_aload_n 18 rfl rfl rfl (ok_getI 19 rfl rfl fl_X3_28 rfl rfl (Or.inl rfl) (ok_bipush 20 rfl rfl (by decide) (by decide) (ok_imul 21 rfl rfl (by first | omega | (simp [up_if]; omega) | (simp [up_if] at *; omega)) (ok_bipush 22 rfl rfl (by decide) (by decide) (ok_copy 23 rfl rfl (wd3 175 rfl rfl) ⟨Nat.le_of_ble_eq_true rfl, Nat.le_of_ble_eq_true rfl⟩ rfl rfl (by decide) (by simp [up_if]; omega) (by decide) (by decide) (by simp [up_if]; omega) ?_)))))))))))))))
      obtain ⟨τ, eτ⟩ : ∃ τ, τ = cp (up σ 23 (σ 22 5) w) 17 0 24 (up σ 23 (σ 22 5) w 22 5 * 8) 8 := ⟨_, rfl⟩
      rw [← eτ]
      have e0 : up σ 23 (σ 22 5) w 22 5 = σ 22 5 := up_ne _ _ _ _ (by decide)
      rw [e0] at eτ
      have f : fr rgMi σ τ := by rw [eτ]; exact (fr_up (P := rgMi) fr.rf (by simp [rgMi])).tr (fr_cp (fun k _ _ => by simp [rgMi]))
      have e22 : ∀ k, τ 22 k = σ 22 k := fun k => by rw [eτ]; unfold cp; rw [if_neg (by omega), up_ne _ _ _ _ (by decide)]
      have e23 : ∀ k, k ≠ σ 22 5 → τ 23 k = σ 23 k := fun k q => by rw [eτ]; unfold cp; rw [if_neg (by omega), up_nk _ _ _ _ q]
      have e23s : τ 23 (σ 22 5) = w := by rw [eτ]; unfold cp; rw [if_neg (by omega), up_same]
      have e24 : ∀ k : Int, 0 ≤ k → k < 512 → 0 ≤ τ 24 k ∧ τ 24 k ≤ 7 := fun k x y => by
        rw [eτ]
        unfold cp
        by_cases q : (24 : Nat) = 24 ∧ σ 22 5 * 8 ≤ k ∧ k < σ 22 5 * 8 + 8
        · rw [if_pos q, up_ne _ _ _ _ (by decide)]; exact hC _ (by omega) (by omega)
        · rw [if_neg q, up_ne _ _ _ _ (by decide)]; exact b k x y
      have es := sm_s (fun k => τ 23 k) (j := σ 22 5) h1
      have ec : sm (fun k => τ 23 k) (σ 22 5).toNat = sW σ := sm_cg (fun k x y => e23 k (by omega))
      simp only [e23s, ec] at es
      have e225 := e22 5
      refine ok_aload_n 24 rfl rfl rfl (ok_dup 25 rfl rfl rfl (ok_getI 26 rfl rfl fl_X3_28 rfl rfl (Or.inl rfl) (ok_iconst 27 rfl rfl (by decide) (ok_iadd 28 rfl rfl (by first | omega | (simp [up_if]; omega) | (simp [up_if] at *; omega)) (ok_putI 29 rfl rfl fl_X3_28 rfl rfl rfl rfl (ok_vret 30 rfl rfl rfl ?_))))))
      refine ⟨rfl, fr_up f (by simp [rgMi]), ⟨?_, ?_, ?_, ?_⟩, ?_⟩
      · simp only [up_if, e22]; simp; omega
      · intro k x y
        rw [up_same, e22] at y
        rw [up_ne _ _ _ _ (by decide)]
        rcases (by omega : k = σ 22 5 ∨ k < σ 22 5) with q | q
        · rw [q, e23s]; exact hw
        · rw [e23 k (by omega)]; exact a k x q
      · intro k x y
        rw [up_ne _ _ _ _ (by decide)]
        exact e24 k x y
      · rw [up_same, e22, up_nk _ _ _ _ (by decide), e22, show (fun k => up τ 22 5 (σ 22 5 + 1) 23 k) = (fun k => τ 23 k) by funext k; exact up_ne _ _ _ _ (by decide), es]; exact hs
      · unfold sW
        rw [up_same, e22, show (fun k => up τ 22 5 (σ 22 5 + 1) 23 k) = (fun k => τ 23 k) by funext k; exact up_ne _ _ _ _ (by decide), es]
        exact Int.le_refl _
    · refine ok_vret 7 rfl rfl rfl ?_
      exact ⟨rfl, fr.rf, h, by omega⟩
theorem mT_bd {σ : eS} {t : Nat} (hT : iT σ t) (hM : mT σ t) (h : σ t 3 ≠ -1) : 0 < σ t 3 ∧ σ t 3 ≤ 799999992 := by
  rcases hM with q | ⟨q1, q2⟩
  · exact absurd q.1 h
  · have := (rowT_bd hT (i := 0) ⟨by decide, by decide⟩).2
    have := q1.2.1
    omega
theorem QA_C {σ τ : eS} (h : IA σ) (f : fr rgCh σ τ) (c : iCh τ) (hk : mkS 20000 σ τ) : QA σ τ := by
  have e3 := f 10 3 (by simp [rgCh])
  refine ⟨⟨?_, iTs_cg h.2.1 (fun c k a b d => f c k (by simp only [rgCh]; omega)), c, iMi_cg h.2.2.2.1 (fun c k a b => f c k (by simp only [rgCh]; omega)), iSh_cg h.2.2.2.2.1 (fun k => f _ k (by simp [rgCh])), iSu_cg h.2.2.2.2.2 (fun k => f _ k (by simp [rgCh]))⟩, ⟨fun k => f _ k (by simp [rgCh]), fun k => f _ k (by simp [rgCh])⟩, fun c k a b d => f c k (by simp only [rgCh]; omega), fun c k a b => f c k (by simp only [rgCh]; omega), fun c k a b => f c k (by simp only [rgCh]; omega), hk⟩
  unfold tL
  rw [e3]
  exact h.1
theorem QA_18 {σ τ : eS} (h : IA σ) (f : fr (fun c _ => c = 18) σ τ) : QA σ τ := QA_C h (f.mono (fun c k w => by simp only [rgCh]; omega)) (iCh_cg h.2.2.1 (fun k => f _ _ (by simp))) (mkS_fr (by decide) f (by omega) (fun k => by omega))
theorem s_Ev_paired {σ : eS} {s m r : Int} (h : IA σ) : MtI shA M_Ev_paired [vr 0, vi s, vi m, vi r] σ (fun σ' _ => QA σ σ') := by
  refine Mt.of okM_Ev_paired (Nat.le_of_ble_eq_true rfl) (fun hk hg => ?_)
  refine ok_aload_n 0 rfl rfl rfl (ok_iload_n 1 rfl rfl rfl (ok_callVR (M' := M_Ev_filledSlot) (as := [_]) 2 rfl rfl ml_X11_137 (s_Ev_filledSlot) rfl rfl (Nat.le_of_ble_eq_true rfl) ⟨Nat.le_of_ble_eq_true rfl, Nat.le_of_ble_eq_true rfl⟩ rfl (Nat.le_of_ble_eq_true rfl) (fun σ' z hz => ?_)))
  obtain ⟨hs_, hz⟩ := hz
  rw [hs_]; clear hs_ σ'
  rcases hz with ⟨q, q0⟩ | ⟨q1, q2, q, q3⟩
  · subst q
    refine ok_ast4 3 rfl rfl rfl (ok_aload 4 rfl rfl rfl (ok_ifnullN 5 28 rfl rfl rfl (ok_iconst 13 rfl rfl (by decide) (ok_iret 14 rfl rfl rfl ?_))))
    exact ⟨_, rfl, QA_rf h⟩
  · subst q
    have ht := sl_tA ⟨q1, q2⟩
    have hT := (h.2.1 _ ht).1
    have m1 := hT.1
    have m2 := hT.2.1
    refine ok_ast4 3 rfl rfl rfl (ok_aload 4 rfl rfl rfl (ok_ifnull 5 rfl rfl (ok_iload_n 6 rfl rfl rfl (ok_callSI (M' := M_Ev_isCell) (as := [_]) 7 rfl rfl ml_X11_208 (s_Ev_isCell) ⟨Nat.le_of_ble_eq_true rfl, Nat.le_of_ble_eq_true rfl⟩ rfl (Nat.le_of_ble_eq_true rfl) (fun σ' z0 x0 => ?_)))))
    obtain ⟨hs_, x0⟩ := x0
    rw [hs_]; clear hs_ σ'
    refine ok_if_eq 8 28 rfl rfl rfl (fun h16 => ?_) (fun h16 => ?_)
    · refine ok_iconst 13 rfl rfl (by decide) (ok_iret 14 rfl rfl rfl ?_)
      exact ⟨_, rfl, QA_rf h⟩
    · refine ok_aload 9 rfl rfl rfl (ok_iload_n 10 rfl rfl rfl (ok_callVI (M' := M_Ta_has) (as := [_]) 11 rfl rfl ml_X11_129 (s_Ta_has ht) (sT ht) rfl (Nat.le_of_ble_eq_true rfl) ⟨Nat.le_of_ble_eq_true rfl, Nat.le_of_ble_eq_true rfl⟩ rfl (Nat.le_of_ble_eq_true rfl) (fun σ' z1 x1 => ?_)))
      obtain ⟨hs_, x1⟩ := x1
      rw [hs_]; clear hs_ σ'
      refine ok_if_ne 12 30 rfl rfl rfl (fun h25 => ?_) (fun h25 => ?_)
      · refine ok_aload_n 15 rfl rfl rfl (ok_getR 16 rfl rfl fl_X11_32 rfl rfl (ok_aload 17 rfl rfl rfl (ok_iload_n 18 rfl rfl rfl (ok_callVL (M' := M_Ta_joinedBy) (as := [_]) 19 rfl rfl ml_X11_119 (s_Ta_joinedBy ht hT) (sT ht) rfl (Nat.le_of_ble_eq_true rfl) ⟨Nat.le_of_ble_eq_true rfl, Nat.le_of_ble_eq_true rfl⟩ rfl (Nat.le_of_ble_eq_true rfl) (fun σ' z2 x2 => ?_)))))
        obtain ⟨hs_, x2⟩ := x2
        rw [hs_]; clear hs_ σ'
        refine ok_aload 20 rfl rfl rfl (ok_getI 21 rfl rfl fl_X11_103 (sT ht) rfl (Or.inl rfl) (ok_callVI (M' := M_Ch_findFirst) (as := [_, _]) 22 rfl rfl ml_X11_223 (s_Ch_findFirst h.2.2.1 ⟨m1, m2⟩) rfl rfl (Nat.le_of_ble_eq_true rfl) ⟨Nat.le_of_ble_eq_true rfl, Nat.le_of_ble_eq_true rfl⟩ rfl (Nat.le_of_ble_eq_true rfl) (fun τ z3 f => ?_)))
        refine ok_if_eq 23 63 rfl rfl rfl (fun h48 => ?_) (fun h48 => ?_)
        · refine ok_iconst 30 rfl rfl (by decide) (ok_iret 31 rfl rfl rfl ?_)
          exact ⟨_, rfl, QA_C h f.1 f.2.1 (f.2.2.2.mono (by decide))⟩
        · refine ok_aload_n 24 rfl rfl rfl (ok_getR 25 rfl rfl fl_X11_32 rfl rfl (ok_getR 26 rfl rfl fl_X11_227 rfl rfl (ok_iload_n 27 rfl rfl rfl (ok_iald 28 rfl rfl rfl (by first | omega | (simp [up_if]; omega) | (simp [up_if] at *; omega)) (ok_goto 29 64 rfl rfl rfl (ok_iret 31 rfl rfl rfl ?_))))))
          exact ⟨_, rfl, QA_C h f.1 f.2.1 (f.2.2.2.mono (by decide))⟩
      · refine ok_iconst 13 rfl rfl (by decide) (ok_iret 14 rfl rfl rfl ?_)
        exact ⟨_, rfl, QA_rf h⟩
theorem s_Ev_ways {σ : eS} {s m : Int} (h : IA σ) : MtI shA M_Ev_ways [vr 0, vi s, vi m] σ (fun σ' _ => QA σ σ') := by
  refine Mt.of okM_Ev_ways (Nat.le_of_ble_eq_true rfl) (fun hk hg => ?_)
  refine ok_aload_n 0 rfl rfl rfl (ok_iload_n 1 rfl rfl rfl (ok_callVR (M' := M_Ev_filledSlot) (as := [_]) 2 rfl rfl ml_X11_137 (s_Ev_filledSlot) rfl rfl (Nat.le_of_ble_eq_true rfl) ⟨Nat.le_of_ble_eq_true rfl, Nat.le_of_ble_eq_true rfl⟩ rfl (Nat.le_of_ble_eq_true rfl) (fun σ' z hz => ?_)))
  obtain ⟨hs_, hz⟩ := hz
  rw [hs_]; clear hs_ σ'
  rcases hz with ⟨q, q0⟩ | ⟨q1, q2, q, q3⟩
  · subst q
    refine ok_ast3 3 rfl rfl rfl (ok_aload_n 4 rfl rfl rfl (ok_ifnullN 5 17 rfl rfl rfl (ok_iconst 9 rfl rfl (by decide) (ok_iret 10 rfl rfl rfl ?_))))
    exact ⟨_, rfl, QA_rf h⟩
  · subst q
    have ht := sl_tA ⟨q1, q2⟩
    have hT := (h.2.1 _ ht).1
    refine ok_ast3 3 rfl rfl rfl (ok_aload_n 4 rfl rfl rfl (ok_ifnull 5 rfl rfl (ok_iload_n 6 rfl rfl rfl (ok_callSI (M' := M_Ev_isCell) (as := [_]) 7 rfl rfl ml_X11_208 (s_Ev_isCell) ⟨Nat.le_of_ble_eq_true rfl, Nat.le_of_ble_eq_true rfl⟩ rfl (Nat.le_of_ble_eq_true rfl) (fun σ' z0 x0 => ?_)))))
    obtain ⟨hs_, x0⟩ := x0
    rw [hs_]; clear hs_ σ'
    refine ok_if_ne 8 19 rfl rfl rfl (fun h14 => ?_) (fun h14 => ?_)
    · refine ok_aload_n 11 rfl rfl rfl (ok_getR 12 rfl rfl fl_X11_32 rfl rfl (ok_aload_n 13 rfl rfl rfl (ok_iload_n 14 rfl rfl rfl (ok_callVL (M' := M_Ta_joinedBy) (as := [_]) 15 rfl rfl ml_X11_119 (s_Ta_joinedBy ht hT) (sT ht) rfl (Nat.le_of_ble_eq_true rfl) ⟨Nat.le_of_ble_eq_true rfl, Nat.le_of_ble_eq_true rfl⟩ rfl (Nat.le_of_ble_eq_true rfl) (fun σ' z2 x2 => ?_)))))
      obtain ⟨hs_, x2⟩ := x2
      rw [hs_]; clear hs_ σ'
      refine ok_aload_n 16 rfl rfl rfl (ok_getI 17 rfl rfl fl_X11_103 (sT ht) rfl (Or.inl rfl) (ok_callVL (M' := M_Ch_countAll) (as := [_, _]) 18 rfl rfl ml_X11_230 (s_Ch_countAll ⟨hT.1, hT.2.1⟩) rfl rfl (Nat.le_of_ble_eq_true rfl) ⟨Nat.le_of_ble_eq_true rfl, Nat.le_of_ble_eq_true rfl⟩ rfl (Nat.le_of_ble_eq_true rfl) (fun τ z3 f => ?_)))
      refine ok_l2iW 19 rfl rfl (ok_iret 20 rfl rfl rfl ?_)
      exact ⟨_, rfl, QA_18 h f⟩
    · refine ok_iconst 9 rfl rfl (by decide) (ok_iret 10 rfl rfl rfl ?_)
      exact ⟨_, rfl, QA_rf h⟩
theorem s_Ev_widest {σ : eS} {s : Int} (h : IA σ) : MtI shA M_Ev_widest [vr 0, vi s] σ (fun σ' _ => QA σ σ') := by
  refine Mt.of okM_Ev_widest (Nat.le_of_ble_eq_true rfl) (fun hk hg => ?_)
  refine ok_aload_n 0 rfl rfl rfl (ok_iload_n 1 rfl rfl rfl (ok_callVR (M' := M_Ev_filledSlot) (as := [_]) 2 rfl rfl ml_X11_137 (s_Ev_filledSlot) rfl rfl (Nat.le_of_ble_eq_true rfl) ⟨Nat.le_of_ble_eq_true rfl, Nat.le_of_ble_eq_true rfl⟩ rfl (Nat.le_of_ble_eq_true rfl) (fun σ' z hz => ?_)))
  obtain ⟨hs_, hz⟩ := hz
  rw [hs_]; clear hs_ σ'
  rcases hz with ⟨q, q0⟩ | ⟨q1, q2, q, q3⟩
  · subst q
    refine ok_ast2 3 rfl rfl rfl (ok_aload_n 4 rfl rfl rfl (ok_ifnonnullN 5 rfl rfl (ok_iconst 6 rfl rfl (by decide) (ok_goto 7 35 rfl rfl rfl (ok_iret 19 rfl rfl rfl ?_)))))
    exact ⟨_, rfl, QA_rf h⟩
  · subst q
    have ht := sl_tA ⟨q1, q2⟩
    have hT := (h.2.1 _ ht).1
    refine ok_ast2 3 rfl rfl rfl (ok_aload_n 4 rfl rfl rfl (ok_ifnonnull 5 14 rfl rfl rfl (ok_aload_n 8 rfl rfl rfl (ok_getR 9 rfl rfl fl_X11_32 rfl rfl (ok_aload_n 10 rfl rfl rfl (ok_getR 11 rfl rfl fl_X11_133 (sT ht) rfl (ok_aload_n 12 rfl rfl rfl (ok_iconst 13 rfl rfl (by decide) (ok_callVL (M' := M_Ta_joinedBy) (as := [_]) 14 rfl rfl ml_X11_119 (s_Ta_joinedBy ht hT) (sT ht) rfl (Nat.le_of_ble_eq_true rfl) ⟨Nat.le_of_ble_eq_true rfl, Nat.le_of_ble_eq_true rfl⟩ rfl (Nat.le_of_ble_eq_true rfl) (fun σ' z2 x2 => ?_))))))))))
    obtain ⟨hs_, x2⟩ := x2
    rw [hs_]; clear hs_ σ'
    refine ok_aload_n 15 rfl rfl rfl (ok_getI 16 rfl rfl fl_X11_103 (sT ht) rfl (Or.inl rfl) (ok_callVL (M' := M_Ch_greatestLeast) (as := [_, _, _]) 17 rfl rfl ml_X11_234 (s_Ch_greatestLeast (sC ht) ⟨hT.1, hT.2.1⟩) rfl rfl (Nat.le_of_ble_eq_true rfl) ⟨Nat.le_of_ble_eq_true rfl, Nat.le_of_ble_eq_true rfl⟩ rfl (Nat.le_of_ble_eq_true rfl) (fun τ z3 f => ?_)))
    refine ok_l2iW 18 rfl rfl (ok_iret 19 rfl rfl rfl ?_)
    exact ⟨_, rfl, QA_18 h f⟩
theorem s_Ev_best {σ : eS} {s w : Int} (h : IA σ) : MtL shA M_Ev_best [vr 0, vi s, vi w] σ (fun σ' _ => QA σ σ') := by
  refine Mt.of okM_Ev_best (Nat.le_of_ble_eq_true rfl) (fun hk hg => ?_)
  have hrw : rg w := hk.2.2.1
  refine ok_aload_n 0 rfl rfl rfl (ok_iload_n 1 rfl rfl rfl (ok_callVR (M' := M_Ev_filledSlot) (as := [_]) 2 rfl rfl ml_X11_137 (s_Ev_filledSlot) rfl rfl (Nat.le_of_ble_eq_true rfl) ⟨Nat.le_of_ble_eq_true rfl, Nat.le_of_ble_eq_true rfl⟩ rfl (Nat.le_of_ble_eq_true rfl) (fun σ' z hz => ?_)))
  obtain ⟨hs_, hz⟩ := hz
  rw [hs_]; clear hs_ σ'
  rcases hz with ⟨q, q0⟩ | ⟨q1, q2, q, q3⟩
  · subst q
    refine ok_ast3 3 rfl rfl rfl (ok_aload_n 4 rfl rfl rfl (ok_ifnullN 5 31 rfl rfl rfl (ok_ldc2 17 (-1) rfl rfl kc_X11_238 (by decide) (ok_lret 18 rfl rfl rfl ?_))))
    exact ⟨_, rfl, QA_rf h⟩
  · subst q
    have ht := sl_tA ⟨q1, q2⟩
    have hT := (h.2.1 _ ht).1
    have m1 := hT.1
    have m2 := hT.2.1
    have tail : (w ≠ 0 → 0 ≤ w - 10 ∧ w - 10 < σ (s.toNat + 2) 1) → Ok shA M_Ev_best 35 [some (vr 0), some (vi s), some (vi w), some (vr (s.toNat + 2)), none, none] [] σ (fun σ' v => ∃ z, v = some (vl z) ∧ QA σ σ') := by
      intro hw
      refine ok_aload_n 19 rfl rfl rfl (ok_getR 20 rfl rfl fl_X11_32 rfl rfl (ok_aload_n 21 rfl rfl rfl (ok_getR 22 rfl rfl fl_X11_133 (sT ht) rfl (ok_aload_n 23 rfl rfl rfl (ok_iconst 24 rfl rfl (by decide) (ok_callVL (M' := M_Ta_joinedBy) (as := [_]) 25 rfl rfl ml_X11_119 (s_Ta_joinedBy ht hT) (sT ht) rfl (Nat.le_of_ble_eq_true rfl) ⟨Nat.le_of_ble_eq_true rfl, Nat.le_of_ble_eq_true rfl⟩ rfl (Nat.le_of_ble_eq_true rfl) (fun σ' z2 x2 => ?_)))))))
      obtain ⟨hs_, x2⟩ := x2
      rw [hs_]; clear hs_ σ'
      refine ok_aload_n 26 rfl rfl rfl (ok_getI 27 rfl rfl fl_X11_103 (sT ht) rfl (Or.inl rfl) (ok_callVL (M' := M_Ch_findRichest) (as := [_, _, _]) 28 rfl rfl ml_X11_240 (s_Ch_findRichest (sC ht) h.2.2.1 ⟨m1, m2⟩) rfl rfl (Nat.le_of_ble_eq_true rfl) ⟨Nat.le_of_ble_eq_true rfl, Nat.le_of_ble_eq_true rfl⟩ rfl (Nat.le_of_ble_eq_true rfl) (fun τ z3 f => ?_)))
      refine ok_lst4 29 rfl rfl rfl (ok_iload_n 30 rfl rfl rfl (ok_if_ne 31 66 rfl rfl rfl (fun h58 => ?_) (fun h58 => ?_)))
      · refine ok_aload_n 34 rfl rfl rfl (ok_getR 35 rfl rfl fl_X11_32 rfl rfl (ok_getR 36 rfl rfl fl_X11_227 rfl rfl (ok_iload_n 37 rfl rfl rfl (ok_bipush 38 rfl rfl (by decide) (by decide) (ok_isub 39 rfl rfl (by first | omega | (simp [up_if]; omega) | (simp [up_if] at *; omega)) (ok_iald 40 rfl rfl rfl (by first | omega | (simp [up_if]; omega) | (simp [up_if] at *; omega)) (ok_i2l 41 rfl rfl (ok_lret 42 rfl rfl rfl ?_))))))))
        exact ⟨_, rfl, QA_C h f.1 f.2.1 (f.2.2.mono (by decide))⟩
      · refine ok_lload 32 rfl rfl rfl (ok_goto 33 79 rfl rfl rfl (ok_lret 42 rfl rfl rfl ?_))
        exact ⟨_, rfl, QA_C h f.1 f.2.1 (f.2.2.mono (by decide))⟩
    refine ok_ast3 3 rfl rfl rfl (ok_aload_n 4 rfl rfl rfl (ok_ifnull 5 rfl rfl (ok_iload_n 6 rfl rfl rfl (ok_if_eq 7 35 rfl rfl rfl (fun h11 => ?_) (fun h11 => ?_)))))
    · exact tail (by omega)
    · refine ok_iload_n 8 rfl rfl rfl (ok_bipush 9 rfl rfl (by decide) (by decide) (ok_icmp_lt 10 31 rfl rfl rfl (fun h17 => ?_) (fun h17 => ?_)))
      · refine ok_ldc2 17 (-1) rfl rfl kc_X11_238 (by decide) (ok_lret 18 rfl rfl rfl ?_)
        exact ⟨_, rfl, QA_rf h⟩
      · refine ok_aload_n 11 rfl rfl rfl (ok_iload_n 12 rfl rfl rfl (ok_bipush 13 rfl rfl (by decide) (by decide) (ok_isub 14 rfl rfl (by first | omega | (simp [up_if]; omega) | (simp [up_if] at *; omega)) (ok_callVI (M' := M_Ta_has) (as := [_]) 15 rfl rfl ml_X11_129 (s_Ta_has ht) (sT ht) rfl (Nat.le_of_ble_eq_true rfl) ⟨Nat.le_of_ble_eq_true rfl, Nat.le_of_ble_eq_true rfl⟩ rfl (Nat.le_of_ble_eq_true rfl) (fun σ' z1 x1 => ?_)))))
        obtain ⟨hs_, x1⟩ := x1
        rw [hs_]; clear hs_ σ'
        refine ok_if_ne 16 35 rfl rfl rfl (fun h28 => ?_) (fun h28 => ?_)
        · exact tail (by omega)
        · refine ok_ldc2 17 (-1) rfl rfl kc_X11_238 (by decide) (ok_lret 18 rfl rfl rfl ?_)
          exact ⟨_, rfl, QA_rf h⟩
theorem s_Ev_permanent {σ : eS} {s : Int} (h : IA σ) : MtL shA M_Ev_permanent [vr 0, vi s] σ (fun σ' _ => QA σ σ') := by
  refine Mt.of okM_Ev_permanent (Nat.le_of_ble_eq_true rfl) (fun hk hg => ?_)
  refine ok_aload_n 0 rfl rfl rfl (ok_iload_n 1 rfl rfl rfl (ok_callVR (M' := M_Ev_filledSlot) (as := [_]) 2 rfl rfl ml_X11_137 (s_Ev_filledSlot) rfl rfl (Nat.le_of_ble_eq_true rfl) ⟨Nat.le_of_ble_eq_true rfl, Nat.le_of_ble_eq_true rfl⟩ rfl (Nat.le_of_ble_eq_true rfl) (fun σ' z hz => ?_)))
  obtain ⟨hs_, hz⟩ := hz
  rw [hs_]; clear hs_ σ'
  rcases hz with ⟨q, q0⟩ | ⟨q1, q2, q, q3⟩
  · subst q
    refine ok_ast2 3 rfl rfl rfl (ok_aload_n 4 rfl rfl rfl (ok_ifnonnullN 5 rfl rfl (ok_ldc2 6 (-1) rfl rfl kc_X11_238 (by decide) (ok_goto 7 31 rfl rfl rfl (ok_lret 15 rfl rfl rfl ?_)))))
    exact ⟨_, rfl, QA_rf h⟩
  · subst q
    have ht := sl_tA ⟨q1, q2⟩
    have hT := (h.2.1 _ ht).1
    refine ok_ast2 3 rfl rfl rfl (ok_aload_n 4 rfl rfl rfl (ok_ifnonnull 5 16 rfl rfl rfl (ok_aload_n 8 rfl rfl rfl (ok_getR 9 rfl rfl fl_X11_32 rfl rfl (ok_aload_n 10 rfl rfl rfl (ok_getR 11 rfl rfl fl_X11_133 (sT ht) rfl (ok_aload_n 12 rfl rfl rfl (ok_getI 13 rfl rfl fl_X11_103 (sT ht) rfl (Or.inl rfl) (ok_callVL (M' := M_Ch_multiplyAll) (as := [_, _]) 14 rfl rfl ml_X11_243 (s_Ch_multiplyAll (sC ht) ⟨hT.1, hT.2.1⟩) rfl rfl (Nat.le_of_ble_eq_true rfl) ⟨Nat.le_of_ble_eq_true rfl, Nat.le_of_ble_eq_true rfl⟩ rfl (Nat.le_of_ble_eq_true rfl) (fun τ z3 f => ?_))))))))))
    refine ok_lret 15 rfl rfl rfl ?_
    exact ⟨_, rfl, QA_18 h f⟩
end
