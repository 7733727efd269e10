theorem sm_mn {f : Int → Int} {m : Nat} : ∀ {n : Nat}, m ≤ n → (∀ k : Int, 0 ≤ k → k < n → 0 ≤ f k) → sm f m ≤ sm f n
  | 0, h, _ => by rw [show m = 0 by omega]; exact Int.le_refl _
  | n + 1, h, p => by
    rcases (by omega : m ≤ n ∨ m = n + 1) with q | q
    · have e := sm_s f (j := (n : Int)) (by omega)
      rw [show ((n : Int) + 1).toNat = n + 1 by omega, Int.toNat_natCast] at e
      have := sm_mn q (fun k a b => p k a (by omega))
      have := p (n : Int) (by omega) (by omega)
      omega
    · rw [q]; exact Int.le_refl _
theorem mi_bd {σ : eS} {k : Int} (h : iMi σ) (hk : 0 ≤ k) (hk2 : k < σ 22 5) : 0 ≤ σ 23 k ∧ 0 ≤ sm (fun k => σ 23 k) k.toNat ∧ sm (fun k => σ 23 k) k.toNat + σ 23 k ≤ 799999992 := by
  obtain ⟨⟨h1, h2, h3, h4, h5, h6, h7⟩, a, b, c⟩ := h
  have p := a k hk hk2
  have e := sm_s (fun k => σ 23 k) (j := k) hk
  have m := sm_mn (f := fun k => σ 23 k) (m := (k + 1).toNat) (n := (σ 22 5).toNat) (by omega) (fun k x y => a k x (by omega))
  have z := sm_mn (f := fun k => σ 23 k) (m := 0) (n := k.toNat) (by omega) (fun k x y => a k x (by omega))
  have z0 : sm (fun k => σ 23 k) 0 = 0 := rfl
  omega
theorem s_Mi_columnOf {σ : eS} {k r : Int} (h : iMi σ) (hk : 0 ≤ k ∧ k < 64) (hr : 0 ≤ r ∧ r < 8) : MtI shA M_Mi_columnOf [vr 22, vi k, vi r] σ (fun σ' z => σ' = σ ∧ z = σ 24 (k * 8 + r) ∧ 0 ≤ z ∧ z ≤ 7) := by
  refine Mt.of okM_Mi_columnOf (Nat.le_of_ble_eq_true rfl) (fun hk hg => ?_)
  have b := h.2.2.1 (k * 8 + r) (by omega) (by omega)
  refine ok_aload_n 0 rfl rfl rfl (ok_getR 1 rfl rfl fl_X3_15 rfl rfl (ok_iload_n 2 rfl rfl rfl (ok_bipush 3 rfl rfl (by decide) (by decide) (ok_imul 4 rfl rfl (by first | omega | (simp [up_if]; omega) | (simp [up_if] at *; omega)) (ok_iload_n 5 rfl rfl rfl (ok_iadd 6 rfl rfl (by first | omega | (simp [up_if]; omega) | (simp [up_if] at *; omega)) (ok_iald 7 rfl rfl rfl (by first | omega | (simp [up_if]; omega) | (simp [up_if] at *; omega)) (ok_iret 8 rfl rfl rfl ?_))))))))
  exact ⟨_, rfl, rfl, rfl, b.1, b.2⟩
theorem s_Mi_hasPart {σ : eS} {k : Int} : MtI shA M_Mi_hasPart [vr 22, vi k] σ (fun σ' z => σ' = σ ∧ ((z = 1 ∧ 0 ≤ k ∧ k < σ 22 5) ∨ (z = 0 ∧ ¬ (0 ≤ k ∧ k < σ 22 5)))) := by
  refine Mt.of okM_Mi_hasPart (Nat.le_of_ble_eq_true rfl) (fun hk hg => ?_)
  refine ok_iload_n 0 rfl rfl rfl (ok_if_lt 1 16 rfl rfl rfl (fun h1 => ?_) (fun h1 => ?_))
  · refine ok_iconst 8 rfl rfl (by decide) (ok_zret 9 rfl rfl rfl (by first | omega | (simp [up_if]; omega) | (simp [up_if] at *; omega)) ?_)
    exact ⟨_, rfl, rfl, by omega⟩
  · refine ok_iload_n 2 rfl rfl rfl (ok_aload_n 3 rfl rfl rfl (ok_getI 4 rfl rfl fl_X3_28 rfl rfl (Or.inl rfl) (ok_icmp_ge 5 16 rfl rfl rfl (fun h9 => ?_) (fun h9 => ?_))))
    · refine ok_iconst 8 rfl rfl (by decide) (ok_zret 9 rfl rfl rfl (by first | omega | (simp [up_if]; omega) | (simp [up_if] at *; omega)) ?_)
      exact ⟨_, rfl, rfl, by omega⟩
    · refine ok_iconst 6 rfl rfl (by decide) (ok_goto 7 17 rfl rfl rfl (ok_zret 9 rfl rfl rfl (by first | omega | (simp [up_if]; omega) | (simp [up_if] at *; omega)) ?_))
      exact ⟨_, rfl, rfl, by omega⟩
theorem s_Mi_hasRow {σ : eS} {k : Int} : MtI shA M_Mi_hasRow [vr 22, vi k] σ (fun σ' z => σ' = σ ∧ ((z = 1 ∧ 0 ≤ k ∧ k < σ 22 4) ∨ (z = 0 ∧ ¬ (0 ≤ k ∧ k < σ 22 4)))) := by
  refine Mt.of okM_Mi_hasRow (Nat.le_of_ble_eq_true rfl) (fun hk hg => ?_)
  refine ok_iload_n 0 rfl rfl rfl (ok_if_lt 1 16 rfl rfl rfl (fun h1 => ?_) (fun h1 => ?_))
  · refine ok_iconst 8 rfl rfl (by decide) (ok_zret 9 rfl rfl rfl (by first | omega | (simp [up_if]; omega) | (simp [up_if] at *; omega)) ?_)
    exact ⟨_, rfl, rfl, by omega⟩
  · refine ok_iload_n 2 rfl rfl rfl (ok_aload_n 3 rfl rfl rfl (ok_getI 4 rfl rfl fl_X3_25 rfl rfl (Or.inl rfl) (ok_icmp_ge 5 16 rfl rfl rfl (fun h9 => ?_) (fun h9 => ?_))))
    · refine ok_iconst 8 rfl rfl (by decide) (ok_zret 9 rfl rfl rfl (by first | omega | (simp [up_if]; omega) | (simp [up_if] at *; omega)) ?_)
      exact ⟨_, rfl, rfl, by omega⟩
    · refine ok_iconst 6 rfl rfl (by decide) (ok_goto 7 17 rfl rfl rfl (ok_zret 9 rfl rfl rfl (by first | omega | (simp [up_if]; omega) | (simp [up_if] at *; omega)) ?_))
      exact ⟨_, rfl, rfl, by omega⟩
theorem s_Mi_hasJob {σ : eS} {k : Int} : MtI shA M_Mi_hasJob [vr 22, vi k] σ (fun σ' z => σ' = σ ∧ ((z = 1 ∧ σ 22 2 = 2 ∧ 0 ≤ k ∧ k < σ 22 3) ∨ (z = 0 ∧ ¬ (σ 22 2 = 2 ∧ 0 ≤ k ∧ k < σ 22 3)))) := by
  refine Mt.of okM_Mi_hasJob (Nat.le_of_ble_eq_true rfl) (fun hk hg => ?_)
  refine ok_aload_n 0 rfl rfl rfl (ok_getI 1 rfl rfl fl_X3_18 rfl rfl (Or.inl rfl) (ok_iconst 2 rfl rfl (by decide) (ok_icmp_ne 3 24 rfl rfl rfl (fun h5 => ?_) (fun h5 => ?_))))
  · refine ok_iconst 12 rfl rfl (by decide) (ok_zret 13 rfl rfl rfl (by first | omega | (simp [up_if]; omega) | (simp [up_if] at *; omega)) ?_)
    exact ⟨_, rfl, rfl, by omega⟩
  · refine ok_iload_n 4 rfl rfl rfl (ok_if_lt 5 24 rfl rfl rfl (fun h9 => ?_) (fun h9 => ?_))
    · refine ok_iconst 12 rfl rfl (by decide) (ok_zret 13 rfl rfl rfl (by first | omega | (simp [up_if]; omega) | (simp [up_if] at *; omega)) ?_)
      exact ⟨_, rfl, rfl, by omega⟩
    · refine ok_iload_n 6 rfl rfl rfl (ok_aload_n 7 rfl rfl rfl (ok_getI 8 rfl rfl fl_X3_22 rfl rfl (Or.inl rfl) (ok_icmp_ge 9 24 rfl rfl rfl (fun h17 => ?_) (fun h17 => ?_))))
      · refine ok_iconst 12 rfl rfl (by decide) (ok_zret 13 rfl rfl rfl (by first | omega | (simp [up_if]; omega) | (simp [up_if] at *; omega)) ?_)
        exact ⟨_, rfl, rfl, by omega⟩
      · refine ok_iconst 10 rfl rfl (by decide) (ok_goto 11 25 rfl rfl rfl (ok_zret 13 rfl rfl rfl (by first | omega | (simp [up_if]; omega) | (simp [up_if] at *; omega)) ?_))
        exact ⟨_, rfl, rfl, by omega⟩
theorem s_Mi_inLeastTerms {σ : eS} {w b : Int} (h : iMi σ) (hw : 0 ≤ w ∧ w ≤ 799999992) : MtI shA M_Mi_inLeastTerms [vr 22, vi w, vi b] σ (fun σ' _ => σ' = σ ∧ True) := by
  refine Mt.of okM_Mi_inLeastTerms (Nat.le_of_ble_eq_true rfl) (fun hk hg => ?_)
  obtain ⟨⟨h1, h2, h3, h4, h5, h6, h7⟩, a, b, c⟩ := h
  refine ok_aload_n 0 rfl rfl rfl (ok_getI 1 rfl rfl fl_X3_31 rfl rfl (Or.inl rfl) (ok_i2l 2 rfl rfl (ok_iload_n 3 rfl rfl rfl (ok_i2l 4 rfl rfl (ok_callSL (M' := M_Nu_greatestDivisor) (as := [_, _]) 5 rfl rfl ml_X3_40 (s_Nu_greatestDivisor h5 ⟨hw.1, by omega⟩) ⟨Nat.le_of_ble_eq_true rfl, Nat.le_of_ble_eq_true rfl⟩ rfl (Nat.le_of_ble_eq_true rfl) (fun σ' z hz => ?_))))))
  rw [hz.1, hz.2]
  clear hz z σ'
  refine ok_l2iW 6 rfl rfl (ok_ist3 7 rfl rfl rfl (ok_iload_n 8 rfl rfl rfl (ok_iconst 9 rfl rfl (by decide) (ok_icmp_ge 10 19 rfl rfl rfl (fun h14 => ?_) (fun h14 => ?_)))))
  · refine ok_iload_n 13 rfl rfl rfl (ok_if_eq 14 29 rfl rfl rfl (fun h20 => ?_) (fun h20 => ?_))
    · refine ok_aload_n 19 rfl rfl rfl (ok_getI 20 rfl rfl fl_X3_31 rfl rfl (Or.inl rfl) (ok_iload_n 21 rfl rfl rfl (ok_idiv 22 rfl rfl (by first | omega | (simp [up_if]; omega) | (simp [up_if] at *; omega)) (by first | omega | (simp [up_if]; omega) | (simp [up_if] at *; omega)) (ok_iret 23 rfl rfl rfl ?_))))
      exact ⟨_, rfl, rfl, trivial⟩
    · refine ok_iload_n 15 rfl rfl rfl (ok_iload_n 16 rfl rfl rfl (ok_idiv 17 rfl rfl (by first | omega | (simp [up_if]; omega) | (simp [up_if] at *; omega)) (by first | omega | (simp [up_if]; omega) | (simp [up_if] at *; omega)) (ok_goto 18 35 rfl rfl rfl (ok_iret 23 rfl rfl rfl ?_))))
      exact ⟨_, rfl, rfl, trivial⟩
  · refine ok_iconst 11 rfl rfl (by decide) (ok_iret 12 rfl rfl rfl ?_)
    exact ⟨_, rfl, rfl, trivial⟩
theorem s_Mi_partAt {σ : eS} {r : Int} (h : iMi σ) : MtI shA M_Mi_partAt [vr 22, vi r] σ (fun σ' z => σ' = σ ∧ (z = -1 ∨ (0 ≤ z ∧ z < σ 22 5))) := by
  refine Mt.of okM_Mi_partAt (Nat.le_of_ble_eq_true rfl) (fun hk hg => ?_)
  obtain ⟨⟨h1, h2, h3, h4, h5, h6, h7⟩, a, b, c⟩ := id h
  refine ok_iload_n 0 rfl rfl rfl (ok_if_ge 1 6 rfl rfl rfl (fun h1 => ?_) (fun h1 => ?_))
  · refine ok_iload_n 4 rfl rfl rfl (ok_ist2 5 rfl rfl rfl (ok_iconst 6 rfl rfl (by decide) (ok_ist3 7 rfl rfl rfl ?_)))
    refine lpO2 (fun (v j : Int) => [some (vr 22), some (vi r), some (vi v), some (vi j)]) (fun _ _ => σ) (fun v j => 0 ≤ j ∧ j ≤ 64 ∧ 0 ≤ v ∧ v ≤ r) (fun _ j => (64 - j).toNat) ?_ r 0 ⟨by omega, by omega, by omega, by omega⟩
    have hr : rg r := hk.2.1
    rintro v j ⟨j1, j2, v1, v2⟩ ih
    refine ok_iload_n 8 rfl rfl rfl (ok_aload_n 9 rfl rfl rfl (ok_getI 10 rfl rfl fl_X3_28 rfl rfl (Or.inl rfl) (ok_icmp_ge 11 45 rfl rfl rfl (fun h15 => ?_) (fun h15 => ?_))))
    · refine ok_iconst 29 rfl rfl (by decide) (ok_iret 30 rfl rfl rfl ?_)
      exact ⟨_, rfl, rfl, Or.inl rfl⟩
    · have w := mi_bd h j1 (by omega)
      refine ok_iload_n 12 rfl rfl rfl (ok_aload_n 13 rfl rfl rfl (ok_getR 14 rfl rfl fl_X3_9 rfl rfl (ok_iload_n 15 rfl rfl rfl (ok_iald 16 rfl rfl rfl (by first | omega | (simp [up_if]; omega) | (simp [up_if] at *; omega)) (ok_icmp_ge 17 30 rfl rfl rfl (fun h25 => ?_) (fun h25 => ?_))))))
      · refine ok_iload_n 20 rfl rfl rfl (ok_aload_n 21 rfl rfl rfl (ok_getR 22 rfl rfl fl_X3_9 rfl rfl (ok_iload_n 23 rfl rfl rfl (ok_iald 24 rfl rfl rfl (by first | omega | (simp [up_if]; omega) | (simp [up_if] at *; omega)) (ok_isub 25 rfl rfl (by first | omega | (simp [up_if]; omega) | (simp [up_if] at *; omega)) (ok_ist2 26 rfl rfl rfl (ok_inc3 27 rfl rfl rfl (by first | omega | (simp [up_if]; omega) | (simp [up_if] at *; omega)) (ok_goto 28 10 rfl rfl rfl ?_))))))))
        exact ih _ (j + 1) ⟨by omega, by omega, by omega, by omega⟩ (by omega)
      · refine ok_iload_n 18 rfl rfl rfl (ok_iret 19 rfl rfl rfl ?_)
        exact ⟨_, rfl, rfl, Or.inr ⟨by omega, by omega⟩⟩
  · refine ok_iconst 2 rfl rfl (by decide) (ok_iret 3 rfl rfl rfl ?_)
    exact ⟨_, rfl, rfl, Or.inl rfl⟩
theorem s_Mi_weightOfBoth {σ : eS} {r c r2 c2 : Int} (h : iMi σ) (hr : 0 ≤ r ∧ r < 8) (hr2 : 0 ≤ r2 ∧ r2 < 8) : MtI shA M_Mi_weightOfBoth [vr 22, vi r, vi c, vi r2, vi c2] σ (fun σ' z => σ' = σ ∧ 0 ≤ z ∧ z ≤ 799999992) := by
  refine Mt.of okM_Mi_weightOfBoth (Nat.le_of_ble_eq_true rfl) (fun hk hg => ?_)
  obtain ⟨⟨h1, h2, h3, h4, h5, h6, h7⟩, a, b, d⟩ := id h
  refine ok_iconst 0 rfl rfl (by decide) (ok_ist5 1 rfl rfl rfl (ok_iconst 2 rfl rfl (by decide) (ok_ist6 3 rfl rfl rfl ?_)))
  refine lpO2 (fun (v j : Int) => [some (vr 22), some (vi r), some (vi c), some (vi r2), some (vi c2), some (vi v), some (vi j)]) (fun _ _ => σ) (fun v j => 0 ≤ j ∧ j ≤ 64 ∧ 0 ≤ v ∧ v ≤ 799999992 ∧ (j ≤ σ 22 5 → v ≤ sm (fun k => σ 23 k) j.toNat)) (fun _ j => (64 - j).toNat) ?_ 0 0 ⟨by omega, by omega, by omega, by omega, fun _ => Int.le_refl _⟩
  rintro v j ⟨j1, j2, v1, v2, v3⟩ ih
  refine ok_iload 4 rfl rfl rfl (ok_aload_n 5 rfl rfl rfl (ok_getI 6 rfl rfl fl_X3_28 rfl rfl (Or.inl rfl) (ok_icmp_ge 7 56 rfl rfl rfl (fun h12 => ?_) (fun h12 => ?_))))
  · refine ok_iload 29 rfl rfl rfl (ok_iret 30 rfl rfl rfl ?_)
    exact ⟨_, rfl, rfl, v1, v2⟩
  · have w := mi_bd h j1 (by omega)
    have e := sm_s (fun k => σ 23 k) (j := j) j1
    have v4 := v3 (by omega)
    clear v3
    refine ok_aload_n 8 rfl rfl rfl (ok_iload 9 rfl rfl rfl (ok_iload_n 10 rfl rfl rfl (ok_callVI (M' := M_Mi_columnOf) (as := [_, _]) 11 rfl rfl ml_X3_46 (s_Mi_columnOf h ⟨by omega, by omega⟩ hr) rfl rfl (Nat.le_of_ble_eq_true rfl) ⟨Nat.le_of_ble_eq_true rfl, Nat.le_of_ble_eq_true rfl⟩ rfl (Nat.le_of_ble_eq_true rfl) (fun σ' z1 x1 => ?_))))
    obtain ⟨hs_, x1⟩ := x1
    rw [hs_]; clear hs_ σ'
    refine ok_iload_n 12 rfl rfl rfl (ok_icmp_ne 13 50 rfl rfl rfl (fun h23 => ?_) (fun h23 => ?_))
    · refine ok_inc6 27 rfl rfl rfl (by first | omega | (simp [up_if]; omega) | (simp [up_if] at *; omega)) (ok_goto 28 6 rfl rfl rfl ?_)
      exact ih _ (j + 1) ⟨by omega, by omega, by omega, by omega, fun _ => by omega⟩ (by omega)
    · refine ok_aload_n 14 rfl rfl rfl (ok_iload 15 rfl rfl rfl (ok_iload_n 16 rfl rfl rfl (ok_callVI (M' := M_Mi_columnOf) (as := [_, _]) 17 rfl rfl ml_X3_46 (s_Mi_columnOf h ⟨by omega, by omega⟩ hr2) rfl rfl (Nat.le_of_ble_eq_true rfl) ⟨Nat.le_of_ble_eq_true rfl, Nat.le_of_ble_eq_true rfl⟩ rfl (Nat.le_of_ble_eq_true rfl) (fun σ' z2 x2 => ?_))))
      obtain ⟨hs_, x2⟩ := x2
      rw [hs_]; clear hs_ σ'
      refine ok_iload 18 rfl rfl rfl (ok_icmp_ne 19 50 rfl rfl rfl (fun h35 => ?_) (fun h35 => ?_))
      · refine ok_inc6 27 rfl rfl rfl (by first | omega | (simp [up_if]; omega) | (simp [up_if] at *; omega)) (ok_goto 28 6 rfl rfl rfl ?_)
        exact ih _ (j + 1) ⟨by omega, by omega, by omega, by omega, fun _ => by omega⟩ (by omega)
      · refine ok_iload 20 rfl rfl rfl (ok_aload_n 21 rfl rfl rfl (ok_getR 22 rfl rfl fl_X3_9 rfl rfl (ok_iload 23 rfl rfl rfl (ok_iald 24 rfl rfl rfl (by first | omega | (simp [up_if]; omega) | (simp [up_if] at *; omega)) (ok_iadd 25 rfl rfl (by first | omega | (simp [up_if]; omega) | (simp [up_if] at *; omega)) (ok_ist5 26 rfl rfl rfl (ok_inc6 27 rfl rfl rfl (by first | omega | (simp [up_if]; omega) | (simp [up_if] at *; omega)) (ok_goto 28 6 rfl rfl rfl ?_))))))))
        exact ih _ (j + 1) ⟨by omega, by omega, by omega, by omega, fun _ => by omega⟩ (by omega)
theorem s_Mi_weightOf {σ : eS} {r c : Int} (h : iMi σ) (hr : 0 ≤ r ∧ r < 8) : MtI shA M_Mi_weightOf [vr 22, vi r, vi c] σ (fun σ' z => σ' = σ ∧ 0 ≤ z ∧ z ≤ 799999992) := by
  refine Mt.of okM_Mi_weightOf (Nat.le_of_ble_eq_true rfl) (fun hk hg => ?_)
  refine ok_aload_n 0 rfl rfl rfl (ok_iload_n 1 rfl rfl rfl (ok_iload_n 2 rfl rfl rfl (ok_iload_n 3 rfl rfl rfl (ok_iload_n 4 rfl rfl rfl (ok_callVI (M' := M_Mi_weightOfBoth) (as := [_, _, _, _]) 5 rfl rfl ml_X3_50 (s_Mi_weightOfBoth h hr hr) rfl rfl (Nat.le_of_ble_eq_true rfl) ⟨Nat.le_of_ble_eq_true rfl, Nat.le_of_ble_eq_true rfl⟩ rfl (Nat.le_of_ble_eq_true rfl) (fun σ' z hz => ?_))))))
  obtain ⟨hs_, hz⟩ := hz
  rw [hs_]; clear hs_ σ'
  refine ok_iret 6 rfl rfl rfl ?_
  exact ⟨_, rfl, rfl, hz⟩
theorem s_Mi_commonestColumn {σ : eS} {r : Int} (h : iMi σ) (hr : 0 ≤ r ∧ r < 8) : MtI shA M_Mi_commonestColumn [vr 22, vi r] σ (fun σ' _ => σ' = σ ∧ True) := by
  refine Mt.of okM_Mi_commonestColumn (Nat.le_of_ble_eq_true rfl) (fun hk hg => ?_)
  obtain ⟨⟨h1, h2, h3, h4, h5, h6, h7⟩, a, b, d⟩ := id h
  refine ok_iconst 0 rfl rfl (by decide) (ok_ist2 1 rfl rfl rfl (ok_iconst 2 rfl rfl (by decide) (ok_ist3 3 rfl rfl rfl ?_)))
  refine lpO2 (fun (v j : Int) => [some (vr 22), some (vi r), some (vi v), some (vi j)]) (fun _ _ => σ) (fun _ j => 1 ≤ j ∧ j ≤ 9) (fun _ j => (9 - j).toNat) ?_ 0 1 ⟨by omega, by omega⟩
  rintro v j ⟨j1, j2⟩ ih
  refine ok_iload_n 4 rfl rfl rfl (ok_aload_n 5 rfl rfl rfl (ok_getI 6 rfl rfl fl_X3_25 rfl rfl (Or.inl rfl) (ok_icmp_ge 7 35 rfl rfl rfl (fun h9 => ?_) (fun h9 => ?_))))
  · refine ok_iload_n 21 rfl rfl rfl (ok_iret 22 rfl rfl rfl ?_)
    exact ⟨_, rfl, rfl, trivial⟩
  · refine ok_aload_n 8 rfl rfl rfl (ok_iload_n 9 rfl rfl rfl (ok_iload_n 10 rfl rfl rfl (ok_callVI (M' := M_Mi_weightOf) (as := [_, _]) 11 rfl rfl ml_X3_54 (s_Mi_weightOf h hr) rfl rfl (Nat.le_of_ble_eq_true rfl) ⟨Nat.le_of_ble_eq_true rfl, Nat.le_of_ble_eq_true rfl⟩ rfl (Nat.le_of_ble_eq_true rfl) (fun σ' z1 x1 => ?_))))
    obtain ⟨hs_, x1⟩ := x1
    rw [hs_]; clear hs_ σ'
    refine ok_aload_n 12 rfl rfl rfl (ok_iload_n 13 rfl rfl rfl (ok_iload_n 14 rfl rfl rfl (ok_callVI (M' := M_Mi_weightOf) (as := [_, _]) 15 rfl rfl ml_X3_54 (s_Mi_weightOf h hr) rfl rfl (Nat.le_of_ble_eq_true rfl) ⟨Nat.le_of_ble_eq_true rfl, Nat.le_of_ble_eq_true rfl⟩ rfl (Nat.le_of_ble_eq_true rfl) (fun σ' z2 x2 => ?_))))
    obtain ⟨hs_, x2⟩ := x2
    rw [hs_]; clear hs_ σ'
    refine ok_icmp_le 16 29 rfl rfl rfl (fun h24 => ?_) (fun h24 => ?_)
    · refine ok_inc3 19 rfl rfl rfl (by first | omega | (simp [up_if]; omega) | (simp [up_if] at *; omega)) (ok_goto 20 4 rfl rfl rfl ?_)
      exact ih _ (j + 1) ⟨by omega, by omega⟩ (by omega)
    · refine ok_iload_n 17 rfl rfl rfl (ok_ist2 18 rfl rfl rfl (ok_inc3 19 rfl rfl rfl (by first | omega | (simp [up_if]; omega) | (simp [up_if] at *; omega)) (ok_goto 20 4 rfl rfl rfl ?_)))
      exact ih _ (j + 1) ⟨by omega, by omega⟩ (by omega)
theorem s_Mi_countColumns {σ : eS} {r : Int} (h : iMi σ) (hr : 0 ≤ r ∧ r < 8) : MtI shA M_Mi_countColumns [vr 22, vi r] σ (fun σ' _ => σ' = σ ∧ True) := by
  refine Mt.of okM_Mi_countColumns (Nat.le_of_ble_eq_true rfl) (fun hk hg => ?_)
  obtain ⟨⟨h1, h2, h3, h4, h5, h6, h7⟩, a, b, d⟩ := id h
  refine ok_iconst 0 rfl rfl (by decide) (ok_ist2 1 rfl rfl rfl (ok_iconst 2 rfl rfl (by decide) (ok_ist3 3 rfl rfl rfl ?_)))
  refine lpO2 (fun (v j : Int) => [some (vr 22), some (vi r), some (vi v), some (vi j)]) (fun _ _ => σ) (fun _ j => 0 ≤ j ∧ j ≤ 64) (fun _ j => (64 - j).toNat) ?_ 0 0 ⟨by omega, by omega⟩
  rintro v j ⟨j1, j2⟩ ih
  refine ok_iload_n 4 rfl rfl rfl (ok_aload_n 5 rfl rfl rfl (ok_getI 6 rfl rfl fl_X3_28 rfl rfl (Or.inl rfl) (ok_icmp_ge 7 29 rfl rfl rfl (fun h9 => ?_) (fun h9 => ?_))))
  · refine ok_iload_n 19 rfl rfl rfl (ok_callSI (M' := M_Ji_bitCount) (as := [_]) 20 rfl rfl ml_X3_57 (s_Ji_bitCount) ⟨Nat.le_of_ble_eq_true rfl, Nat.le_of_ble_eq_true rfl⟩ rfl (Nat.le_of_ble_eq_true rfl) (fun σ' z hz => ?_))
    rw [hz.1, hz.2]
    clear hz z σ'
    refine ok_iret 21 rfl rfl rfl ?_
    exact ⟨_, rfl, rfl, trivial⟩
  · refine ok_iload_n 8 rfl rfl rfl (ok_iconst 9 rfl rfl (by decide) (ok_aload_n 10 rfl rfl rfl (ok_iload_n 11 rfl rfl rfl (ok_iload_n 12 rfl rfl rfl (ok_callVI (M' := M_Mi_columnOf) (as := [_, _]) 13 rfl rfl ml_X3_46 (s_Mi_columnOf h ⟨by omega, by omega⟩ hr) rfl rfl (Nat.le_of_ble_eq_true rfl) ⟨Nat.le_of_ble_eq_true rfl, Nat.le_of_ble_eq_true rfl⟩ rfl (Nat.le_of_ble_eq_true rfl) (fun σ' z1 x1 => ?_))))))
    obtain ⟨hs_, x1⟩ := x1
    rw [hs_]; clear hs_ σ'
    refine ok_ishl 14 rfl rfl (ok_ior 15 rfl rfl (ok_ist2 16 rfl rfl rfl (ok_inc3 17 rfl rfl rfl (by first | omega | (simp [up_if]; omega) | (simp [up_if] at *; omega)) (ok_goto 18 4 rfl rfl rfl ?_))))
    exact ih _ (j + 1) ⟨by omega, by omega⟩ (by omega)
theorem s_Mi_machineOf {σ : eS} {k r : Int} (h : iMi σ) (hkk : 0 ≤ k ∧ k < 64) (hr : 0 ≤ r ∧ r < 8) : MtI shA M_Mi_machineOf [vr 22, vi k, vi r] σ (fun σ' z => σ' = σ ∧ -1 ≤ z ∧ z ≤ 7) := by
  refine Mt.of okM_Mi_machineOf (Nat.le_of_ble_eq_true rfl) (fun hk hg => ?_)
  refine ok_aload_n 0 rfl rfl rfl (ok_iload_n 1 rfl rfl rfl (ok_iload_n 2 rfl rfl rfl (ok_callVI (M' := M_Mi_columnOf) (as := [_, _]) 3 rfl rfl ml_X3_46 (s_Mi_columnOf h hkk hr) rfl rfl (Nat.le_of_ble_eq_true rfl) ⟨Nat.le_of_ble_eq_true rfl, Nat.le_of_ble_eq_true rfl⟩ rfl (Nat.le_of_ble_eq_true rfl) (fun σ' z hz => ?_))))
  obtain ⟨hs_, hz⟩ := hz
  rw [hs_]; clear hs_ σ'
  refine ok_ist3 4 rfl rfl rfl (ok_iload_n 5 rfl rfl rfl (ok_aload_n 6 rfl rfl rfl (ok_getI 7 rfl rfl fl_X3_22 rfl rfl (Or.inl rfl) (ok_icmp_ge 8 19 rfl rfl rfl (fun h12 => ?_) (fun h12 => ?_)))))
  · refine ok_iconst 11 rfl rfl (by decide) (ok_iret 12 rfl rfl rfl ?_)
    exact ⟨_, rfl, rfl, by omega, by omega⟩
  · refine ok_iload_n 9 rfl rfl rfl (ok_goto 10 20 rfl rfl rfl (ok_iret 12 rfl rfl rfl ?_))
    exact ⟨_, rfl, rfl, by omega, by omega⟩
theorem s_Mi_lastHour {σ : eS} {r : Int} (h : iMi σ) (hr : 0 ≤ r ∧ r < 8) : MtI shA M_Mi_lastHour [vr 22, vi r] σ (fun σ' _ => σ' = σ ∧ True) := by
  refine Mt.of okM_Mi_lastHour (Nat.le_of_ble_eq_true rfl) (fun hk hg => ?_)
  obtain ⟨⟨h1, h2, h3, h4, h5, h6, h7⟩, a, b, d⟩ := id h
  refine ok_iconst 0 rfl rfl (by decide) (ok_ist2 1 rfl rfl rfl (ok_iconst 2 rfl rfl (by decide) (ok_ist3 3 rfl rfl rfl (ok_iconst 4 rfl rfl (by decide) (ok_ist4 5 rfl rfl rfl ?_)))))
  refine lpO3 (fun (u v j : Int) => [some (vr 22), some (vi r), some (vi u), some (vi v), some (vi j)]) (fun _ _ _ => σ) (fun _ v j => 0 ≤ j ∧ j ≤ 64 ∧ v = sm (fun k => σ 23 k) j.toNat) (fun _ _ j => (64 - j).toNat) ?_ (-1) 0 0 ⟨by omega, by omega, rfl⟩
  rintro u v j ⟨j1, j2, v1⟩ ih
  refine ok_iload 6 rfl rfl rfl (ok_aload_n 7 rfl rfl rfl (ok_getI 8 rfl rfl fl_X3_28 rfl rfl (Or.inl rfl) (ok_icmp_ge 9 47 rfl rfl rfl (fun h13 => ?_) (fun h13 => ?_))))
  · refine ok_iload_n 29 rfl rfl rfl (ok_iret 30 rfl rfl rfl ?_)
    exact ⟨_, rfl, rfl, trivial⟩
  · have w := mi_bd h j1 (by omega)
    have e := sm_s (fun k => σ 23 k) (j := j) j1
    refine ok_iload_n 10 rfl rfl rfl (ok_aload_n 11 rfl rfl rfl (ok_getR 12 rfl rfl fl_X3_9 rfl rfl (ok_iload 13 rfl rfl rfl (ok_iald 14 rfl rfl rfl (by first | omega | (simp [up_if]; omega) | (simp [up_if] at *; omega)) (ok_iadd 15 rfl rfl (by first | omega | (simp [up_if]; omega) | (simp [up_if] at *; omega)) (ok_ist3 16 rfl rfl rfl (ok_aload_n 17 rfl rfl rfl (ok_iload 18 rfl rfl rfl (ok_iload_n 19 rfl rfl rfl (ok_callVI (M' := M_Mi_machineOf) (as := [_, _]) 20 rfl rfl ml_X3_63 (s_Mi_machineOf h ⟨by omega, by omega⟩ hr) rfl rfl (Nat.le_of_ble_eq_true rfl) ⟨Nat.le_of_ble_eq_true rfl, Nat.le_of_ble_eq_true rfl⟩ rfl (Nat.le_of_ble_eq_true rfl) (fun σ' z1 x1 => ?_)))))))))))
    obtain ⟨hs_, x1⟩ := x1
    rw [hs_]; clear hs_ σ'
    refine ok_iconst 21 rfl rfl (by decide) (ok_icmp_eq 22 41 rfl rfl rfl (fun h34 => ?_) (fun h34 => ?_))
    · refine ok_inc4 27 rfl rfl rfl (by first | omega | (simp [up_if]; omega) | (simp [up_if] at *; omega)) (ok_goto 28 7 rfl rfl rfl ?_)
      exact ih _ _ (j + 1) ⟨by omega, by omega, by omega⟩ (by omega)
    · refine ok_iload_n 23 rfl rfl rfl (ok_iconst 24 rfl rfl (by decide) (ok_isub 25 rfl rfl (by first | omega | (simp [up_if]; omega) | (simp [up_if] at *; omega)) (ok_ist2 26 rfl rfl rfl (ok_inc4 27 rfl rfl rfl (by first | omega | (simp [up_if]; omega) | (simp [up_if] at *; omega)) (ok_goto 28 7 rfl rfl rfl ?_)))))
      exact ih _ _ (j + 1) ⟨by omega, by omega, by omega⟩ (by omega)
theorem s_Mi_countPieces {σ : eS} {r : Int} (h : iMi σ) (hr : 0 ≤ r ∧ r < 8) : MtI shA M_Mi_countPieces [vr 22, vi r] σ (fun σ' _ => σ' = σ ∧ True) := by
  refine Mt.of okM_Mi_countPieces (Nat.le_of_ble_eq_true rfl) (fun hk hg => ?_)
  obtain ⟨⟨h1, h2, h3, h4, h5, h6, h7⟩, a, b, d⟩ := id h
  refine ok_iconst 0 rfl rfl (by decide) (ok_ist2 1 rfl rfl rfl (ok_iconst 2 rfl rfl (by decide) (ok_ist3 3 rfl rfl rfl ?_)))
  refine lpO2 (fun (v j : Int) => [some (vr 22), some (vi r), some (vi v), some (vi j)]) (fun _ _ => σ) (fun v j => 0 ≤ j ∧ j ≤ 64 ∧ 0 ≤ v ∧ v ≤ j) (fun _ j => (64 - j).toNat) ?_ 0 0 ⟨by omega, by omega, by omega, by omega⟩
  rintro v j ⟨j1, j2, v1, v2⟩ ih
  refine ok_iload_n 4 rfl rfl rfl (ok_aload_n 5 rfl rfl rfl (ok_getI 6 rfl rfl fl_X3_28 rfl rfl (Or.inl rfl) (ok_icmp_ge 7 31 rfl rfl rfl (fun h9 => ?_) (fun h9 => ?_))))
  · refine ok_iload_n 17 rfl rfl rfl (ok_iret 18 rfl rfl rfl ?_)
    exact ⟨_, rfl, rfl, trivial⟩
  · refine ok_aload_n 8 rfl rfl rfl (ok_iload_n 9 rfl rfl rfl (ok_iload_n 10 rfl rfl rfl (ok_callVI (M' := M_Mi_machineOf) (as := [_, _]) 11 rfl rfl ml_X3_63 (s_Mi_machineOf h ⟨by omega, by omega⟩ hr) rfl rfl (Nat.le_of_ble_eq_true rfl) ⟨Nat.le_of_ble_eq_true rfl, Nat.le_of_ble_eq_true rfl⟩ rfl (Nat.le_of_ble_eq_true rfl) (fun σ' z1 x1 => ?_))))
    obtain ⟨hs_, x1⟩ := x1
    rw [hs_]; clear hs_ σ'
    refine ok_iconst 12 rfl rfl (by decide) (ok_icmp_eq 13 25 rfl rfl rfl (fun h19 => ?_) (fun h19 => ?_))
    · refine ok_inc3 15 rfl rfl rfl (by first | omega | (simp [up_if]; omega) | (simp [up_if] at *; omega)) (ok_goto 16 4 rfl rfl rfl ?_)
      exact ih _ (j + 1) ⟨by omega, by omega, by omega, by omega⟩ (by omega)
    · refine ok_inc2 14 rfl rfl rfl (by first | omega | (simp [up_if]; omega) | (simp [up_if] at *; omega)) (ok_inc3 15 rfl rfl rfl (by first | omega | (simp [up_if]; omega) | (simp [up_if] at *; omega)) (ok_goto 16 4 rfl rfl rfl ?_))
      exact ih _ (j + 1) ⟨by omega, by omega, by omega, by omega⟩ (by omega)
theorem s_Mi_countMoves {σ : eS} {r : Int} (h : iMi σ) (hr : 0 ≤ r ∧ r < 8) : MtI shA M_Mi_countMoves [vr 22, vi r] σ (fun σ' _ => σ' = σ ∧ True) := by
  refine Mt.of okM_Mi_countMoves (Nat.le_of_ble_eq_true rfl) (fun hk hg => ?_)
  obtain ⟨⟨h1, h2, h3, h4, h5, h6, h7⟩, a, b, d⟩ := id h
  refine ok_iconst 0 rfl rfl (by decide) (ok_ist2 1 rfl rfl rfl (ok_iconst 2 rfl rfl (by decide) (ok_ist3 3 rfl rfl rfl (ok_iconst 4 rfl rfl (by decide) (ok_ist4 5 rfl rfl rfl ?_)))))
  refine lpO3 (fun (v u j : Int) => [some (vr 22), some (vi r), some (vi v), some (vi u), some (vi j), none]) (fun _ _ _ => σ) (fun v _ j => 0 ≤ j ∧ j ≤ 64 ∧ 0 ≤ v ∧ v ≤ j) (fun _ _ j => (64 - j).toNat) ?_ 0 (-1) 0 ⟨by omega, by omega, by omega, by omega⟩
  rintro v u j ⟨j1, j2, v1, v2⟩ ih
  refine ok_iload 6 rfl rfl rfl (ok_aload_n 7 rfl rfl rfl (ok_getI 8 rfl rfl fl_X3_28 rfl rfl (Or.inl rfl) (ok_icmp_ge 9 54 rfl rfl rfl (fun h13 => ?_) (fun h13 => ?_))))
  · refine ok_iload_n 29 rfl rfl rfl (ok_iret 30 rfl rfl rfl ?_)
    exact ⟨_, rfl, rfl, trivial⟩
  · refine ok_aload_n 10 rfl rfl rfl (ok_iload 11 rfl rfl rfl (ok_iload_n 12 rfl rfl rfl (ok_callVI (M' := M_Mi_machineOf) (as := [_, _]) 13 rfl rfl ml_X3_63 (s_Mi_machineOf h ⟨by omega, by omega⟩ hr) rfl rfl (Nat.le_of_ble_eq_true rfl) ⟨Nat.le_of_ble_eq_true rfl, Nat.le_of_ble_eq_true rfl⟩ rfl (Nat.le_of_ble_eq_true rfl) (fun σ' z1 x1 => ?_))))
    obtain ⟨hs_, x1⟩ := x1
    rw [hs_]; clear hs_ σ'
    refine ok_ist5 14 rfl rfl rfl (ok_iload 15 rfl rfl rfl (ok_iconst 16 rfl rfl (by decide) (ok_icmp_eq 17 48 rfl rfl rfl (fun h28 => ?_) (fun h28 => ?_))))
    · refine ok_inc4 27 rfl rfl rfl (by first | omega | (simp [up_if]; omega) | (simp [up_if] at *; omega)) (ok_goto 28 7 rfl rfl rfl ?_)
      exact ok_fg [some (vr 22), some (vi r), some (vi _), some (vi _), some (vi (j + 1)), none] ⟨rfl, rfl, rfl, rfl, rfl, trivial⟩ (ih _ _ (j + 1) ⟨by omega, by omega, by omega, by omega⟩ (by omega))
    · refine ok_iload_n 18 rfl rfl rfl (ok_iconst 19 rfl rfl (by decide) (ok_icmp_eq 20 45 rfl rfl rfl (fun h33 => ?_) (fun h33 => ?_)))
      · refine ok_iload 25 rfl rfl rfl (ok_ist3 26 rfl rfl rfl (ok_inc4 27 rfl rfl rfl (by first | omega | (simp [up_if]; omega) | (simp [up_if] at *; omega)) (ok_goto 28 7 rfl rfl rfl ?_)))
        exact ok_fg [some (vr 22), some (vi r), some (vi _), some (vi _), some (vi (j + 1)), none] ⟨rfl, rfl, rfl, rfl, rfl, trivial⟩ (ih _ _ (j + 1) ⟨by omega, by omega, by omega, by omega⟩ (by omega))
      · refine ok_iload_n 21 rfl rfl rfl (ok_iload 22 rfl rfl rfl (ok_icmp_eq 23 45 rfl rfl rfl (fun h39 => ?_) (fun h39 => ?_)))
        · refine ok_iload 25 rfl rfl rfl (ok_ist3 26 rfl rfl rfl (ok_inc4 27 rfl rfl rfl (by first | omega | (simp [up_if]; omega) | (simp [up_if] at *; omega)) (ok_goto 28 7 rfl rfl rfl ?_)))
          exact ok_fg [some (vr 22), some (vi r), some (vi _), some (vi _), some (vi (j + 1)), none] ⟨rfl, rfl, rfl, rfl, rfl, trivial⟩ (ih _ _ (j + 1) ⟨by omega, by omega, by omega, by omega⟩ (by omega))
        · refine ok_inc2 24 rfl rfl rfl (by first | omega | (simp [up_if]; omega) | (simp [up_if] at *; omega)) (ok_iload 25 rfl rfl rfl (ok_ist3 26 rfl rfl rfl (ok_inc4 27 rfl rfl rfl (by first | omega | (simp [up_if]; omega) | (simp [up_if] at *; omega)) (ok_goto 28 7 rfl rfl rfl ?_))))
          exact ok_fg [some (vr 22), some (vi r), some (vi _), some (vi _), some (vi (j + 1)), none] ⟨rfl, rfl, rfl, rfl, rfl, trivial⟩ (ih _ _ (j + 1) ⟨by omega, by omega, by omega, by omega⟩ (by omega))
theorem s_Ev_part {σ : eS} {k r : Int} (h : IA σ) : MtI shA M_Ev_part [vr 0, vi k, vi r] σ (fun σ' _ => σ' = σ ∧ True) := by
  refine Mt.of okM_Ev_part (Nat.le_of_ble_eq_true rfl) (fun hk hg => ?_)
  have hm := h.2.2.2.1
  obtain ⟨⟨h1, h2, h3, h4, h5, h6, h7⟩, a, b, d⟩ := id hm
  refine ok_aload_n 0 rfl rfl rfl (ok_getR 1 rfl rfl fl_X11_48 rfl rfl (ok_iload_n 2 rfl rfl rfl (ok_callVI (M' := M_Mi_hasPart) (as := [_]) 3 rfl rfl ml_X11_181 (s_Mi_hasPart) rfl rfl (Nat.le_of_ble_eq_true rfl) ⟨Nat.le_of_ble_eq_true rfl, Nat.le_of_ble_eq_true rfl⟩ rfl (Nat.le_of_ble_eq_true rfl) (fun σ' z1 x1 => ?_))))
  obtain ⟨hs_, x1⟩ := x1
  rw [hs_]; clear hs_ σ'
  refine ok_if_eq 4 34 rfl rfl rfl (fun h8 => ?_) (fun h8 => ?_)
  · refine ok_iconst 16 rfl rfl (by decide) (ok_iret 17 rfl rfl rfl ?_)
    exact ⟨_, rfl, rfl, trivial⟩
  · refine ok_aload_n 5 rfl rfl rfl (ok_getR 6 rfl rfl fl_X11_48 rfl rfl (ok_iload_n 7 rfl rfl rfl (ok_callVI (M' := M_Mi_hasRow) (as := [_]) 8 rfl rfl ml_X11_184 (s_Mi_hasRow) rfl rfl (Nat.le_of_ble_eq_true rfl) ⟨Nat.le_of_ble_eq_true rfl, Nat.le_of_ble_eq_true rfl⟩ rfl (Nat.le_of_ble_eq_true rfl) (fun σ' z2 x2 => ?_))))
    obtain ⟨hs_, x2⟩ := x2
    rw [hs_]; clear hs_ σ'
    refine ok_if_eq 9 34 rfl rfl rfl (fun h19 => ?_) (fun h19 => ?_)
    · refine ok_iconst 16 rfl rfl (by decide) (ok_iret 17 rfl rfl rfl ?_)
      exact ⟨_, rfl, rfl, trivial⟩
    · refine ok_aload_n 10 rfl rfl rfl (ok_getR 11 rfl rfl fl_X11_48 rfl rfl (ok_iload_n 12 rfl rfl rfl (ok_iload_n 13 rfl rfl rfl (ok_callVI (M' := M_Mi_columnOf) (as := [_, _]) 14 rfl rfl ml_X11_187 (s_Mi_columnOf hm ⟨by omega, by omega⟩ ⟨by omega, by omega⟩) rfl rfl (Nat.le_of_ble_eq_true rfl) ⟨Nat.le_of_ble_eq_true rfl, Nat.le_of_ble_eq_true rfl⟩ rfl (Nat.le_of_ble_eq_true rfl) (fun σ' z3 x3 => ?_)))))
      obtain ⟨hs_, x3⟩ := x3
      rw [hs_]; clear hs_ σ'
      refine ok_goto 15 35 rfl rfl rfl (ok_iret 17 rfl rfl rfl ?_)
      exact ⟨_, rfl, rfl, trivial⟩
theorem s_Ev_weight {σ : eS} {k w : Int} (h : IA σ) : MtI shA M_Ev_weight [vr 0, vi k, vi w] σ (fun σ' _ => σ' = σ ∧ True) := by
  refine Mt.of okM_Ev_weight (Nat.le_of_ble_eq_true rfl) (fun hk hg => ?_)
  have hm := h.2.2.2.1
  obtain ⟨⟨h1, h2, h3, h4, h5, h6, h7⟩, a, b, d⟩ := id hm
  refine ok_aload_n 0 rfl rfl rfl (ok_getR 1 rfl rfl fl_X11_48 rfl rfl (ok_iload_n 2 rfl rfl rfl (ok_callVI (M' := M_Mi_hasPart) (as := [_]) 3 rfl rfl ml_X11_181 (s_Mi_hasPart) rfl rfl (Nat.le_of_ble_eq_true rfl) ⟨Nat.le_of_ble_eq_true rfl, Nat.le_of_ble_eq_true rfl⟩ rfl (Nat.le_of_ble_eq_true rfl) (fun σ' z1 x1 => ?_))))
  obtain ⟨hs_, x1⟩ := x1
  rw [hs_]; clear hs_ σ'
  refine ok_if_eq 4 20 rfl rfl rfl (fun h8 => ?_) (fun h8 => ?_)
  · refine ok_iconst 10 rfl rfl (by decide) (ok_iret 11 rfl rfl rfl ?_)
    exact ⟨_, rfl, rfl, trivial⟩
  · refine ok_iload_n 5 rfl rfl rfl (ok_if_lt 6 20 rfl rfl rfl (fun h12 => ?_) (fun h12 => ?_))
    · refine ok_iconst 10 rfl rfl (by decide) (ok_iret 11 rfl rfl rfl ?_)
      exact ⟨_, rfl, rfl, trivial⟩
    · refine ok_iload_n 7 rfl rfl rfl (ok_iconst 8 rfl rfl (by decide) (ok_icmp_le 9 22 rfl rfl rfl (fun h17 => ?_) (fun h17 => ?_)))
      · have w0 := mi_bd hm (k := k) (by omega) (by omega)
        refine ok_aload_n 12 rfl rfl rfl (ok_getR 13 rfl rfl fl_X11_48 rfl rfl (ok_getR 14 rfl rfl fl_X11_191 rfl rfl (ok_iload_n 15 rfl rfl rfl (ok_iald 16 rfl rfl rfl (by first | omega | (simp [up_if]; omega) | (simp [up_if] at *; omega)) (ok_ist3 17 rfl rfl rfl (ok_iload_n 18 rfl rfl rfl (ok_if_ne 19 40 rfl rfl rfl (fun h33 => ?_) (fun h33 => ?_))))))))
        · refine ok_aload_n 22 rfl rfl rfl (ok_getR 23 rfl rfl fl_X11_48 rfl rfl (ok_iload_n 24 rfl rfl rfl (ok_iload_n 25 rfl rfl rfl (ok_iconst 26 rfl rfl (by decide) (ok_icmp_ne 27 54 rfl rfl rfl (fun h47 => ?_) (fun h47 => ?_))))))
          · refine ok_iconst 30 rfl rfl (by decide) (ok_callVI (M' := M_Mi_inLeastTerms) (as := [_, _]) 31 rfl rfl ml_X11_194 (s_Mi_inLeastTerms hm ⟨by omega, by omega⟩) rfl rfl (Nat.le_of_ble_eq_true rfl) ⟨Nat.le_of_ble_eq_true rfl, Nat.le_of_ble_eq_true rfl⟩ rfl (Nat.le_of_ble_eq_true rfl) (fun σ' z3 x3 => ?_))
            obtain ⟨hs_, x3⟩ := x3
            rw [hs_]; clear hs_ σ'
            refine ok_iret 32 rfl rfl rfl ?_
            exact ⟨_, rfl, rfl, trivial⟩
          · refine ok_iconst 28 rfl rfl (by decide) (ok_goto 29 55 rfl rfl rfl (ok_callVI (M' := M_Mi_inLeastTerms) (as := [_, _]) 31 rfl rfl ml_X11_194 (s_Mi_inLeastTerms hm ⟨by omega, by omega⟩) rfl rfl (Nat.le_of_ble_eq_true rfl) ⟨Nat.le_of_ble_eq_true rfl, Nat.le_of_ble_eq_true rfl⟩ rfl (Nat.le_of_ble_eq_true rfl) (fun σ' z3 x3 => ?_)))
            obtain ⟨hs_, x3⟩ := x3
            rw [hs_]; clear hs_ σ'
            refine ok_iret 32 rfl rfl rfl ?_
            exact ⟨_, rfl, rfl, trivial⟩
        · refine ok_iload_n 20 rfl rfl rfl (ok_goto 21 58 rfl rfl rfl (ok_iret 32 rfl rfl rfl ?_))
          exact ⟨_, rfl, rfl, trivial⟩
      · refine ok_iconst 10 rfl rfl (by decide) (ok_iret 11 rfl rfl rfl ?_)
        exact ⟨_, rfl, rfl, trivial⟩
theorem s_Ev_draw {σ : eS} {r : Int} (h : IA σ) : MtI shA M_Ev_draw [vr 0, vi r] σ (fun σ' _ => σ' = σ ∧ True) := by
  refine Mt.of okM_Ev_draw (Nat.le_of_ble_eq_true rfl) (fun hk hg => ?_)
  refine ok_aload_n 0 rfl rfl rfl (ok_getR 1 rfl rfl fl_X11_48 rfl rfl (ok_iload_n 2 rfl rfl rfl (ok_callVI (M' := M_Mi_partAt) (as := [_]) 3 rfl rfl ml_X11_198 (s_Mi_partAt h.2.2.2.1) rfl rfl (Nat.le_of_ble_eq_true rfl) ⟨Nat.le_of_ble_eq_true rfl, Nat.le_of_ble_eq_true rfl⟩ rfl (Nat.le_of_ble_eq_true rfl) (fun σ' z1 x1 => ?_))))
  obtain ⟨hs_, x1⟩ := x1
  rw [hs_]; clear hs_ σ'
  refine ok_iret 4 rfl rfl rfl ?_
  exact ⟨_, rfl, rfl, trivial⟩
theorem s_Ev_joint {σ : eS} {i j k l w : Int} (h : IA σ) : MtI shA M_Ev_joint [vr 0, vi i, vi j, vi k, vi l, vi w] σ (fun σ' _ => σ' = σ ∧ True) := by
  refine Mt.of okM_Ev_joint (Nat.le_of_ble_eq_true rfl) (fun hk hg => ?_)
  have hm := h.2.2.2.1
  obtain ⟨⟨h1, h2, h3, h4, h5, h6, h7⟩, a, b, d⟩ := id hm
  refine ok_aload_n 0 rfl rfl rfl (ok_getR 1 rfl rfl fl_X11_48 rfl rfl (ok_iload_n 2 rfl rfl rfl (ok_callVI (M' := M_Mi_hasRow) (as := [_]) 3 rfl rfl ml_X11_184 (s_Mi_hasRow) rfl rfl (Nat.le_of_ble_eq_true rfl) ⟨Nat.le_of_ble_eq_true rfl, Nat.le_of_ble_eq_true rfl⟩ rfl (Nat.le_of_ble_eq_true rfl) (fun σ' z1 x1 => ?_))))
  obtain ⟨hs_, x1⟩ := x1
  rw [hs_]; clear hs_ σ'
  refine ok_if_eq 4 45 rfl rfl rfl (fun h8 => ?_) (fun h8 => ?_)
  · refine ok_iconst 20 rfl rfl (by decide) (ok_iret 21 rfl rfl rfl ?_)
    exact ⟨_, rfl, rfl, trivial⟩
  · refine ok_aload_n 5 rfl rfl rfl (ok_getR 6 rfl rfl fl_X11_48 rfl rfl (ok_iload_n 7 rfl rfl rfl (ok_callVI (M' := M_Mi_hasRow) (as := [_]) 8 rfl rfl ml_X11_184 (s_Mi_hasRow) rfl rfl (Nat.le_of_ble_eq_true rfl) ⟨Nat.le_of_ble_eq_true rfl, Nat.le_of_ble_eq_true rfl⟩ rfl (Nat.le_of_ble_eq_true rfl) (fun σ' z2 x2 => ?_))))
    obtain ⟨hs_, x2⟩ := x2
    rw [hs_]; clear hs_ σ'
    refine ok_if_eq 9 45 rfl rfl rfl (fun h19 => ?_) (fun h19 => ?_)
    · refine ok_iconst 20 rfl rfl (by decide) (ok_iret 21 rfl rfl rfl ?_)
      exact ⟨_, rfl, rfl, trivial⟩
    · refine ok_aload_n 10 rfl rfl rfl (ok_getR 11 rfl rfl fl_X11_48 rfl rfl (ok_iload_n 12 rfl rfl rfl (ok_callVI (M' := M_Mi_hasRow) (as := [_]) 13 rfl rfl ml_X11_184 (s_Mi_hasRow) rfl rfl (Nat.le_of_ble_eq_true rfl) ⟨Nat.le_of_ble_eq_true rfl, Nat.le_of_ble_eq_true rfl⟩ rfl (Nat.le_of_ble_eq_true rfl) (fun σ' z3 x3 => ?_))))
      obtain ⟨hs_, x3⟩ := x3
      rw [hs_]; clear hs_ σ'
      refine ok_if_eq 14 45 rfl rfl rfl (fun h30 => ?_) (fun h30 => ?_)
      · refine ok_iconst 20 rfl rfl (by decide) (ok_iret 21 rfl rfl rfl ?_)
        exact ⟨_, rfl, rfl, trivial⟩
      · refine ok_aload_n 15 rfl rfl rfl (ok_getR 16 rfl rfl fl_X11_48 rfl rfl (ok_iload 17 rfl rfl rfl (ok_callVI (M' := M_Mi_hasRow) (as := [_]) 18 rfl rfl ml_X11_184 (s_Mi_hasRow) rfl rfl (Nat.le_of_ble_eq_true rfl) ⟨Nat.le_of_ble_eq_true rfl, Nat.le_of_ble_eq_true rfl⟩ rfl (Nat.le_of_ble_eq_true rfl) (fun σ' z4 x4 => ?_))))
        obtain ⟨hs_, x4⟩ := x4
        rw [hs_]; clear hs_ σ'
        refine ok_if_ne 19 47 rfl rfl rfl (fun h42 => ?_) (fun h42 => ?_)
        · refine ok_iload 22 rfl rfl rfl (ok_if_lt 23 58 rfl rfl rfl (fun h49 => ?_) (fun h49 => ?_))
          · refine ok_iconst 27 rfl rfl (by decide) (ok_iret 28 rfl rfl rfl ?_)
            exact ⟨_, rfl, rfl, trivial⟩
          · refine ok_iload 24 rfl rfl rfl (ok_iconst 25 rfl rfl (by decide) (ok_icmp_le 26 60 rfl rfl rfl (fun h55 => ?_) (fun h55 => ?_)))
            · refine ok_aload_n 29 rfl rfl rfl (ok_getR 30 rfl rfl fl_X11_48 rfl rfl (ok_aload_n 31 rfl rfl rfl (ok_getR 32 rfl rfl fl_X11_48 rfl rfl (ok_iload_n 33 rfl rfl rfl (ok_iload_n 34 rfl rfl rfl (ok_iload_n 35 rfl rfl rfl (ok_iload 36 rfl rfl rfl (ok_callVI (M' := M_Mi_weightOfBoth) (as := [_, _, _, _]) 37 rfl rfl ml_X11_201 (s_Mi_weightOfBoth hm ⟨by omega, by omega⟩ ⟨by omega, by omega⟩) rfl rfl (Nat.le_of_ble_eq_true rfl) ⟨Nat.le_of_ble_eq_true rfl, Nat.le_of_ble_eq_true rfl⟩ rfl (Nat.le_of_ble_eq_true rfl) (fun σ' z5 x5 => ?_)))))))))
              obtain ⟨hs_, x5⟩ := x5
              rw [hs_]; clear hs_ σ'
              refine ok_iload 38 rfl rfl rfl (ok_if_ne 39 85 rfl rfl rfl (fun h78 => ?_) (fun h78 => ?_))
              · refine ok_iconst 42 rfl rfl (by decide) (ok_callVI (M' := M_Mi_inLeastTerms) (as := [_, _]) 43 rfl rfl ml_X11_194 (s_Mi_inLeastTerms hm x5) rfl rfl (Nat.le_of_ble_eq_true rfl) ⟨Nat.le_of_ble_eq_true rfl, Nat.le_of_ble_eq_true rfl⟩ rfl (Nat.le_of_ble_eq_true rfl) (fun σ' z6 x6 => ?_))
                obtain ⟨hs_, x6⟩ := x6
                rw [hs_]; clear hs_ σ'
                refine ok_iret 44 rfl rfl rfl ?_
                exact ⟨_, rfl, rfl, trivial⟩
              · refine ok_iconst 40 rfl rfl (by decide) (ok_goto 41 86 rfl rfl rfl (ok_callVI (M' := M_Mi_inLeastTerms) (as := [_, _]) 43 rfl rfl ml_X11_194 (s_Mi_inLeastTerms hm x5) rfl rfl (Nat.le_of_ble_eq_true rfl) ⟨Nat.le_of_ble_eq_true rfl, Nat.le_of_ble_eq_true rfl⟩ rfl (Nat.le_of_ble_eq_true rfl) (fun σ' z6 x6 => ?_)))
                obtain ⟨hs_, x6⟩ := x6
                rw [hs_]; clear hs_ σ'
                refine ok_iret 44 rfl rfl rfl ?_
                exact ⟨_, rfl, rfl, trivial⟩
            · refine ok_iconst 27 rfl rfl (by decide) (ok_iret 28 rfl rfl rfl ?_)
              exact ⟨_, rfl, rfl, trivial⟩
        · refine ok_iconst 20 rfl rfl (by decide) (ok_iret 21 rfl rfl rfl ?_)
          exact ⟨_, rfl, rfl, trivial⟩
theorem s_Ev_most {σ : eS} {r w : Int} (h : IA σ) : MtI shA M_Ev_most [vr 0, vi r, vi w] σ (fun σ' _ => σ' = σ ∧ True) := by
  refine Mt.of okM_Ev_most (Nat.le_of_ble_eq_true rfl) (fun hk hg => ?_)
  have hm := h.2.2.2.1
  obtain ⟨⟨h1, h2, h3, h4, h5, h6, h7⟩, a, b, d⟩ := id hm
  refine ok_aload_n 0 rfl rfl rfl (ok_getR 1 rfl rfl fl_X11_48 rfl rfl (ok_iload_n 2 rfl rfl rfl (ok_callVI (M' := M_Mi_hasRow) (as := [_]) 3 rfl rfl ml_X11_184 (s_Mi_hasRow) rfl rfl (Nat.le_of_ble_eq_true rfl) ⟨Nat.le_of_ble_eq_true rfl, Nat.le_of_ble_eq_true rfl⟩ rfl (Nat.le_of_ble_eq_true rfl) (fun σ' z1 x1 => ?_))))
  obtain ⟨hs_, x1⟩ := x1
  rw [hs_]; clear hs_ σ'
  refine ok_if_eq 4 20 rfl rfl rfl (fun h8 => ?_) (fun h8 => ?_)
  · refine ok_iconst 10 rfl rfl (by decide) (ok_iret 11 rfl rfl rfl ?_)
    exact ⟨_, rfl, rfl, trivial⟩
  · refine ok_iload_n 5 rfl rfl rfl (ok_if_lt 6 20 rfl rfl rfl (fun h12 => ?_) (fun h12 => ?_))
    · refine ok_iconst 10 rfl rfl (by decide) (ok_iret 11 rfl rfl rfl ?_)
      exact ⟨_, rfl, rfl, trivial⟩
    · refine ok_iload_n 7 rfl rfl rfl (ok_iconst 8 rfl rfl (by decide) (ok_icmp_le 9 22 rfl rfl rfl (fun h17 => ?_) (fun h17 => ?_)))
      · refine ok_iload_n 12 rfl rfl rfl (ok_iconst 13 rfl rfl (by decide) (ok_icmp_ne 14 36 rfl rfl rfl (fun h24 => ?_) (fun h24 => ?_)))
        · refine ok_aload_n 20 rfl rfl rfl (ok_getR 21 rfl rfl fl_X11_48 rfl rfl (ok_iload_n 22 rfl rfl rfl (ok_callVI (M' := M_Mi_commonestColumn) (as := [_]) 23 rfl rfl ml_X11_273 (s_Mi_commonestColumn hm ⟨by omega, by omega⟩) rfl rfl (Nat.le_of_ble_eq_true rfl) ⟨Nat.le_of_ble_eq_true rfl, Nat.le_of_ble_eq_true rfl⟩ rfl (Nat.le_of_ble_eq_true rfl) (fun σ' z3 x3 => ?_))))
          obtain ⟨hs_, x3⟩ := x3
          rw [hs_]; clear hs_ σ'
          refine ok_ist3 24 rfl rfl rfl (ok_iload_n 25 rfl rfl rfl (ok_if_ne 26 53 rfl rfl rfl (fun h46 => ?_) (fun h46 => ?_)))
          · refine ok_aload_n 29 rfl rfl rfl (ok_getR 30 rfl rfl fl_X11_48 rfl rfl (ok_iload_n 31 rfl rfl rfl (ok_iload_n 32 rfl rfl rfl (ok_callVI (M' := M_Mi_weightOf) (as := [_, _]) 33 rfl rfl ml_X11_276 (s_Mi_weightOf hm ⟨by omega, by omega⟩) rfl rfl (Nat.le_of_ble_eq_true rfl) ⟨Nat.le_of_ble_eq_true rfl, Nat.le_of_ble_eq_true rfl⟩ rfl (Nat.le_of_ble_eq_true rfl) (fun σ' z4 x4 => ?_)))))
            obtain ⟨hs_, x4⟩ := x4
            rw [hs_]; clear hs_ σ'
            refine ok_iret 34 rfl rfl rfl ?_
            exact ⟨_, rfl, rfl, trivial⟩
          · refine ok_iload_n 27 rfl rfl rfl (ok_goto 28 62 rfl rfl rfl (ok_iret 34 rfl rfl rfl ?_))
            exact ⟨_, rfl, rfl, trivial⟩
        · refine ok_aload_n 15 rfl rfl rfl (ok_getR 16 rfl rfl fl_X11_48 rfl rfl (ok_iload_n 17 rfl rfl rfl (ok_callVI (M' := M_Mi_countColumns) (as := [_]) 18 rfl rfl ml_X11_270 (s_Mi_countColumns hm ⟨by omega, by omega⟩) rfl rfl (Nat.le_of_ble_eq_true rfl) ⟨Nat.le_of_ble_eq_true rfl, Nat.le_of_ble_eq_true rfl⟩ rfl (Nat.le_of_ble_eq_true rfl) (fun σ' z2 x2 => ?_))))
          obtain ⟨hs_, x2⟩ := x2
          rw [hs_]; clear hs_ σ'
          refine ok_iret 19 rfl rfl rfl ?_
          exact ⟨_, rfl, rfl, trivial⟩
      · refine ok_iconst 10 rfl rfl (by decide) (ok_iret 11 rfl rfl rfl ?_)
        exact ⟨_, rfl, rfl, trivial⟩
theorem s_Ev_works {σ : eS} {j t : Int} (h : IA σ) : MtI shA M_Ev_works [vr 0, vi j, vi t] σ (fun σ' _ => σ' = σ ∧ True) := by
  refine Mt.of okM_Ev_works (Nat.le_of_ble_eq_true rfl) (fun hk hg => ?_)
  have hm := h.2.2.2.1
  obtain ⟨⟨h1, h2, h3, h4, h5, h6, h7⟩, a, b, d⟩ := id hm
  refine ok_aload_n 0 rfl rfl rfl (ok_getR 1 rfl rfl fl_X11_48 rfl rfl (ok_iload_n 2 rfl rfl rfl (ok_callVI (M' := M_Mi_hasJob) (as := [_]) 3 rfl rfl ml_X11_300 (s_Mi_hasJob) rfl rfl (Nat.le_of_ble_eq_true rfl) ⟨Nat.le_of_ble_eq_true rfl, Nat.le_of_ble_eq_true rfl⟩ rfl (Nat.le_of_ble_eq_true rfl) (fun σ' z1 x1 => ?_))))
  obtain ⟨hs_, x1⟩ := x1
  rw [hs_]; clear hs_ σ'
  refine ok_if_ne 4 13 rfl rfl rfl (fun h8 => ?_) (fun h8 => ?_)
  · refine ok_aload_n 7 rfl rfl rfl (ok_getR 8 rfl rfl fl_X11_48 rfl rfl (ok_iload_n 9 rfl rfl rfl (ok_callVI (M' := M_Mi_partAt) (as := [_]) 10 rfl rfl ml_X11_198 (s_Mi_partAt hm) rfl rfl (Nat.le_of_ble_eq_true rfl) ⟨Nat.le_of_ble_eq_true rfl, Nat.le_of_ble_eq_true rfl⟩ rfl (Nat.le_of_ble_eq_true rfl) (fun σ' z2 x2 => ?_))))
    obtain ⟨hs_, x2⟩ := x2
    rw [hs_]; clear hs_ σ'
    refine ok_ist3 11 rfl rfl rfl (ok_iload_n 12 rfl rfl rfl (ok_iconst 13 rfl rfl (by decide) (ok_icmp_ne 14 31 rfl rfl rfl (fun h24 => ?_) (fun h24 => ?_))))
    · refine ok_aload_n 17 rfl rfl rfl (ok_getR 18 rfl rfl fl_X11_48 rfl rfl (ok_iload_n 19 rfl rfl rfl (ok_iload_n 20 rfl rfl rfl (ok_callVI (M' := M_Mi_machineOf) (as := [_, _]) 21 rfl rfl ml_X11_303 (s_Mi_machineOf hm ⟨by omega, by omega⟩ ⟨by omega, by omega⟩) rfl rfl (Nat.le_of_ble_eq_true rfl) ⟨Nat.le_of_ble_eq_true rfl, Nat.le_of_ble_eq_true rfl⟩ rfl (Nat.le_of_ble_eq_true rfl) (fun σ' z3 x3 => ?_)))))
      obtain ⟨hs_, x3⟩ := x3
      rw [hs_]; clear hs_ σ'
      refine ok_iret 22 rfl rfl rfl ?_
      exact ⟨_, rfl, rfl, trivial⟩
    · refine ok_iconst 15 rfl rfl (by decide) (ok_goto 16 40 rfl rfl rfl (ok_iret 22 rfl rfl rfl ?_))
      exact ⟨_, rfl, rfl, trivial⟩
  · refine ok_iconst 5 rfl rfl (by decide) (ok_iret 6 rfl rfl rfl ?_)
    exact ⟨_, rfl, rfl, trivial⟩
theorem s_Ev_job {σ : eS} {j w : Int} (h : IA σ) : MtI shA M_Ev_job [vr 0, vi j, vi w] σ (fun σ' _ => σ' = σ ∧ True) := by
  refine Mt.of okM_Ev_job (Nat.le_of_ble_eq_true rfl) (fun hk hg => ?_)
  have hm := h.2.2.2.1
  obtain ⟨⟨h1, h2, h3, h4, h5, h6, h7⟩, a, b, d⟩ := id hm
  refine ok_aload_n 0 rfl rfl rfl (ok_getR 1 rfl rfl fl_X11_48 rfl rfl (ok_iload_n 2 rfl rfl rfl (ok_callVI (M' := M_Mi_hasJob) (as := [_]) 3 rfl rfl ml_X11_300 (s_Mi_hasJob) rfl rfl (Nat.le_of_ble_eq_true rfl) ⟨Nat.le_of_ble_eq_true rfl, Nat.le_of_ble_eq_true rfl⟩ rfl (Nat.le_of_ble_eq_true rfl) (fun σ' z1 x1 => ?_))))
  obtain ⟨hs_, x1⟩ := x1
  rw [hs_]; clear hs_ σ'
  refine ok_if_ne 4 13 rfl rfl rfl (fun h8 => ?_) (fun h8 => ?_)
  · refine ok_iload_n 7 rfl rfl rfl ?_
    rcases (by omega : w = 0 ∨ w = 1 ∨ w = 2 ∨ (w < 0 ∨ 2 < w)) with q_ | q_ | q_ | q_
    · subst q_
      refine ok_tin 8 (len := 26) 40 rfl rfl (by decide) (by decide) rfl rfl ?_
      refine ok_aload_n 9 rfl rfl rfl (ok_getR 10 rfl rfl fl_X11_48 rfl rfl (ok_iload_n 11 rfl rfl rfl (ok_callVI (M' := M_Mi_lastHour) (as := [_]) 12 rfl rfl ml_X11_306 (s_Mi_lastHour hm ⟨by omega, by omega⟩) rfl rfl (Nat.le_of_ble_eq_true rfl) ⟨Nat.le_of_ble_eq_true rfl, Nat.le_of_ble_eq_true rfl⟩ rfl (Nat.le_of_ble_eq_true rfl) (fun σ' z2 x2 => ?_))))
      obtain ⟨hs_, x2⟩ := x2
      rw [hs_]; clear hs_ σ'
      refine ok_iret 13 rfl rfl rfl ?_
      exact ⟨_, rfl, rfl, trivial⟩
    · subst q_
      refine ok_tin 8 (len := 26) 49 rfl rfl (by decide) (by decide) rfl rfl ?_
      refine ok_aload_n 14 rfl rfl rfl (ok_getR 15 rfl rfl fl_X11_48 rfl rfl (ok_iload_n 16 rfl rfl rfl (ok_callVI (M' := M_Mi_countPieces) (as := [_]) 17 rfl rfl ml_X11_309 (s_Mi_countPieces hm ⟨by omega, by omega⟩) rfl rfl (Nat.le_of_ble_eq_true rfl) ⟨Nat.le_of_ble_eq_true rfl, Nat.le_of_ble_eq_true rfl⟩ rfl (Nat.le_of_ble_eq_true rfl) (fun σ' z2 x2 => ?_))))
      obtain ⟨hs_, x2⟩ := x2
      rw [hs_]; clear hs_ σ'
      refine ok_iret 18 rfl rfl rfl ?_
      exact ⟨_, rfl, rfl, trivial⟩
    · subst q_
      refine ok_tin 8 (len := 26) 58 rfl rfl (by decide) (by decide) rfl rfl ?_
      refine ok_aload_n 19 rfl rfl rfl (ok_getR 20 rfl rfl fl_X11_48 rfl rfl (ok_iload_n 21 rfl rfl rfl (ok_callVI (M' := M_Mi_countMoves) (as := [_]) 22 rfl rfl ml_X11_312 (s_Mi_countMoves hm ⟨by omega, by omega⟩) rfl rfl (Nat.le_of_ble_eq_true rfl) ⟨Nat.le_of_ble_eq_true rfl, Nat.le_of_ble_eq_true rfl⟩ rfl (Nat.le_of_ble_eq_true rfl) (fun σ' z2 x2 => ?_))))
      obtain ⟨hs_, x2⟩ := x2
      rw [hs_]; clear hs_ σ'
      refine ok_iret 23 rfl rfl rfl ?_
      exact ⟨_, rfl, rfl, trivial⟩
    · refine ok_tout 8 (len := 26) 67 rfl rfl q_ rfl ?_
      refine ok_iconst 24 rfl rfl (by decide) (ok_iret 25 rfl rfl rfl ?_)
      exact ⟨_, rfl, rfl, trivial⟩
  · refine ok_iconst 5 rfl rfl (by decide) (ok_iret 6 rfl rfl rfl ?_)
    exact ⟨_, rfl, rfl, trivial⟩
abbrev rgS1 : Nat → Int → Prop := fun c _ => c = 46 ∨ c = 47
theorem s_Sh_put {σ : eS} {z : Int} (h : iSh σ) : MtV shA M_Sh_put [vr 46, vi z] σ (fun σ' => fr rgS1 σ σ' ∧ iSh σ') := by
  refine Mt.of okM_Sh_put (Nat.le_of_ble_eq_true rfl) (fun hk hg => ?_)
  have h1 := h.1
  have h2 := h.2
  refine ok_aload_n 0 rfl rfl rfl (ok_getI 1 rfl rfl fl_X8_15 rfl rfl (Or.inl rfl) (ok_sipush 2 rfl rfl (by decide) (by decide) (ok_icmp_ge 3 30 rfl rfl rfl (fun h7 => ?_) (fun h7 => ?_))))
  · refine ok_vret 16 rfl rfl rfl ?_
    exact ⟨rfl, fr.rf, h⟩
  · refine ok_aload_n 4 rfl rfl rfl (ok_getR 5 rfl rfl fl_X8_11 rfl rfl (ok_aload_n 6 rfl rfl rfl (ok_getI 7 rfl rfl fl_X8_15 rfl rfl (Or.inl rfl) (ok_iload_n 8 rfl rfl rfl (ok_iast 9 rfl rfl rfl (by first | omega | (simp [up_if]; omega) | (simp [up_if] at *; omega)) (ok_aload_n 10 rfl rfl rfl (ok_dup 11 rfl rfl rfl (ok_getI 12 rfl rfl fl_X8_15 rfl rfl (Or.inl rfl) (ok_iconst 13 rfl rfl (by decide) (ok_iadd 14 rfl rfl (by first | omega | (simp [up_if]; omega) | (simp [up_if] at *; omega)) (ok_putI 15 rfl rfl fl_X8_15 rfl rfl rfl rfl (ok_vret 16 rfl rfl rfl ?_))))))))))))
    exact ⟨rfl, fr_up (fr_up fr.rf (by simp [rgS1])) (by simp [rgS1]), by simp [up_if]; omega, by simp [up_if]; omega⟩
theorem s_Sh_putNumber {σ : eS} {z : Int} (h : iSh σ) (hz : 0 ≤ z) : MtV shA M_Sh_putNumber [vr 46, vi z] σ (fun σ' => fr rgS1 σ σ' ∧ iSh σ') := by
  refine Mt.of okM_Sh_putNumber (Nat.le_of_ble_eq_true rfl) (fun hk hg => ?_)
  have hr : rg z := hk.2.1
  refine ok_iconst 0 rfl rfl (by decide) (ok_ist2 1 rfl rfl rfl (ok_iconst 2 rfl rfl (by decide) (ok_ist3 3 rfl rfl rfl ?_)))
  refine lpO2 (fun (v j : Int) => [some (vr 46), some (vi z), some (vi v), some (vi j)]) (fun _ _ => σ) (fun v j => 0 ≤ j ∧ j ≤ 9 ∧ 1 ≤ v ∧ v ≤ 2147483647) (fun _ j => (9 - j).toNat) ?_ 1 0 ⟨by omega, by omega, by omega, by omega⟩
  rintro v j ⟨j1, j2, v1, v2⟩ ih
  have tail : Ok shA M_Sh_putNumber 29 [some (vr 46), some (vi z), some (vi v), some (vi j)] [] σ (fun σ' v => v = none ∧ fr rgS1 σ σ' ∧ iSh σ') := by
    clear ih
    refine ok_iconst 18 rfl rfl (by decide) (ok_ist3 19 rfl rfl rfl ?_)
    refine lpO3 (fun (v j : Int) (_ : eS) => [some (vr 46), some (vi z), some (vi v), some (vi j)]) (fun _ _ ρ => ρ) (fun v j ρ => 0 ≤ j ∧ j ≤ 10 ∧ 0 ≤ v ∧ v ≤ 2147483647 ∧ fr rgS1 σ ρ ∧ iSh ρ) (fun _ j _ => (10 - j).toNat) ?_ v 0 σ ⟨by omega, by omega, by omega, by omega, fr.rf, h⟩
    clear j1 j2 v1 v2 v j
    rintro v j ρ ⟨j1, j2, v1, v2, f, h1⟩ ih
    refine ok_iload_n 20 rfl rfl rfl (ok_bipush 21 rfl rfl (by decide) (by decide) (ok_icmp_ge 22 65 rfl rfl rfl (fun h34 => ?_) (fun h34 => ?_)))
    · refine ok_vret 40 rfl rfl rfl ?_
      exact ⟨rfl, f, h1⟩
    · refine ok_iload_n 23 rfl rfl rfl (ok_if_le 24 65 rfl rfl rfl (fun h38 => ?_) (fun h38 => ?_))
      · refine ok_vret 40 rfl rfl rfl ?_
        exact ⟨rfl, f, h1⟩
      · have d : 0 ≤ z / v := Int.ediv_nonneg hz v1
        refine ok_aload_n 25 rfl rfl rfl (ok_bipush 26 rfl rfl (by decide) (by decide) (ok_iload_n 27 rfl rfl rfl (ok_iload_n 28 rfl rfl rfl (ok_idiv 29 rfl rfl (by first | omega | (simp [up_if]; omega) | (simp [up_if] at *; omega)) (by first | omega | (simp [up_if]; omega) | (simp [up_if] at *; omega)) (ok_bipush 30 rfl rfl (by decide) (by decide) (ok_irem 31 rfl rfl (by first | omega | (simp [up_if]; omega) | (simp [up_if] at *; omega)) (by first | omega | (simp [up_if]; omega) | (simp [up_if] at *; omega)) (ok_iadd 32 rfl rfl (by first | omega | (simp [up_if]; omega) | (simp [up_if] at *; omega)) (ok_callVV (M' := M_Sh_put) (as := [_]) 33 rfl rfl ml_X8_31 (s_Sh_put h1) rfl rfl (Nat.le_of_ble_eq_true rfl) ⟨Nat.le_of_ble_eq_true rfl, Nat.le_of_ble_eq_true rfl⟩ rfl (Nat.le_of_ble_eq_true rfl) (fun τ f1 => ?_)))))))))
        refine ok_iload_n 34 rfl rfl rfl (ok_bipush 35 rfl rfl (by decide) (by decide) (ok_idiv 36 rfl rfl (by first | omega | (simp [up_if]; omega) | (simp [up_if] at *; omega)) (by first | omega | (simp [up_if]; omega) | (simp [up_if] at *; omega)) (ok_ist2 37 rfl rfl rfl (ok_inc3 38 rfl rfl rfl (by first | omega | (simp [up_if]; omega) | (simp [up_if] at *; omega)) (ok_goto 39 31 rfl rfl rfl ?_)))))
        exact ih _ (j + 1) τ ⟨by omega, by omega, by omega, by omega, f.tr f1.1, f1.2⟩ (by omega)
  refine ok_iload_n 4 rfl rfl rfl (ok_bipush 5 rfl rfl (by decide) (by decide) (ok_icmp_ge 6 29 rfl rfl rfl (fun h7 => ?_) (fun h7 => ?_)))
  · exact tail
  · refine ok_iload_n 7 rfl rfl rfl (ok_iload_n 8 rfl rfl rfl (ok_idiv 9 rfl rfl (by first | omega | (simp [up_if]; omega) | (simp [up_if] at *; omega)) (by first | omega | (simp [up_if]; omega) | (simp [up_if] at *; omega)) (ok_bipush 10 rfl rfl (by decide) (by decide) (ok_icmp_le 11 29 rfl rfl rfl (fun h15 => ?_) (fun h15 => ?_)))))
    · exact tail
    · have m : v * 10 ≤ z := mul_le_div (by omega) (by omega)
      refine ok_iload_n 12 rfl rfl rfl (ok_bipush 13 rfl rfl (by decide) (by decide) (ok_imul 14 rfl rfl (by first | omega | (simp [up_if]; omega) | (simp [up_if] at *; omega)) (ok_ist2 15 rfl rfl rfl (ok_inc3 16 rfl rfl rfl (by first | omega | (simp [up_if]; omega) | (simp [up_if] at *; omega)) (ok_goto 17 4 rfl rfl rfl ?_)))))
      exact ih _ (j + 1) ⟨by omega, by omega, by omega, by omega⟩ (by omega)
theorem s_Sh_write {σ : eS} (hm : iMi σ) : MtV shA M_Sh_write [vr 46, vr 22] σ (fun σ' => fr rgS1 σ σ' ∧ iSh σ') := by
  refine Mt.of okM_Sh_write (Nat.le_of_ble_eq_true rfl) (fun hk hg => ?_)
  obtain ⟨⟨h1, h2, h3, h4, h5, h6, h7⟩, a, b, d⟩ := id hm
  refine ok_aload_n 0 rfl rfl rfl (ok_iconst 1 rfl rfl (by decide) (ok_putI 2 rfl rfl fl_X8_15 rfl rfl rfl rfl (ok_iconst 3 rfl rfl (by decide) (ok_ist2 4 rfl rfl rfl ?_))))
  refine lpO2 (fun (k : Int) (_ : eS) => [some (vr 46), some (vr 22), some (vi k), none]) (fun _ ρ => ρ) (fun k ρ => 0 ≤ k ∧ k ≤ 64 ∧ fr rgS1 σ ρ ∧ iSh ρ) (fun k _ => (64 - k).toNat) ?_ 0 _ ⟨by omega, by omega, fr_up fr.rf (by simp [rgS1]), by simp [up_if], by simp [up_if]⟩
  rintro k ρ ⟨k1, k2, f, hS⟩ ih
  have e5 : ρ 22 5 = σ 22 5 := f 22 5 (by simp [rgS1])
  refine ok_iload_n 5 rfl rfl rfl (ok_aload_n 6 rfl rfl rfl (ok_getI 7 rfl rfl fl_X8_19 rfl rfl (Or.inl rfl) (ok_icmp_ge 8 72 rfl rfl rfl (fun h12 => ?_) (fun h12 => ?_))))
  · refine ok_vret 39 rfl rfl rfl ?_
    exact ⟨rfl, f, hS⟩
  · have w0 := mi_bd hm k1 (by omega)
    rw [← f 23 k (by simp [rgS1])] at w0
    refine ok_aload_n 9 rfl rfl rfl (ok_aload_n 10 rfl rfl rfl (ok_getR 11 rfl rfl fl_X8_24 rfl rfl (ok_iload_n 12 rfl rfl rfl (ok_iald 13 rfl rfl rfl (by first | omega | (simp [up_if]; omega) | (simp [up_if] at *; omega)) (ok_callVV (M' := M_Sh_putNumber) (as := [_]) 14 rfl rfl ml_X8_27 (s_Sh_putNumber hS w0.1) rfl rfl (Nat.le_of_ble_eq_true rfl) ⟨Nat.le_of_ble_eq_true rfl, Nat.le_of_ble_eq_true rfl⟩ rfl (Nat.le_of_ble_eq_true rfl) (fun ρ1 f1 => ?_))))))
    refine ok_aload_n 15 rfl rfl rfl (ok_bipush 16 rfl rfl (by decide) (by decide) (ok_callVV (M' := M_Sh_put) (as := [_]) 17 rfl rfl ml_X8_31 (s_Sh_put f1.2) rfl rfl (Nat.le_of_ble_eq_true rfl) ⟨Nat.le_of_ble_eq_true rfl, Nat.le_of_ble_eq_true rfl⟩ rfl (Nat.le_of_ble_eq_true rfl) (fun ρ2 f2 => ?_)))
    refine ok_iconst 18 rfl rfl (by decide) (ok_ist3 19 rfl rfl rfl ?_)
    have f3 := (f.tr f1.1).tr f2.1
    refine lpO2 (fun (j : Int) (_ : eS) => [some (vr 46), some (vr 22), some (vi k), some (vi j)]) (fun _ ρ => ρ) (fun j ρ => 0 ≤ j ∧ j ≤ 8 ∧ fr rgS1 σ ρ ∧ iSh ρ) (fun j _ => (8 - j).toNat) ?_ 0 ρ2 ⟨by omega, by omega, f3, f2.2⟩
    have kl : k < 64 := by omega
    clear f3 f2 ρ2 w0 e5 h12 f1 ρ1 f hS ρ
    rintro j ρ ⟨j1, j2, f, hS⟩ ih2
    have e4 : ρ 22 4 = σ 22 4 := f 22 4 (by simp [rgS1])
    refine ok_iload_n 20 rfl rfl rfl (ok_aload_n 21 rfl rfl rfl (ok_getI 22 rfl rfl fl_X8_34 rfl rfl (Or.inl rfl) (ok_icmp_ge 23 60 rfl rfl rfl (fun h38 => ?_) (fun h38 => ?_))))
    · refine ok_aload_n 34 rfl rfl rfl (ok_bipush 35 rfl rfl (by decide) (by decide) (ok_callVV (M' := M_Sh_put) (as := [_]) 36 rfl rfl ml_X8_31 (s_Sh_put hS) rfl rfl (Nat.le_of_ble_eq_true rfl) ⟨Nat.le_of_ble_eq_true rfl, Nat.le_of_ble_eq_true rfl⟩ rfl (Nat.le_of_ble_eq_true rfl) (fun ρ1 f1 => ?_)))
      refine ok_inc2 37 rfl rfl rfl (by first | omega | (simp [up_if]; omega) | (simp [up_if] at *; omega)) (ok_goto 38 7 rfl rfl rfl ?_)
      exact ok_fg [some (vr 46), some (vr 22), some (vi (k + 1)), none] ⟨rfl, rfl, rfl, trivial⟩ (ih (k + 1) ρ1 ⟨by omega, by omega, f.tr f1.1, f1.2⟩ (by omega))
    · refine ok_aload_n 24 rfl rfl rfl (ok_bipush 25 rfl rfl (by decide) (by decide) (ok_aload_n 26 rfl rfl rfl (ok_iload_n 27 rfl rfl rfl (ok_iload_n 28 rfl rfl rfl (ok_callVI (M' := M_Mi_columnOf) (as := [_, _]) 29 rfl rfl ml_X8_37 (s_Mi_columnOf (iMi_cg hm (fun c k a b => f c k (by simp only [rgS1]; omega))) ⟨k1, kl⟩ ⟨j1, by omega⟩) rfl rfl (Nat.le_of_ble_eq_true rfl) ⟨Nat.le_of_ble_eq_true rfl, Nat.le_of_ble_eq_true rfl⟩ rfl (Nat.le_of_ble_eq_true rfl) (fun σ' z hz => ?_))))))
      obtain ⟨hs_, hz⟩ := hz
      rw [hs_]; clear hs_ σ'
      refine ok_iadd 30 rfl rfl (by first | omega | (simp [up_if]; omega) | (simp [up_if] at *; omega)) (ok_callVV (M' := M_Sh_put) (as := [_]) 31 rfl rfl ml_X8_31 (s_Sh_put hS) rfl rfl (Nat.le_of_ble_eq_true rfl) ⟨Nat.le_of_ble_eq_true rfl, Nat.le_of_ble_eq_true rfl⟩ rfl (Nat.le_of_ble_eq_true rfl) (fun ρ1 f1 => ?_))
      refine ok_inc3 32 rfl rfl rfl (by first | omega | (simp [up_if]; omega) | (simp [up_if] at *; omega)) (ok_goto 33 33 rfl rfl rfl ?_)
      exact ih2 (j + 1) ρ1 ⟨by omega, by omega, f.tr f1.1, f1.2⟩ (by omega)
theorem s_Ev_show {σ : eS} (h : IA σ) : MtI shA M_Ev_show [vr 0] σ (fun σ' _ => QA σ σ') := by
  refine Mt.of okM_Ev_show (Nat.le_of_ble_eq_true rfl) (fun hk hg => ?_)
  refine ok_aload_n 0 rfl rfl rfl (ok_getR 1 rfl rfl fl_X11_69 rfl rfl (ok_aload_n 2 rfl rfl rfl (ok_getR 3 rfl rfl fl_X11_48 rfl rfl (ok_callVV (M' := M_Sh_write) (as := [_]) 4 rfl rfl ml_X11_286 (s_Sh_write h.2.2.2.1) rfl rfl (Nat.le_of_ble_eq_true rfl) ⟨Nat.le_of_ble_eq_true rfl, Nat.le_of_ble_eq_true rfl⟩ rfl (Nat.le_of_ble_eq_true rfl) (fun τ f => ?_)))))
  refine ok_aload_n 5 rfl rfl rfl (ok_getR 6 rfl rfl fl_X11_69 rfl rfl (ok_getI 7 rfl rfl fl_X11_290 rfl rfl (Or.inl rfl) (ok_iret 8 rfl rfl rfl ?_)))
  refine ⟨_, rfl, ⟨?_, iTs_cg h.2.1 (fun c k a b d => f.1 c k (by simp only [rgS1]; omega)), iCh_cg h.2.2.1 (fun k => f.1 _ k (by simp [rgS1])), iMi_cg h.2.2.2.1 (fun c k a b => f.1 c k (by simp only [rgS1]; omega)), f.2, iSu_cg h.2.2.2.2.2 (fun k => f.1 _ k (by simp [rgS1]))⟩, ⟨fun k => f.1 _ k (by simp [rgS1]), fun k => f.1 _ k (by simp [rgS1])⟩, fun c k a b d => f.1 c k (by simp only [rgS1]; omega)⟩
  unfold tL
  rw [f.1 10 3 (by simp [rgS1])]
  exact h.1
