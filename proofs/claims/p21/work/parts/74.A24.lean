theorem sm_mn {f : Int → Int} {m : Nat} : ∀ {n : Nat}, m ≤ n → (∀ k : Int, 0 ≤ k → k < n → 0 ≤ f k) → sm f m ≤ sm f n
  | 0, h, _ => by rw [show m = 0 by omega]; exact Int.le_refl _
  | n + 1, h, p => by
    rcases (by omega : m ≤ n ∨ m = n + 1) with q | q
    · have e := sm_s f (j := (n : Int)) (by omega)
      rw [show ((n : Int) + 1).toNat = n + 1 by omega, Int.toNat_natCast] at e
      have := sm_mn q (fun k a b => p k a (by omega))
      have := p (n : Int) (by omega) (by omega)
      omega
    · rw [q]; exact Int.le_refl _
theorem mi_bd {σ : eS} {k : Int} (h : iMi σ) (hk : 0 ≤ k) (hk2 : k < σ 22 5) : 0 ≤ σ 23 k ∧ 0 ≤ sm (fun k => σ 23 k) k.toNat ∧ sm (fun k => σ 23 k) k.toNat + σ 23 k ≤ 799999992 := by
  obtain ⟨⟨h1, h2, h3, h4, h5, h6, h7⟩, a, b, c⟩ := h
  have p := a k hk hk2
  have e := sm_s (fun k => σ 23 k) (j := k) hk
  have m := sm_mn (f := fun k => σ 23 k) (m := (k + 1).toNat) (n := (σ 22 5).toNat) (by omega) (fun k x y => a k x (by omega))
  have z := sm_mn (f := fun k => σ 23 k) (m := 0) (n := k.toNat) (by omega) (fun k x y => a k x (by omega))
  have z0 : sm (fun k => σ 23 k) 0 = 0 := rfl
  omega
theorem s_Mi_columnOf {σ : eS} {k r : Int} (h : iMi σ) (hk : 0 ≤ k ∧ k < 64) (hr : 0 ≤ r ∧ r < 8) : MtI shA M_Mi_columnOf [vr 22, vi k, vi r] σ (fun σ' z => σ' = σ ∧ z = σ 24 (k * 8 + r) ∧ 0 ≤ z ∧ z ≤ 7) := by
  refine Mt.of okM_Mi_columnOf (Nat.le_of_ble_eq_true rfl) (fun hk hg => ?_)
  have b := h.2.2.1 (k * 8 + r) (by omega) (by omega)
  refine ok_aload_n 0 rfl rfl rfl (ok_getR 1 rfl rfl fl_X3_15 rfl rfl (ok_iload_n 2 rfl rfl rfl (ok_bipush 3 rfl rfl (by decide) (by decide) (ok_imul 4 rfl rfl (by first | omega | (simp [up_if]; omega) | (simp [up_if] at *; omega)) (ok_iload_n 5 rfl rfl rfl (ok_iadd 6 rfl rfl (by first | omega | (simp [up_if]; omega) | (simp [up_if] at *; omega)) (ok_iald 7 rfl rfl rfl (by first | omega | (simp [up_if]; omega) | (simp [up_if] at *; omega)) (ok_iret 8 rfl rfl rfl ?_))))))))
  exact ⟨_, rfl, rfl, rfl, b.1, b.2⟩
theorem s_Mi_hasPart {σ : eS} {k : Int} : MtI shA M_Mi_hasPart [vr 22, vi k] σ (fun σ' z => σ' = σ ∧ ((z = 1 ∧ 0 ≤ k ∧ k < σ 22 5) ∨ (z = 0 ∧ ¬ (0 ≤ k ∧ k < σ 22 5)))) := by
  refine Mt.of okM_Mi_hasPart (Nat.le_of_ble_eq_true rfl) (fun hk hg => ?_)
  refine ok_iload_n 0 rfl rfl rfl (ok_if_lt 1 16 rfl rfl rfl (fun h1 => ?_) (fun h1 => ?_))
  · refine ok_iconst 8 rfl rfl (by decide) (ok_zret 9 rfl rfl rfl (by first | omega | (simp [up_if]; omega) | (simp [up_if] at *; omega)) ?_)
    exact ⟨_, rfl, rfl, by omega⟩
  · refine ok_iload_n 2 rfl rfl rfl (ok_aload_n 3 rfl rfl rfl (ok_getI 4 rfl rfl fl_X3_28 rfl rfl (Or.inl rfl) (ok_icmp_ge 5 16 rfl rfl rfl (fun h9 => ?_) (fun h9 => ?_))))
    · refine ok_iconst 8 rfl rfl (by decide) (ok_zret 9 rfl rfl rfl (by first | omega | (simp [up_if]; omega) | (simp [up_if] at *; omega)) ?_)
      exact ⟨_, rfl, rfl, by omega⟩
    · refine ok_iconst 6 rfl rfl (by decide) (ok_goto 7 17 rfl rfl rfl (ok_zret 9 rfl rfl rfl (by first | omega | (simp [up_if]; omega) | (simp [up_if] at *; omega)) ?_))
      exact ⟨_, rfl, rfl, by omega⟩
theorem s_Mi_hasRow {σ : eS} {k : Int} : MtI shA M_Mi_hasRow [vr 22, vi k] σ (fun σ' z => σ' = σ ∧ ((z = 1 ∧ 0 ≤ k ∧ k < σ 22 4) ∨ (z = 0 ∧ ¬ (0 ≤ k ∧ k < σ 22 4)))) := by
  refine Mt.of okM_Mi_hasRow (Nat.le_of_ble_eq_true rfl) (fun hk hg => ?_)
  refine ok_iload_n 0 rfl rfl rfl (ok_if_lt 1 16 rfl rfl rfl (fun h1 => ?_) (fun h1 => ?_))
  · refine ok_iconst 8 rfl rfl (by decide) (ok_zret 9 rfl rfl rfl (by first | omega | (simp [up_if]; omega) | (simp [up_if] at *; omega)) ?_)
    exact ⟨_, rfl, rfl, by omega⟩
  · refine ok_iload_n 2 rfl rfl rfl (ok_aload_n 3 rfl rfl rfl (ok_getI 4 rfl rfl fl_X3_25 rfl rfl (Or.inl rfl) (ok_icmp_ge 5 16 rfl rfl rfl (fun h9 => ?_) (fun h9 => ?_))))
    · refine ok_iconst 8 rfl rfl (by decide) (ok_zret 9 rfl rfl rfl (by first | omega | (simp [up_if]; omega) | (simp [up_if] at *; omega)) ?_)
      exact ⟨_, rfl, rfl, by omega⟩
    · refine ok_iconst 6 rfl rfl (by decide) (ok_goto 7 17 rfl rfl rfl (ok_zret 9 rfl rfl rfl (by first | omega | (simp [up_if]; omega) | (simp [up_if] at *; omega)) ?_))
      exact ⟨_, rfl, rfl, by omega⟩
theorem s_Mi_hasJob {σ : eS} {k : Int} : MtI shA M_Mi_hasJob [vr 22, vi k] σ (fun σ' z => σ' = σ ∧ ((z = 1 ∧ σ 22 2 = 2 ∧ 0 ≤ k ∧ k < σ 22 3) ∨ (z = 0 ∧ ¬ (σ 22 2 = 2 ∧ 0 ≤ k ∧ k < σ 22 3)))) := by
  refine Mt.of okM_Mi_hasJob (Nat.le_of_ble_eq_true rfl) (fun hk hg => ?_)
  refine ok_aload_n 0 rfl rfl rfl (ok_getI 1 rfl rfl fl_X3_18 rfl rfl (Or.inl rfl) (ok_iconst 2 rfl rfl (by decide) (ok_icmp_ne 3 24 rfl rfl rfl (fun h5 => ?_) (fun h5 => ?_))))
  · refine ok_iconst 12 rfl rfl (by decide) (ok_zret 13 rfl rfl rfl (by first | omega | (simp [up_if]; omega) | (simp [up_if] at *; omega)) ?_)
    exact ⟨_, rfl, rfl, by omega⟩
  · refine ok_iload_n 4 rfl rfl rfl (ok_if_lt 5 24 rfl rfl rfl (fun h9 => ?_) (fun h9 => ?_))
    · refine ok_iconst 12 rfl rfl (by decide) (ok_zret 13 rfl rfl rfl (by first | omega | (simp [up_if]; omega) | (simp [up_if] at *; omega)) ?_)
      exact ⟨_, rfl, rfl, by omega⟩
    · refine ok_iload_n 6 rfl rfl rfl (ok_aload_n 7 rfl rfl rfl (ok_getI 8 rfl rfl fl_X3_22 rfl rfl (Or.inl rfl) (ok_icmp_ge 9 24 rfl rfl rfl (fun h17 => ?_) (fun h17 => ?_))))
      · refine ok_iconst 12 rfl rfl (by decide) (ok_zret 13 rfl rfl rfl (by first | omega | (simp [up_if]; omega) | (simp [up_if] at *; omega)) ?_)
        exact ⟨_, rfl, rfl, by omega⟩
      · refine ok_iconst 10 rfl rfl (by decide) (ok_goto 11 25 rfl rfl rfl (ok_zret 13 rfl rfl rfl (by first | omega | (simp [up_if]; omega) | (simp [up_if] at *; omega)) ?_))
        exact ⟨_, rfl, rfl, by omega⟩
theorem s_Mi_machineOf {σ : eS} {k r : Int} (h : iMi σ) (hkk : 0 ≤ k ∧ k < 64) (hr : 0 ≤ r ∧ r < 8) : MtI shA M_Mi_machineOf [vr 22, vi k, vi r] σ (fun σ' z => σ' = σ ∧ -1 ≤ z ∧ z ≤ 7) := by
  refine Mt.of okM_Mi_machineOf (Nat.le_of_ble_eq_true rfl) (fun hk hg => ?_)
  refine ok_aload_n 0 rfl rfl rfl (ok_iload_n 1 rfl rfl rfl (ok_iload_n 2 rfl rfl rfl (ok_callVI (M' := M_Mi_columnOf) (as := [_, _]) 3 rfl rfl ml_X3_46 (s_Mi_columnOf h hkk hr) rfl rfl (Nat.le_of_ble_eq_true rfl) ⟨Nat.le_of_ble_eq_true rfl, Nat.le_of_ble_eq_true rfl⟩ rfl (Nat.le_of_ble_eq_true rfl) (fun σ' z hz => ?_))))
  obtain ⟨hs_, hz⟩ := hz
  rw [hs_]; clear hs_ σ'
  refine ok_ist3 4 rfl rfl rfl (ok_iload_n 5 rfl rfl rfl (ok_aload_n 6 rfl rfl rfl (ok_getI 7 rfl rfl fl_X3_22 rfl rfl (Or.inl rfl) (ok_icmp_ge 8 19 rfl rfl rfl (fun h12 => ?_) (fun h12 => ?_)))))
  · refine ok_iconst 11 rfl rfl (by decide) (ok_iret 12 rfl rfl rfl ?_)
    exact ⟨_, rfl, rfl, by omega, by omega⟩
  · refine ok_iload_n 9 rfl rfl rfl (ok_goto 10 20 rfl rfl rfl (ok_iret 12 rfl rfl rfl ?_))
    exact ⟨_, rfl, rfl, by omega, by omega⟩
theorem s_Mi_lastHour {σ : eS} {r : Int} (h : iMi σ) (hr : 0 ≤ r ∧ r < 8) : MtI shA M_Mi_lastHour [vr 22, vi r] σ (fun σ' _ => σ' = σ ∧ True) := by
  refine Mt.of okM_Mi_lastHour (Nat.le_of_ble_eq_true rfl) (fun hk hg => ?_)
  obtain ⟨⟨h1, h2, h3, h4, h5, h6, h7⟩, a, b, d⟩ := id h
  refine ok_iconst 0 rfl rfl (by decide) (ok_ist2 1 rfl rfl rfl (ok_iconst 2 rfl rfl (by decide) (ok_ist3 3 rfl rfl rfl (ok_iconst 4 rfl rfl (by decide) (ok_ist4 5 rfl rfl rfl ?_)))))
  refine lpO3 (fun (u v j : Int) => [some (vr 22), some (vi r), some (vi u), some (vi v), some (vi j)]) (fun _ _ _ => σ) (fun _ v j => 0 ≤ j ∧ j ≤ 64 ∧ v = sm (fun k => σ 23 k) j.toNat) (fun _ _ j => (64 - j).toNat) ?_ (-1) 0 0 ⟨by omega, by omega, rfl⟩
  rintro u v j ⟨j1, j2, v1⟩ ih
  refine ok_iload 6 rfl rfl rfl (ok_aload_n 7 rfl rfl rfl (ok_getI 8 rfl rfl fl_X3_28 rfl rfl (Or.inl rfl) (ok_icmp_ge 9 47 rfl rfl rfl (fun h13 => ?_) (fun h13 => ?_))))
  · refine ok_iload_n 29 rfl rfl rfl (ok_iret 30 rfl rfl rfl ?_)
    exact ⟨_, rfl, rfl, trivial⟩
  · have w := mi_bd h j1 (by omega)
    have e := sm_s (fun k => σ 23 k) (j := j) j1
    refine ok_iload_n 10 rfl rfl rfl (ok_aload_n 11 rfl rfl rfl (ok_getR 12 rfl rfl fl_X3_9 rfl rfl (ok_iload 13 rfl rfl rfl (ok_iald 14 rfl rfl rfl (by first | omega | (simp [up_if]; omega) | (simp [up_if] at *; omega)) (ok_iadd 15 rfl rfl (by first | omega | (simp [up_if]; omega) | (simp [up_if] at *; omega)) (ok_ist3 16 rfl rfl rfl (ok_aload_n 17 rfl rfl rfl (ok_iload 18 rfl rfl rfl (ok_iload_n 19 rfl rfl rfl (ok_callVI (M' := M_Mi_machineOf) (as := [_, _]) 20 rfl rfl ml_X3_63 (s_Mi_machineOf h ⟨by omega, by omega⟩ hr) rfl rfl (Nat.le_of_ble_eq_true rfl) ⟨Nat.le_of_ble_eq_true rfl, Nat.le_of_ble_eq_true rfl⟩ rfl (Nat.le_of_ble_eq_true rfl) (fun σ' z1 x1 => ?_)))))))))))
    obtain ⟨hs_, x1⟩ := x1
    rw [hs_]; clear hs_ σ'
    refine ok_iconst 21 rfl rfl (by decide) (ok_icmp_eq 22 41 rfl rfl rfl (fun h34 => ?_) (fun h34 => ?_))
    · refine ok_inc4 27 rfl rfl rfl (by first | omega | (simp [up_if]; omega) | (simp [up_if] at *; omega)) (ok_goto 28 7 rfl rfl rfl ?_)
      exact ih _ _ (j + 1) ⟨by omega, by omega, by omega⟩ (by omega)
    · refine ok_iload_n 23 rfl rfl rfl (ok_iconst 24 rfl rfl (by decide) (ok_isub 25 rfl rfl (by first | omega | (simp [up_if]; omega) | (simp [up_if] at *; omega)) (ok_ist2 26 rfl rfl rfl (ok_inc4 27 rfl rfl rfl (by first | omega | (simp [up_if]; omega) | (simp [up_if] at *; omega)) (ok_goto 28 7 rfl rfl rfl ?_)))))
      exact ih _ _ (j + 1) ⟨by omega, by omega, by omega⟩ (by omega)
theorem s_Mi_countPieces {σ : eS} {r : Int} (h : iMi σ) (hr : 0 ≤ r ∧ r < 8) : MtI shA M_Mi_countPieces [vr 22, vi r] σ (fun σ' _ => σ' = σ ∧ True) := by
  refine Mt.of okM_Mi_countPieces (Nat.le_of_ble_eq_true rfl) (fun hk hg => ?_)
  obtain ⟨⟨h1, h2, h3, h4, h5, h6, h7⟩, a, b, d⟩ := id h
  refine ok_iconst 0 rfl rfl (by decide) (ok_ist2 1 rfl rfl rfl (ok_iconst 2 rfl rfl (by decide) (ok_ist3 3 rfl rfl rfl ?_)))
  refine lpO2 (fun (v j : Int) => [some (vr 22), some (vi r), some (vi v), some (vi j)]) (fun _ _ => σ) (fun v j => 0 ≤ j ∧ j ≤ 64 ∧ 0 ≤ v ∧ v ≤ j) (fun _ j => (64 - j).toNat) ?_ 0 0 ⟨by omega, by omega, by omega, by omega⟩
  rintro v j ⟨j1, j2, v1, v2⟩ ih
  refine ok_iload_n 4 rfl rfl rfl (ok_aload_n 5 rfl rfl rfl (ok_getI 6 rfl rfl fl_X3_28 rfl rfl (Or.inl rfl) (ok_icmp_ge 7 31 rfl rfl rfl (fun h9 => ?_) (fun h9 => ?_))))
  · refine ok_iload_n 17 rfl rfl rfl (ok_iret 18 rfl rfl rfl ?_)
    exact ⟨_, rfl, rfl, trivial⟩
  · refine ok_aload_n 8 rfl rfl rfl (ok_iload_n 9 rfl rfl rfl (ok_iload_n 10 rfl rfl rfl (ok_callVI (M' := M_Mi_machineOf) (as := [_, _]) 11 rfl rfl ml_X3_63 (s_Mi_machineOf h ⟨by omega, by omega⟩ hr) rfl rfl (Nat.le_of_ble_eq_true rfl) ⟨Nat.le_of_ble_eq_true rfl, Nat.le_of_ble_eq_true rfl⟩ rfl (Nat.le_of_ble_eq_true rfl) (fun σ' z1 x1 => ?_))))
    obtain ⟨hs_, x1⟩ := x1
    rw [hs_]; clear hs_ σ'
    refine ok_iconst 12 rfl rfl (by decide) (ok_icmp_eq 13 25 rfl rfl rfl (fun h19 => ?_) (fun h19 => ?_))
    · refine ok_inc3 15 rfl rfl rfl (by first | omega | (simp [up_if]; omega) | (simp [up_if] at *; omega)) (ok_goto 16 4 rfl rfl rfl ?_)
      exact ih _ (j + 1) ⟨by omega, by omega, by omega, by omega⟩ (by omega)
    · refine ok_inc2 14 rfl rfl rfl (by first | omega | (simp [up_if]; omega) | (simp [up_if] at *; omega)) (ok_inc3 15 rfl rfl rfl (by first | omega | (simp [up_if]; omega) | (simp [up_if] at *; omega)) (ok_goto 16 4 rfl rfl rfl ?_))
      exact ih _ (j + 1) ⟨by omega, by omega, by omega, by omega⟩ (by omega)
theorem s_Mi_countMoves {σ : eS} {r : Int} (h : iMi σ) (hr : 0 ≤ r ∧ r < 8) : MtI shA M_Mi_countMoves [vr 22, vi r] σ (fun σ' _ => σ' = σ ∧ True) := by
  refine Mt.of okM_Mi_countMoves (Nat.le_of_ble_eq_true rfl) (fun hk hg => ?_)
  obtain ⟨⟨h1, h2, h3, h4, h5, h6, h7⟩, a, b, d⟩ := id h
  refine ok_iconst 0 rfl rfl (by decide) (ok_ist2 1 rfl rfl rfl (ok_iconst 2 rfl rfl (by decide) (ok_ist3 3 rfl rfl rfl (ok_iconst 4 rfl rfl (by decide) (ok_ist4 5 rfl rfl rfl ?_)))))
  refine lpO3 (fun (v u j : Int) => [some (vr 22), some (vi r), some (vi v), some (vi u), some (vi j), none]) (fun _ _ _ => σ) (fun v _ j => 0 ≤ j ∧ j ≤ 64 ∧ 0 ≤ v ∧ v ≤ j) (fun _ _ j => (64 - j).toNat) ?_ 0 (-1) 0 ⟨by omega, by omega, by omega, by omega⟩
  rintro v u j ⟨j1, j2, v1, v2⟩ ih
  refine ok_iload 6 rfl rfl rfl (ok_aload_n 7 rfl rfl rfl (ok_getI 8 rfl rfl fl_X3_28 rfl rfl (Or.inl rfl) (ok_icmp_ge 9 54 rfl rfl rfl (fun h13 => ?_) (fun h13 => ?_))))
  · refine ok_iload_n 29 rfl rfl rfl (ok_iret 30 rfl rfl rfl ?_)
    exact ⟨_, rfl, rfl, trivial⟩
  · refine ok_aload_n 10 rfl rfl rfl (ok_iload 11 rfl rfl rfl (ok_iload_n 12 rfl rfl rfl (ok_callVI (M' := M_Mi_machineOf) (as := [_, _]) 13 rfl rfl ml_X3_63 (s_Mi_machineOf h ⟨by omega, by omega⟩ hr) rfl rfl (Nat.le_of_ble_eq_true rfl) ⟨Nat.le_of_ble_eq_true rfl, Nat.le_of_ble_eq_true rfl⟩ rfl (Nat.le_of_ble_eq_true rfl) (fun σ' z1 x1 => ?_))))
    obtain ⟨hs_, x1⟩ := x1
    rw [hs_]; clear hs_ σ'
    refine ok_ist5 14 rfl rfl rfl (ok_iload 15 rfl rfl rfl (ok_iconst 16 rfl rfl (by decide) (ok_icmp_eq 17 48 rfl rfl rfl (fun h28 => ?_) (fun h28 => ?_))))
    · refine ok_inc4 27 rfl rfl rfl (by first | omega | (simp [up_if]; omega) | (simp [up_if] at *; omega)) (ok_goto 28 7 rfl rfl rfl ?_)
      exact ok_fg [some (vr 22), some (vi r), some (vi _), some (vi _), some (vi (j + 1)), none] ⟨rfl, rfl, rfl, rfl, rfl, trivial⟩ (ih _ _ (j + 1) ⟨by omega, by omega, by omega, by omega⟩ (by omega))
    · refine ok_iload_n 18 rfl rfl rfl (ok_iconst 19 rfl rfl (by decide) (ok_icmp_eq 20 45 rfl rfl rfl (fun h33 => ?_) (fun h33 => ?_)))
      · refine ok_iload 25 rfl rfl rfl (ok_ist3 26 rfl rfl rfl (ok_inc4 27 rfl rfl rfl (by first | omega | (simp [up_if]; omega) | (simp [up_if] at *; omega)) (ok_goto 28 7 rfl rfl rfl ?_)))
        exact ok_fg [some (vr 22), some (vi r), some (vi _), some (vi _), some (vi (j + 1)), none] ⟨rfl, rfl, rfl, rfl, rfl, trivial⟩ (ih _ _ (j + 1) ⟨by omega, by omega, by omega, by omega⟩ (by omega))
      · refine ok_iload_n 21 rfl rfl rfl (ok_iload 22 rfl rfl rfl (ok_icmp_eq 23 45 rfl rfl rfl (fun h39 => ?_) (fun h39 => ?_)))
        · refine ok_iload 25 rfl rfl rfl (ok_ist3 26 rfl rfl rfl (ok_inc4 27 rfl rfl rfl (by first | omega | (simp [up_if]; omega) | (simp [up_if] at *; omega)) (ok_goto 28 7 rfl rfl rfl ?_)))
          exact ok_fg [some (vr 22), some (vi r), some (vi _), some (vi _), some (vi (j + 1)), none] ⟨rfl, rfl, rfl, rfl, rfl, trivial⟩ (ih _ _ (j + 1) ⟨by omega, by omega, by omega, by omega⟩ (by omega))
        · refine ok_inc2 24 rfl rfl rfl (by first | omega | (simp [up_if]; omega) | (simp [up_if] at *; omega)) (ok_iload 25 rfl rfl rfl (ok_ist3 26 rfl rfl rfl (ok_inc4 27 rfl rfl rfl (by first | omega | (simp [up_if]; omega) | (simp [up_if] at *; omega)) (ok_goto 28 7 rfl rfl rfl ?_))))
          exact ok_fg [some (vr 22), some (vi r), some (vi _), some (vi _), some (vi (j + 1)), none] ⟨rfl, rfl, rfl, rfl, rfl, trivial⟩ (ih _ _ (j + 1) ⟨by omega, by omega, by omega, by omega⟩ (by omega))
theorem s_Ev_job {σ : eS} {j w : Int} (h : IA σ) : MtI shA M_Ev_job [vr 0, vi j, vi w] σ (fun σ' _ => σ' = σ ∧ True) := by
  refine Mt.of okM_Ev_job (Nat.le_of_ble_eq_true rfl) (fun hk hg => ?_)
  have hm := h.2.2.2.1
  obtain ⟨⟨h1, h2, h3, h4, h5, h6, h7⟩, a, b, d⟩ := id hm
  refine ok_aload_n 0 rfl rfl rfl (ok_getR 1 rfl rfl fl_X11_48 rfl rfl (ok_iload_n 2 rfl rfl rfl (ok_callVI (M' := M_Mi_hasJob) (as := [_]) 3 rfl rfl ml_X11_300 (s_Mi_hasJob) rfl rfl (Nat.le_of_ble_eq_true rfl) ⟨Nat.le_of_ble_eq_true rfl, Nat.le_of_ble_eq_true rfl⟩ rfl (Nat.le_of_ble_eq_true rfl) (fun σ' z1 x1 => ?_))))
  obtain ⟨hs_, x1⟩ := x1
  rw [hs_]; clear hs_ σ'
  refine ok_if_ne 4 13 rfl rfl rfl (fun h8 => ?_) (fun h8 => ?_)
  · refine ok_iload_n 7 rfl rfl rfl ?_
    rcases (by omega : w = 0 ∨ w = 1 ∨ w = 2 ∨ (w < 0 ∨ 2 < w)) with q_ | q_ | q_ | q_
    · subst q_
      refine ok_tin 8 (len := 26) 40 rfl rfl (by decide) (by decide) rfl rfl ?_
      refine ok_aload_n 9 rfl rfl rfl (ok_getR 10 rfl rfl fl_X11_48 rfl rfl (ok_iload_n 11 rfl rfl rfl (ok_callVI (M' := M_Mi_lastHour) (as := [_]) 12 rfl rfl ml_X11_306 (s_Mi_lastHour hm ⟨by omega, by omega⟩) rfl rfl (Nat.le_of_ble_eq_true rfl) ⟨Nat.le_of_ble_eq_true rfl, Nat.le_of_ble_eq_true rfl⟩ rfl (Nat.le_of_ble_eq_true rfl) (fun σ' z2 x2 => ?_))))
      obtain ⟨hs_, x2⟩ := x2
      rw [hs_]; clear hs_ σ'
      refine ok_iret 13 rfl rfl rfl ?_
      exact ⟨_, rfl, rfl, trivial⟩
    · subst q_
      refine ok_tin 8 (len := 26) 49 rfl rfl (by decide) (by decide) rfl rfl ?_
      refine ok_aload_n 14 rfl rfl rfl (ok_getR 15 rfl rfl fl_X11_48 rfl rfl (ok_iload_n 16 rfl rfl rfl (ok_callVI (M' := M_Mi_countPieces) (as := [_]) 17 rfl rfl ml_X11_309 (s_Mi_countPieces hm ⟨by omega, by omega⟩) rfl rfl (Nat.le_of_ble_eq_true rfl) ⟨Nat.le_of_ble_eq_true rfl, Nat.le_of_ble_eq_true rfl⟩ rfl (Nat.le_of_ble_eq_true rfl) (fun σ' z2 x2 => ?_))))
      obtain ⟨hs_, x2⟩ := x2
      rw [hs_]; clear hs_ σ'
      refine ok_iret 18 rfl rfl rfl ?_
      exact ⟨_, rfl, rfl, trivial⟩
    · subst q_
      refine ok_tin 8 (len := 26) 58 rfl rfl (by decide) (by decide) rfl rfl ?_
      refine ok_aload_n 19 rfl rfl rfl (ok_getR 20 rfl rfl fl_X11_48 rfl rfl (ok_iload_n 21 rfl rfl rfl (ok_callVI (M' := M_Mi_countMoves) (as := [_]) 22 rfl rfl ml_X11_312 (s_Mi_countMoves hm ⟨by omega, by omega⟩) rfl rfl (Nat.le_of_ble_eq_true rfl) ⟨Nat.le_of_ble_eq_true rfl, Nat.le_of_ble_eq_true rfl⟩ rfl (Nat.le_of_ble_eq_true rfl) (fun σ' z2 x2 => ?_))))
      obtain ⟨hs_, x2⟩ := x2
      rw [hs_]; clear hs_ σ'
      refine ok_iret 23 rfl rfl rfl ?_
      exact ⟨_, rfl, rfl, trivial⟩
    · refine ok_tout 8 (len := 26) 67 rfl rfl q_ rfl ?_
      refine ok_iconst 24 rfl rfl (by decide) (ok_iret 25 rfl rfl rfl ?_)
      exact ⟨_, rfl, rfl, trivial⟩
  · refine ok_iconst 5 rfl rfl (by decide) (ok_iret 6 rfl rfl rfl ?_)
    exact ⟨_, rfl, rfl, trivial⟩
abbrev rgS1 : Nat → Int → Prop := fun c _ => c = 46 ∨ c = 47
/-- what was shown changes -/
def QAw (σ σ' : eS) : Prop := IA σ' ∧ tpS σ σ' ∧ tbS σ σ' ∧ miS σ σ' ∧ mkS 20000 σ σ'
