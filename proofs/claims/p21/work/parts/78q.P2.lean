theorem fr1 {σ τ : eS} {c0 : Nat} {k0 : Int} (f : fr (fun c k => c = c0 ∧ k = k0) σ τ) : τ = up σ c0 k0 (τ c0 k0) := by
  funext c k
  rw [up_if]
  split
  · next h => rw [h.1, h.2]
  · next h => exact f c k h
theorem t_Tp_skipBlanks {σ : eS} (h : tP σ) : MtV shA M_Tp_skipBlanks [vr 10] σ (fun σ' => σ' = up σ 10 6 (sk (σ 11) (σ 10 3) (σ 10 6))) := by
  refine Mt.of okM_Tp_skipBlanks (Nat.le_of_ble_eq_true rfl) (fun hk hg => ?_)
  obtain ⟨h1, h2, h3, h4⟩ := h
  refine ok_iconst 0 rfl rfl (by decide) (ok_ist1 1 rfl rfl rfl ?_)
  refine lpO2 (fun (i : Int) (_ : eS) => [some (vr 10), some (vi i)]) (fun _ ρ => ρ) (fun i ρ => 0 ≤ i ∧ i ≤ 600 ∧ fr (fun c k => c = 10 ∧ k = 6) σ ρ ∧ ρ 10 6 = σ 10 6 + i ∧ ρ 10 6 ≤ σ 10 3 ∧ ∀ j, σ 10 6 ≤ j → j < ρ 10 6 → blA (σ 11) (σ 10 3) j) (fun i _ => (600 - i).toNat) ?_ 0 σ ⟨by omega, by omega, fr.rf, by omega, by omega, fun j a b => by omega⟩
  rintro i ρ ⟨i1, i2, f, a1, a2, a3⟩ ih
  have e3 : ρ 10 3 = σ 10 3 := f 10 3 (by omega)
  have e11 : ∀ k, ρ 11 k = σ 11 k := fun k => f 11 k (by omega)
  have fin : ¬ blA (σ 11) (σ 10 3) (ρ 10 6) → ρ = up σ 10 6 (sk (σ 11) (σ 10 3) (σ 10 6)) := fun hb => by
    rw [fr1 f, sk_un (q := ρ 10 6) (by omega) a3 hb]
  refine ok_iload_n 2 rfl rfl rfl (ok_sipush 3 rfl rfl (by decide) (by decide) (ok_icmp_ge 4 36 rfl rfl rfl (fun h6 => ?_) (fun h6 => ?_)))
  · refine ok_vret 18 rfl rfl rfl ?_
    exact ⟨rfl, fin (fun hb => by have := hb.1; omega)⟩
  · refine ok_aload_n 5 rfl rfl rfl (ok_aload_n 6 rfl rfl rfl (ok_getI 7 rfl rfl fl_X10_31 rfl rfl (Or.inl rfl) (ok_callVI (M' := M_Tp_isBlank) (as := [_]) 8 rfl rfl ml_X10_58 (s_Tp_isBlank ⟨by omega, by omega⟩ (by omega)) rfl rfl (Nat.le_of_ble_eq_true rfl) ⟨Nat.le_of_ble_eq_true rfl, Nat.le_of_ble_eq_true rfl⟩ rfl (Nat.le_of_ble_eq_true rfl) (fun σ' z hz => ?_))))
    obtain ⟨hs_, hz⟩ := hz
    rw [hs_]; clear hs_ σ'
    refine ok_if_eq 9 36 rfl rfl rfl (fun h17 => ?_) (fun h17 => ?_)
    · refine ok_vret 18 rfl rfl rfl ?_
      refine ⟨rfl, fin (fun hb => ?_)⟩
      have := e11 (ρ 10 6)
      unfold blA at hb
      omega
    · refine ok_aload_n 10 rfl rfl rfl (ok_dup 11 rfl rfl rfl (ok_getI 12 rfl rfl fl_X10_31 rfl rfl (Or.inl rfl) (ok_iconst 13 rfl rfl (by decide) (ok_iadd 14 rfl rfl (by first | omega | (simp [up_if]; omega) | (simp [up_if] at *; omega)) (ok_putI 15 rfl rfl fl_X10_31 rfl rfl rfl rfl (ok_inc1 16 rfl rfl rfl (by first | omega | (simp [up_if]; omega) | (simp [up_if] at *; omega)) (ok_goto 17 2 rfl rfl rfl ?_)))))))
      refine ih (i + 1) _ ⟨by omega, by omega, fr_up f ⟨rfl, rfl⟩, by rw [up_same]; omega, by rw [up_same]; omega, fun j a b => ?_⟩ (by omega)
      rw [up_same] at b
      rcases (by omega : j < ρ 10 6 ∨ j = ρ 10 6) with q | q
      · exact a3 j a q
      · rw [q]
        have := e11 (ρ 10 6)
        unfold blA
        omega
theorem t_Tp_countDigits {σ : eS} (h : tP σ) : MtI shA M_Tp_countDigits [vr 10] σ (fun σ' z => σ' = σ ∧ z = de (σ 11) (σ 10 3) (σ 10 6) - σ 10 6) := by
  refine Mt.of okM_Tp_countDigits (Nat.le_of_ble_eq_true rfl) (fun hk hg => ?_)
  obtain ⟨h1, h2, h3, h4⟩ := h
  refine ok_iconst 0 rfl rfl (by decide) (ok_ist1 1 rfl rfl rfl (ok_aload_n 2 rfl rfl rfl (ok_getI 3 rfl rfl fl_X10_31 rfl rfl (Or.inl rfl) (ok_ist2 4 rfl rfl rfl ?_))))
  refine lpO2 (fun (n k : Int) => [some (vr 10), some (vi n), some (vi k)]) (fun _ _ => σ) (fun n k => σ 10 6 ≤ k ∧ k ≤ σ 10 3 ∧ n = k - σ 10 6 ∧ ∀ j, σ 10 6 ≤ j → j < k → dgA (σ 11) (σ 10 3) j) (fun _ k => (600 - k).toNat) ?_ 0 (σ 10 6) ⟨by omega, by omega, by omega, fun j a b => by omega⟩
  rintro n k ⟨k1, k2, en, a3⟩ ih
  have fin : ¬ dgA (σ 11) (σ 10 3) k → n = de (σ 11) (σ 10 3) (σ 10 6) - σ 10 6 := fun hb => by rw [de_un (q := k) k1 a3 hb]; exact en
  refine ok_iload_n 5 rfl rfl rfl (ok_aload_n 6 rfl rfl rfl (ok_getI 7 rfl rfl fl_X10_21 rfl rfl (Or.inl rfl) (ok_icmp_ge 8 32 rfl rfl rfl (fun h12 => ?_) (fun h12 => ?_))))
  · refine ok_iload_n 16 rfl rfl rfl (ok_iret 17 rfl rfl rfl ?_)
    exact ⟨_, rfl, rfl, fin (fun hb => by unfold dgA at hb; omega)⟩
  · refine ok_aload_n 9 rfl rfl rfl (ok_iload_n 10 rfl rfl rfl (ok_callVI (M' := M_Tp_isDigit) (as := [_]) 11 rfl rfl ml_X10_69 (s_Tp_isDigit ⟨by omega, by omega⟩ (by omega)) rfl rfl (Nat.le_of_ble_eq_true rfl) ⟨Nat.le_of_ble_eq_true rfl, Nat.le_of_ble_eq_true rfl⟩ rfl (Nat.le_of_ble_eq_true rfl) (fun σ' z hz => ?_)))
    obtain ⟨hs_, hz⟩ := hz
    rw [hs_]; clear hs_ σ'
    refine ok_if_eq 12 32 rfl rfl rfl (fun h20 => ?_) (fun h20 => ?_)
    · refine ok_iload_n 16 rfl rfl rfl (ok_iret 17 rfl rfl rfl ?_)
      exact ⟨_, rfl, rfl, fin (fun hb => by unfold dgA at hb; omega)⟩
    · refine ok_inc1 13 rfl rfl rfl (by first | omega | (simp [up_if]; omega) | (simp [up_if] at *; omega)) (ok_inc2 14 rfl rfl rfl (by first | omega | (simp [up_if]; omega) | (simp [up_if] at *; omega)) (ok_goto 15 7 rfl rfl rfl ?_))
      refine ih _ (k + 1) ⟨by omega, by omega, by omega, fun j a b => ?_⟩ (by omega)
      rcases (by omega : j < k ∨ j = k) with q | q
      · exact a3 j a q
      · rw [q]; unfold dgA; omega
theorem t_Tp_readNumber {σ : eS} (h : tP σ) (h6 : de (σ 11) (σ 10 3) (σ 10 6) - σ 10 6 ≤ 6) : MtI shA M_Tp_readNumber [vr 10] σ (fun σ' z => σ' = up σ 10 6 (de (σ 11) (σ 10 3) (σ 10 6)) ∧ z = vaD (σ 11) (σ 10 6) (de (σ 11) (σ 10 3) (σ 10 6))) := by
  refine Mt.of okM_Tp_readNumber (Nat.le_of_ble_eq_true rfl) (fun hk hg => ?_)
  obtain ⟨h1, h2, h3, h4⟩ := h
  obtain ⟨d1, d2, d3, d4⟩ := de_sp (σ 11) (σ 10 3) (σ 10 6)
  refine ok_iconst 0 rfl rfl (by decide) (ok_ist1 1 rfl rfl rfl (ok_iconst 2 rfl rfl (by decide) (ok_ist2 3 rfl rfl rfl ?_)))
  refine lpO3 (fun (v i : Int) (_ : eS) => [some (vr 10), some (vi v), some (vi i)]) (fun _ _ ρ => ρ) (fun v i ρ => 0 ≤ i ∧ i ≤ 6 ∧ fr (fun c k => c = 10 ∧ k = 6) σ ρ ∧ ρ 10 6 = σ 10 6 + i ∧ ρ 10 6 ≤ σ 10 3 ∧ v = vaN (σ 11) (σ 10 6) i.toNat ∧ ∀ j, σ 10 6 ≤ j → j < ρ 10 6 → dgA (σ 11) (σ 10 3) j) (fun _ i _ => (6 - i).toNat) ?_ 0 0 σ ⟨by omega, by omega, fr.rf, by omega, by omega, rfl, fun j a b => by omega⟩
  rintro v i ρ ⟨i1, i2, f, a1, a2, ev, a3⟩ ih
  have e3 : ρ 10 3 = σ 10 3 := f 10 3 (by omega)
  have e11 : ∀ k, ρ 11 k = σ 11 k := fun k => f 11 k (by omega)
  have vb := vaN_bd (B := σ 11) (p := σ 10 6) (n := i.toNat) (fun j a b => (a3 j a (by omega)).2) (by omega)
  rw [← ev, show ((i.toNat : Nat) : Int) = i by omega] at vb
  have pl := p10_le i
  have fin : ρ 10 6 = de (σ 11) (σ 10 3) (σ 10 6) → ρ = up σ 10 6 (de (σ 11) (σ 10 3) (σ 10 6)) ∧ v = vaD (σ 11) (σ 10 6) (de (σ 11) (σ 10 3) (σ 10 6)) := fun hb => by
    refine ⟨by rw [fr1 f, hb], ?_⟩
    unfold vaD
    rw [ev, ← hb, a1, show σ 10 6 + i - σ 10 6 = i by omega]
  refine ok_iload_n 4 rfl rfl rfl (ok_bipush 5 rfl rfl (by decide) (by decide) (ok_icmp_ge 6 55 rfl rfl rfl (fun h7 => ?_) (fun h7 => ?_)))
  · refine ok_iload_n 32 rfl rfl rfl (ok_iret 33 rfl rfl rfl ?_)
    refine ⟨_, rfl, fin ?_⟩
    rcases (by omega : de (σ 11) (σ 10 3) (σ 10 6) < ρ 10 6 ∨ de (σ 11) (σ 10 3) (σ 10 6) = ρ 10 6) with q | q
    · exact absurd (a3 _ d1 q) d4
    · exact q.symm
  · refine ok_aload_n 7 rfl rfl rfl (ok_aload_n 8 rfl rfl rfl (ok_getI 9 rfl rfl fl_X10_31 rfl rfl (Or.inl rfl) (ok_callVI (M' := M_Tp_isDigit) (as := [_]) 10 rfl rfl ml_X10_69 (s_Tp_isDigit ⟨by omega, by omega⟩ (by omega)) rfl rfl (Nat.le_of_ble_eq_true rfl) ⟨Nat.le_of_ble_eq_true rfl, Nat.le_of_ble_eq_true rfl⟩ rfl (Nat.le_of_ble_eq_true rfl) (fun σ' z hz => ?_))))
    obtain ⟨hs_, hz⟩ := hz
    rw [hs_]; clear hs_ σ'
    refine ok_if_eq 11 55 rfl rfl rfl (fun h18 => ?_) (fun h18 => ?_)
    · refine ok_iload_n 32 rfl rfl rfl (ok_iret 33 rfl rfl rfl ?_)
      refine ⟨_, rfl, fin (de_un (by omega) a3 (fun hb => ?_)).symm⟩
      have := e11 (ρ 10 6)
      unfold dgA at hb
      omega
    · have ps := p10_s (d := i) (x := v) (c := ρ 11 (ρ 10 6) - 48) i1 (by omega) vb.2 (by omega)
      have e16 := e11 (ρ 10 6)
      have pm := p10_le (i + 1)
      refine ok_iload_n 12 rfl rfl rfl (ok_bipush 13 rfl rfl (by decide) (by decide) (ok_imul 14 rfl rfl (by first | omega | (simp [up_if]; omega) | (simp [up_if] at *; omega)) (ok_aload_n 15 rfl rfl rfl (ok_getR 16 rfl rfl fl_X10_11 rfl rfl (ok_aload_n 17 rfl rfl rfl (ok_getI 18 rfl rfl fl_X10_31 rfl rfl (Or.inl rfl) (ok_iald 19 rfl rfl rfl (by first | omega | (simp [up_if]; omega) | (simp [up_if] at *; omega)) (ok_iadd 20 rfl rfl (by first | omega | (simp [up_if]; omega) | (simp [up_if] at *; omega)) (ok_bipush 21 rfl rfl (by decide) (by decide) (ok_isub 22 rfl rfl (by first | omega | (simp [up_if]; omega) | (simp [up_if] at *; omega)) (ok_ist1 23 rfl rfl rfl (ok_aload_n 24 rfl rfl rfl (ok_dup 25 rfl rfl rfl (ok_getI 26 rfl rfl fl_X10_31 rfl rfl (Or.inl rfl) (ok_iconst 27 rfl rfl (by decide) (ok_iadd 28 rfl rfl (by first | omega | (simp [up_if]; omega) | (simp [up_if] at *; omega)) (ok_putI 29 rfl rfl fl_X10_31 rfl rfl rfl rfl (ok_inc2 30 rfl rfl rfl (by first | omega | (simp [up_if]; omega) | (simp [up_if] at *; omega)) (ok_goto 31 4 rfl rfl rfl ?_)))))))))))))))))))
      refine ih _ (i + 1) _ ⟨by omega, by omega, fr_up f ⟨rfl, rfl⟩, by rw [up_same]; omega, by rw [up_same]; omega, ?_, fun j a b => ?_⟩ (by omega)
      · rw [vaN_s i1, ← ev, ← a1, ← e16]; omega
      · rw [up_same] at b
        rcases (by omega : j < ρ 10 6 ∨ j = ρ 10 6) with q | q
        · exact a3 j a q
        · rw [q]; unfold dgA; omega
