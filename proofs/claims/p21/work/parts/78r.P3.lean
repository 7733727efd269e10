/-- what stands behind a number: 0 no stroke, 1 a fault (which, where), 2 a divisor -/
def dv0 (σ : eS) : Prop := ¬ (sk (σ 11) (σ 10 3) (σ 10 6) < σ 10 3 ∧ σ 11 (sk (σ 11) (σ 10 3) (σ 10 6)) = 47)
abbrev dvq (σ : eS) : Int := sk (σ 11) (σ 10 3) (sk (σ 11) (σ 10 3) (σ 10 6) + 1)
abbrev dve (σ : eS) : Int := de (σ 11) (σ 10 3) (dvq σ)
def dvB (σ : eS) : Prop := ¬ (dvq σ < σ 10 3 ∧ 48 ≤ σ 11 (dvq σ) ∧ σ 11 (dvq σ) ≤ 57) ∨ 6 < dve σ - dvq σ
def QV (σ σ' : eS) (z : Int) : Prop := (dv0 σ ∧ z = 1 ∧ σ' = up σ 10 6 (sk (σ 11) (σ 10 3) (σ 10 6))) ∨ (¬ dv0 σ ∧ dvB σ ∧ z = 1 ∧ σ' 10 4 = 1 ∧ σ' 10 5 = dvq σ) ∨ (¬ dv0 σ ∧ ¬ dvB σ ∧ vaD (σ 11) (dvq σ) (dve σ) = 0 ∧ z = 1 ∧ σ' 10 4 = 2 ∧ σ' 10 5 = dvq σ) ∨ (¬ dv0 σ ∧ ¬ dvB σ ∧ vaD (σ 11) (dvq σ) (dve σ) ≠ 0 ∧ z = vaD (σ 11) (dvq σ) (dve σ) ∧ σ' = up σ 10 6 (dve σ))
theorem up2 (σ : eS) (c : Nat) (k v z : Int) : up (up σ c k v) c k z = up σ c k z := by
  funext x y
  rw [up_if, up_if, up_if]
  split <;> rfl
theorem t_Tp_readDivisor {σ : eS} (h : tP σ) : MtI shA M_Tp_readDivisor [vr 10] σ (fun σ' z => QD σ σ' ∧ 1 ≤ z ∧ z ≤ 999999 ∧ QV σ σ' z) := by
  refine Mt.of okM_Tp_readDivisor (Nat.le_of_ble_eq_true rfl) (fun hk hg => ?_)
  obtain ⟨h1, h2, h3, h4⟩ := id h
  obtain ⟨s1, s2, s3, s4⟩ := sk_sp (σ 11) (σ 10 3) (σ 10 6)
  have s2 := s2 h4
  obtain ⟨a, ea⟩ : ∃ a, a = sk (σ 11) (σ 10 3) (σ 10 6) := ⟨_, rfl⟩
  have q1 : QD σ (up σ 10 6 a) := ⟨fr_up fr.rf (by simp [rgD]), by rw [up_same]; omega, by rw [up_same]; omega⟩
  have p1 := QD_P h q1
  refine ok_aload_n 0 rfl rfl rfl (ok_callVV (M' := M_Tp_skipBlanks) (as := []) 1 rfl rfl ml_X10_92 (t_Tp_skipBlanks h) rfl rfl (Nat.le_of_ble_eq_true rfl) ⟨Nat.le_of_ble_eq_true rfl, Nat.le_of_ble_eq_true rfl⟩ rfl (Nat.le_of_ble_eq_true rfl) (fun σ' hz => ?_))
  rw [hz]
  clear hz σ'
  rw [← ea]
  refine ok_aload_n 2 rfl rfl rfl (ok_aload_n 3 rfl rfl rfl (ok_getI 4 rfl rfl fl_X10_31 rfl rfl (Or.inl rfl) (ok_bipush 5 rfl rfl (by decide) (by decide) (ok_callVI (M' := M_Tp_isSign) (as := [_, _]) 6 rfl rfl ml_X10_62 (s_Tp_isSign ⟨p1.1, p1.2.1⟩ p1.2.2.1) rfl rfl (Nat.le_of_ble_eq_true rfl) ⟨Nat.le_of_ble_eq_true rfl, Nat.le_of_ble_eq_true rfl⟩ rfl (Nat.le_of_ble_eq_true rfl) (fun σ' z hz => ?_)))))
  obtain ⟨hs_, hz⟩ := hz
  rw [hs_]; clear hs_ σ'
  rw [up_same, up_nk _ _ _ _ (by decide : (3 : Int) ≠ 6), up_ne _ _ _ _ (by decide : (11 : Nat) ≠ 10)] at hz
  refine ok_if_ne 7 19 rfl rfl rfl (fun h14 => ?_) (fun h14 => ?_)
  · have n0 : ¬ dv0 σ := fun q => q (by rw [← ea]; omega)
    have al : a < σ 10 3 := by omega
    clear hz
    refine ok_aload_n 10 rfl rfl rfl (ok_dup 11 rfl rfl rfl (ok_getI 12 rfl rfl fl_X10_31 rfl rfl (Or.inl rfl) (ok_iconst 13 rfl rfl (by decide) (ok_iadd 14 rfl rfl (by first | omega | (simp [up_if]; omega) | (simp [up_if] at *; omega)) (ok_putI 15 rfl rfl fl_X10_31 rfl rfl rfl rfl ?_)))))
    rw [up_same, up2]
    have q2 : QD σ (up σ 10 6 (a + 1)) := ⟨fr_up fr.rf (by simp [rgD]), by rw [up_same]; omega, by rw [up_same]; omega⟩
    have p2 := QD_P h q2
    have eb : dvq σ = sk ((up σ 10 6 (a + 1)) 11) ((up σ 10 6 (a + 1)) 10 3) ((up σ 10 6 (a + 1)) 10 6) := by
      rw [up_same, up_nk _ _ _ _ (by decide : (3 : Int) ≠ 6), ea]; rfl
    obtain ⟨v1, v2, v3, v4⟩ := sk_sp (σ 11) (σ 10 3) (a + 1)
    have v2 := v2 (by omega)
    have eb2 : dvq σ = sk (σ 11) (σ 10 3) (a + 1) := by rw [ea]
    obtain ⟨b, ebb⟩ : ∃ b, b = dvq σ := ⟨_, rfl⟩
    rw [← eb2, ← ebb] at v1 v2
    have q4 : QD σ (up σ 10 6 b) := ⟨fr_up fr.rf (by simp [rgD]), by rw [up_same]; omega, by rw [up_same]; omega⟩
    have p4 := QD_P h q4
    have c3 : (up σ 10 6 b) 10 3 = σ 10 3 := up_nk _ _ _ _ (by decide)
    have c6 : (up σ 10 6 b) 10 6 = b := up_same _ _ _ _
    have c11 : (up σ 10 6 b) 11 = σ 11 := by funext k; exact up_ne _ _ _ _ (by decide)
    have hdvB : dvB σ ↔ (¬ (b < σ 10 3 ∧ 48 ≤ σ 11 b ∧ σ 11 b ≤ 57) ∨ 6 < de (σ 11) (σ 10 3) b - b) := by unfold dvB dve; rw [← ebb]
    have edve : dve σ = de (σ 11) (σ 10 3) b := by unfold dve; rw [← ebb]
    have dd := (de_sp (σ 11) (σ 10 3) b).2.1 (by omega)
    have dd0 := (de_sp (σ 11) (σ 10 3) b).1
    refine ok_aload_n 16 rfl rfl rfl (ok_callVV (M' := M_Tp_skipBlanks) (as := []) 17 rfl rfl ml_X10_92 (t_Tp_skipBlanks p2) rfl rfl (Nat.le_of_ble_eq_true rfl) ⟨Nat.le_of_ble_eq_true rfl, Nat.le_of_ble_eq_true rfl⟩ rfl (Nat.le_of_ble_eq_true rfl) (fun σ' hz => ?_))
    rw [hz]
    clear hz σ'
    rw [← eb, up2, ← ebb]
    refine ok_aload_n 18 rfl rfl rfl (ok_aload_n 19 rfl rfl rfl (ok_getI 20 rfl rfl fl_X10_31 rfl rfl (Or.inl rfl) (ok_callVI (M' := M_Tp_isDigit) (as := [_]) 21 rfl rfl ml_X10_69 (s_Tp_isDigit ⟨p4.1, p4.2.1⟩ p4.2.2.1) rfl rfl (Nat.le_of_ble_eq_true rfl) ⟨Nat.le_of_ble_eq_true rfl, Nat.le_of_ble_eq_true rfl⟩ rfl (Nat.le_of_ble_eq_true rfl) (fun σ' y hy => ?_))))
    obtain ⟨hs_, hy⟩ := hy
    rw [hs_]; clear hs_ σ'
    rw [c3, c6, c11] at hy
    refine ok_if_eq 22 53 rfl rfl rfl (fun h41 => ?_) (fun h41 => ?_)
    · refine ok_aload_n 27 rfl rfl rfl (ok_iconst 28 rfl rfl (by decide) (ok_aload_n 29 rfl rfl rfl (ok_getI 30 rfl rfl fl_X10_31 rfl rfl (Or.inl rfl) (ok_callVV (M' := M_Tp_fail) (as := [_, _]) 31 rfl rfl ml_X10_75 (s_Tp_fail) rfl rfl (Nat.le_of_ble_eq_true rfl) ⟨Nat.le_of_ble_eq_true rfl, Nat.le_of_ble_eq_true rfl⟩ rfl (Nat.le_of_ble_eq_true rfl) (fun σ' hz => ?_)))))
      rw [hz]
      clear hz σ'
      refine ok_iconst 32 rfl rfl (by decide) (ok_iret 33 rfl rfl rfl ?_)
      refine ⟨_, rfl, QD_tr q4 (QD_f p4 _ _), by omega, by omega, Or.inr (Or.inl ⟨n0, hdvB.mpr (by omega), rfl, by simp [up_if], by simp [up_if, ebb]⟩)⟩
    · refine ok_aload_n 23 rfl rfl rfl (ok_callVI (M' := M_Tp_countDigits) (as := []) 24 rfl rfl ml_X10_79 (t_Tp_countDigits p4) rfl rfl (Nat.le_of_ble_eq_true rfl) ⟨Nat.le_of_ble_eq_true rfl, Nat.le_of_ble_eq_true rfl⟩ rfl (Nat.le_of_ble_eq_true rfl) (fun σ' z hz => ?_))
      rw [hz.1, hz.2]
      clear hz z σ'
      rw [c3, c6, c11]
      refine ok_bipush 25 rfl rfl (by decide) (by decide) (ok_icmp_le 26 64 rfl rfl rfl (fun h50 => ?_) (fun h50 => ?_))
      · have nb : ¬ dvB σ := fun q => by have := hdvB.mp q; omega
        have h6 : de ((up σ 10 6 b) 11) ((up σ 10 6 b) 10 3) ((up σ 10 6 b) 10 6) - (up σ 10 6 b) 10 6 ≤ 6 := by rw [c3, c6, c11]; omega
        have vb := vaD_bd (B := σ 11) (L := σ 10 3) (p := b) (by omega)
        rw [← edve, ebb] at vb
        have q5 : QD σ (up σ 10 6 (dve σ)) := ⟨fr_up fr.rf (by simp [rgD]), by rw [up_same, edve]; omega, by rw [up_same, edve]; omega⟩
        have ee : de ((up σ 10 6 b) 11) ((up σ 10 6 b) 10 3) ((up σ 10 6 b) 10 6) = dve σ := by rw [c3, c6, c11, edve]
        refine ok_aload_n 34 rfl rfl rfl (ok_getI 35 rfl rfl fl_X10_31 rfl rfl (Or.inl rfl) (ok_ist1 36 rfl rfl rfl (ok_aload_n 37 rfl rfl rfl (ok_callVI (M' := M_Tp_readNumber) (as := []) 38 rfl rfl ml_X10_83 (t_Tp_readNumber p4 h6) rfl rfl (Nat.le_of_ble_eq_true rfl) ⟨Nat.le_of_ble_eq_true rfl, Nat.le_of_ble_eq_true rfl⟩ rfl (Nat.le_of_ble_eq_true rfl) (fun σ' z hz => ?_)))))
        rw [hz.1, hz.2]
        clear hz z σ'
        rw [ee, up2, c6, c11, ebb]
        refine ok_ist2 39 rfl rfl rfl (ok_iload_n 40 rfl rfl rfl (ok_if_ne 41 86 rfl rfl rfl (fun h75 => ?_) (fun h75 => ?_)))
        · refine ok_iload_n 48 rfl rfl rfl (ok_iret 49 rfl rfl rfl ?_)
          exact ⟨_, rfl, q5, by omega, by omega, Or.inr (Or.inr (Or.inr ⟨n0, nb, by omega, rfl, rfl⟩))⟩
        · refine ok_aload_n 42 rfl rfl rfl (ok_iconst 43 rfl rfl (by decide) (ok_iload_n 44 rfl rfl rfl (ok_callVV (M' := M_Tp_fail) (as := [_, _]) 45 rfl rfl ml_X10_75 (s_Tp_fail) rfl rfl (Nat.le_of_ble_eq_true rfl) ⟨Nat.le_of_ble_eq_true rfl, Nat.le_of_ble_eq_true rfl⟩ rfl (Nat.le_of_ble_eq_true rfl) (fun σ' hz => ?_))))
          rw [hz]
          clear hz σ'
          refine ok_iconst 46 rfl rfl (by decide) (ok_iret 47 rfl rfl rfl ?_)
          exact ⟨_, rfl, QD_tr q5 (QD_f (QD_P h q5) _ _), by omega, by omega, Or.inr (Or.inr (Or.inl ⟨n0, nb, by omega, rfl, by simp [up_if], by simp [up_if]⟩))⟩
      · refine ok_aload_n 27 rfl rfl rfl (ok_iconst 28 rfl rfl (by decide) (ok_aload_n 29 rfl rfl rfl (ok_getI 30 rfl rfl fl_X10_31 rfl rfl (Or.inl rfl) (ok_callVV (M' := M_Tp_fail) (as := [_, _]) 31 rfl rfl ml_X10_75 (s_Tp_fail) rfl rfl (Nat.le_of_ble_eq_true rfl) ⟨Nat.le_of_ble_eq_true rfl, Nat.le_of_ble_eq_true rfl⟩ rfl (Nat.le_of_ble_eq_true rfl) (fun σ' hz => ?_)))))
        rw [hz]
        clear hz σ'
        refine ok_iconst 32 rfl rfl (by decide) (ok_iret 33 rfl rfl rfl ?_)
        refine ⟨_, rfl, QD_tr q4 (QD_f p4 _ _), by omega, by omega, Or.inr (Or.inl ⟨n0, hdvB.mpr (by omega), rfl, by simp [up_if], by simp [up_if, ebb]⟩)⟩
  · refine ok_iconst 8 rfl rfl (by decide) (ok_iret 9 rfl rfl rfl ?_)
    exact ⟨_, rfl, q1, by omega, by omega, Or.inl ⟨by unfold dv0; rw [← ea]; omega, rfl, by rw [← ea]⟩⟩
theorem t_Tp_keepFraction {σ : eS} {a u : Int} (hr : 0 ≤ σ 10 7 ∧ σ 10 7 ≤ 7) (hf : 0 ≤ σ 10 8 ∧ σ 10 8 ≤ 7) (ha : 0 ≤ a ∧ a ≤ 999999) (hu : 1 ≤ u ∧ u ≤ 999999) : MtV shA M_Tp_keepFraction [vr 10, vi a, vi u] σ (fun σ' => σ' = up (up (up σ 12 (σ 10 7 * 8 + σ 10 8) (a / (Int.gcd u a : Int))) 13 (σ 10 7 * 8 + σ 10 8) (u / (Int.gcd u a : Int))) 10 8 (σ 10 8 + 1)) := by
  refine Mt.of okM_Tp_keepFraction (Nat.le_of_ble_eq_true rfl) (fun hk hg => ?_)
  obtain ⟨g1, g2⟩ := gcd_pos (a := u) (b := a) (by omega)
  obtain ⟨g, eg⟩ : ∃ g : Int, g = (Int.gcd u a : Int) := ⟨_, rfl⟩
  rw [← eg] at g1 g2
  have d1 := div_bd (u := a) (g := g) (B := 999999) ⟨by omega, by omega⟩ g1
  have d2 := gcd_div (u := u) (g := g) hu.1 g1 g2
  refine ok_iload_n 0 rfl rfl rfl (ok_i2l 1 rfl rfl (ok_iload_n 2 rfl rfl rfl (ok_i2l 3 rfl rfl (ok_callSL (M' := M_Nu_greatestDivisor) (as := [_, _]) 4 rfl rfl ml_X10_95 (s_Nu_greatestDivisor (by omega) ⟨by omega, by omega⟩) ⟨Nat.le_of_ble_eq_true rfl, Nat.le_of_ble_eq_true rfl⟩ rfl (Nat.le_of_ble_eq_true rfl) (fun σ' z hz => ?_)))))
  rw [hz.1, hz.2]
  clear hz z σ'
  rw [← eg]
  refine ok_l2i 5 rfl rfl (by first | omega | (simp [up_if]; omega) | (simp [up_if] at *; omega)) (ok_ist3 6 rfl rfl rfl (ok_aload_n 7 rfl rfl rfl (ok_getI 8 rfl rfl fl_X10_34 rfl rfl (Or.inl rfl) (ok_bipush 9 rfl rfl (by decide) (by decide) (ok_imul 10 rfl rfl (by first | omega | (simp [up_if]; omega) | (simp [up_if] at *; omega)) (ok_aload_n 11 rfl rfl rfl (ok_getI 12 rfl rfl fl_X10_37 rfl rfl (Or.inl rfl) (ok_iadd 13 rfl rfl (by first | omega | (simp [up_if]; omega) | (simp [up_if] at *; omega)) (ok_ist4 14 rfl rfl rfl (ok_aload_n 15 rfl rfl rfl (ok_getR 16 rfl rfl fl_X10_15 rfl rfl (ok_iload 17 rfl rfl rfl (ok_iload_n 18 rfl rfl rfl (ok_iload_n 19 rfl rfl rfl (ok_idiv 20 rfl rfl (by first | omega | (simp [up_if]; omega) | (simp [up_if] at *; omega)) (by first | omega | (simp [up_if]; omega) | (simp [up_if] at *; omega)) (ok_iast 21 rfl rfl rfl (by first | omega | (simp [up_if]; omega) | (simp [up_if] at *; omega)) (ok_aload_n 22 rfl rfl rfl (ok_getR 23 rfl rfl fl_X10_18 rfl rfl (ok_iload 24 rfl rfl rfl (ok_iload_n 25 rfl rfl rfl (ok_iload_n 26 rfl rfl rfl (ok_idiv 27 rfl rfl (by first | omega | (simp [up_if]; omega) | (simp [up_if] at *; omega)) (by first | omega | (simp [up_if]; omega) | (simp [up_if] at *; omega)) (ok_iast 28 rfl rfl rfl (by first | omega | (simp [up_if]; omega) | (simp [up_if] at *; omega)) (ok_aload_n 29 rfl rfl rfl (ok_dup 30 rfl rfl rfl (ok_getI 31 rfl rfl fl_X10_37 rfl rfl (Or.inl rfl) (ok_iconst 32 rfl rfl (by decide) (ok_iadd 33 rfl rfl (by first | omega | (simp [up_if]; omega) | (simp [up_if] at *; omega)) (ok_putI 34 rfl rfl fl_X10_37 rfl rfl rfl rfl (ok_vret 35 rfl rfl rfl ?_))))))))))))))))))))))))))))))
  exact ⟨rfl, by show up _ _ _ _ = up _ _ _ _; rw [up_ne _ _ _ _ (show (10 : Nat) ≠ 13 by decide), up_ne _ _ _ _ (show (10 : Nat) ≠ 12 by decide)]⟩
