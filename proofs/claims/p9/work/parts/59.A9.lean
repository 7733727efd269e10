abbrev rgD : Nat → Int → Prop := fun c k => c = 10 ∧ (k = 4 ∨ k = 5 ∨ k = 6)
def QD (σ σ' : eS) : Prop := fr rgD σ σ' ∧ σ 10 6 ≤ σ' 10 6 ∧ σ' 10 6 ≤ σ 10 3
theorem QD_6 {σ σ' : eS} (f : fr (fun c k => c = 10 ∧ k = 6) σ σ') (h : σ 10 6 ≤ σ' 10 6 ∧ σ' 10 6 ≤ σ 10 3) : QD σ σ' := ⟨f.mono (fun c k q => by simp only [rgD]; omega), h.1, h.2⟩
theorem QD_tr {σ τ υ : eS} (h : QD σ τ) (g : QD τ υ) : QD σ υ := ⟨h.1.tr g.1, Int.le_trans h.2.1 g.2.1, by have := h.1 10 3 (by simp [rgD]); have := g.2.2; omega⟩
theorem QD_P {σ τ : eS} (hp : tP σ) (h : QD σ τ) : tP τ := by
  have := h.1 10 3 (by simp [rgD])
  obtain ⟨a, b, c, d⟩ := hp
  exact ⟨by omega, by omega, by have := h.2.1; omega, by have := h.2.2; omega⟩
theorem QD_f {σ : eS} (hp : tP σ) (a b : Int) : QD σ (up (up σ 10 4 a) 10 5 b) := ⟨fr_up (fr_up fr.rf (by simp [rgD])) (by simp [rgD]), by simp [up_if], by simp [up_if]; exact hp.2.2.2⟩
theorem s_Tp_readDivisor {σ : eS} (h : tP σ) : MtI shA M_Tp_readDivisor [vr 10] σ (fun σ' z => QD σ σ' ∧ 1 ≤ z ∧ z ≤ 999999) := by
  refine Mt.of okM_Tp_readDivisor (Nat.le_of_ble_eq_true rfl) (fun hk hg => ?_)
  refine ok_aload_n 0 rfl rfl rfl (ok_callVV (M' := M_Tp_skipBlanks) (as := []) 1 rfl rfl ml_X10_92 (s_Tp_skipBlanks h) rfl rfl (Nat.le_of_ble_eq_true rfl) ⟨Nat.le_of_ble_eq_true rfl, Nat.le_of_ble_eq_true rfl⟩ rfl (Nat.le_of_ble_eq_true rfl) (fun τ hz => ?_))
  have q1 : QD σ τ := QD_6 hz.1 hz.2
  have p1 := QD_P h q1
  obtain ⟨b1, b2, b3, b4⟩ := id p1
  clear hz
  refine ok_aload_n 2 rfl rfl rfl (ok_aload_n 3 rfl rfl rfl (ok_getI 4 rfl rfl fl_X10_31 rfl rfl (Or.inl rfl) (ok_bipush 5 rfl rfl (by decide) (by decide) (ok_callVI (M' := M_Tp_isSign) (as := [_, _]) 6 rfl rfl ml_X10_62 (s_Tp_isSign ⟨b1, b2⟩ b3) rfl rfl (Nat.le_of_ble_eq_true rfl) ⟨Nat.le_of_ble_eq_true rfl, Nat.le_of_ble_eq_true rfl⟩ rfl (Nat.le_of_ble_eq_true rfl) (fun σ' z hz => ?_)))))
  obtain ⟨hs_, hz⟩ := hz
  rw [hs_]; clear hs_ σ'
  refine ok_if_ne 7 19 rfl rfl rfl (fun h14 => ?_) (fun h14 => ?_)
  · refine ok_aload_n 10 rfl rfl rfl (ok_dup 11 rfl rfl rfl (ok_getI 12 rfl rfl fl_X10_31 rfl rfl (Or.inl rfl) (ok_iconst 13 rfl rfl (by decide) (ok_iadd 14 rfl rfl (by first | omega | (simp [up_if]; omega) | (simp [up_if] at *; omega)) (ok_putI 15 rfl rfl fl_X10_31 rfl rfl rfl rfl ?_)))))
    have q2 : QD τ (up τ 10 6 (τ 10 6 + 1)) := ⟨fr_up fr.rf (by simp [rgD]), by rw [up_same]; omega, by rw [up_same]; omega⟩
    have p2 := QD_P p1 q2
    have q3 := QD_tr q1 q2
    refine ok_aload_n 16 rfl rfl rfl (ok_callVV (M' := M_Tp_skipBlanks) (as := []) 17 rfl rfl ml_X10_92 (s_Tp_skipBlanks p2) rfl rfl (Nat.le_of_ble_eq_true rfl) ⟨Nat.le_of_ble_eq_true rfl, Nat.le_of_ble_eq_true rfl⟩ rfl (Nat.le_of_ble_eq_true rfl) (fun υ hy => ?_))
    have q4 : QD σ υ := QD_tr q3 (QD_6 hy.1 hy.2)
    have p4 := QD_P h q4
    obtain ⟨c1, c2, c3, c4⟩ := id p4
    clear hy
    refine ok_aload_n 18 rfl rfl rfl (ok_aload_n 19 rfl rfl rfl (ok_getI 20 rfl rfl fl_X10_31 rfl rfl (Or.inl rfl) (ok_callVI (M' := M_Tp_isDigit) (as := [_]) 21 rfl rfl ml_X10_69 (s_Tp_isDigit ⟨c1, c2⟩ c3) rfl rfl (Nat.le_of_ble_eq_true rfl) ⟨Nat.le_of_ble_eq_true rfl, Nat.le_of_ble_eq_true rfl⟩ rfl (Nat.le_of_ble_eq_true rfl) (fun σ' y hy => ?_))))
    obtain ⟨hs_, hy⟩ := hy
    rw [hs_]; clear hs_ σ'
    refine ok_if_eq 22 53 rfl rfl rfl (fun h41 => ?_) (fun h41 => ?_)
    · refine ok_aload_n 27 rfl rfl rfl (ok_iconst 28 rfl rfl (by decide) (ok_aload_n 29 rfl rfl rfl (ok_getI 30 rfl rfl fl_X10_31 rfl rfl (Or.inl rfl) (ok_callVV (M' := M_Tp_fail) (as := [_, _]) 31 rfl rfl ml_X10_75 (s_Tp_fail) rfl rfl (Nat.le_of_ble_eq_true rfl) ⟨Nat.le_of_ble_eq_true rfl, Nat.le_of_ble_eq_true rfl⟩ rfl (Nat.le_of_ble_eq_true rfl) (fun σ' hz => ?_)))))
      rw [hz]
      clear hz σ'
      refine ok_iconst 32 rfl rfl (by decide) (ok_iret 33 rfl rfl rfl ?_)
      exact ⟨_, rfl, QD_tr q4 (QD_f p4 _ _), by omega, by omega⟩
    · refine ok_aload_n 23 rfl rfl rfl (ok_callVI (M' := M_Tp_countDigits) (as := []) 24 rfl rfl ml_X10_79 (s_Tp_countDigits p4) rfl rfl (Nat.le_of_ble_eq_true rfl) ⟨Nat.le_of_ble_eq_true rfl, Nat.le_of_ble_eq_true rfl⟩ rfl (Nat.le_of_ble_eq_true rfl) (fun σ' x hx => ?_))
      obtain ⟨hs_, hx⟩ := hx
      rw [hs_]; clear hs_ σ'
      refine ok_bipush 25 rfl rfl (by decide) (by decide) (ok_icmp_le 26 64 rfl rfl rfl (fun h50 => ?_) (fun h50 => ?_))
      · refine ok_aload_n 34 rfl rfl rfl (ok_getI 35 rfl rfl fl_X10_31 rfl rfl (Or.inl rfl) (ok_ist1 36 rfl rfl rfl (ok_aload_n 37 rfl rfl rfl (ok_callVI (M' := M_Tp_readNumber) (as := []) 38 rfl rfl ml_X10_83 (s_Tp_readNumber p4) rfl rfl (Nat.le_of_ble_eq_true rfl) ⟨Nat.le_of_ble_eq_true rfl, Nat.le_of_ble_eq_true rfl⟩ rfl (Nat.le_of_ble_eq_true rfl) (fun ω w hw => ?_)))))
        have q5 := QD_tr q4 (QD_6 hw.1 ⟨hw.2.1, hw.2.2.1⟩)
        have hw2 := hw.2.2.2
        refine ok_ist2 39 rfl rfl rfl (ok_iload_n 40 rfl rfl rfl (ok_if_ne 41 86 rfl rfl rfl (fun h75 => ?_) (fun h75 => ?_)))
        · refine ok_iload_n 48 rfl rfl rfl (ok_iret 49 rfl rfl rfl ?_)
          exact ⟨_, rfl, q5, by omega, by omega⟩
        · refine ok_aload_n 42 rfl rfl rfl (ok_iconst 43 rfl rfl (by decide) (ok_iload_n 44 rfl rfl rfl (ok_callVV (M' := M_Tp_fail) (as := [_, _]) 45 rfl rfl ml_X10_75 (s_Tp_fail) rfl rfl (Nat.le_of_ble_eq_true rfl) ⟨Nat.le_of_ble_eq_true rfl, Nat.le_of_ble_eq_true rfl⟩ rfl (Nat.le_of_ble_eq_true rfl) (fun σ' hz => ?_))))
          rw [hz]
          clear hz σ'
          refine ok_iconst 46 rfl rfl (by decide) (ok_iret 47 rfl rfl rfl ?_)
          exact ⟨_, rfl, QD_tr q5 (QD_f (QD_P h q5) _ _), by omega, by omega⟩
      · refine ok_aload_n 27 rfl rfl rfl (ok_iconst 28 rfl rfl (by decide) (ok_aload_n 29 rfl rfl rfl (ok_getI 30 rfl rfl fl_X10_31 rfl rfl (Or.inl rfl) (ok_callVV (M' := M_Tp_fail) (as := [_, _]) 31 rfl rfl ml_X10_75 (s_Tp_fail) rfl rfl (Nat.le_of_ble_eq_true rfl) ⟨Nat.le_of_ble_eq_true rfl, Nat.le_of_ble_eq_true rfl⟩ rfl (Nat.le_of_ble_eq_true rfl) (fun σ' hz => ?_)))))
        rw [hz]
        clear hz σ'
        refine ok_iconst 32 rfl rfl (by decide) (ok_iret 33 rfl rfl rfl ?_)
        exact ⟨_, rfl, QD_tr q4 (QD_f p4 _ _), by omega, by omega⟩
  · refine ok_iconst 8 rfl rfl (by decide) (ok_iret 9 rfl rfl rfl ?_)
    exact ⟨_, rfl, q1, by omega, by omega⟩
