def RA (σ : eS) : Prop := tP σ ∧ 0 ≤ σ 10 7 ∧ σ 10 7 ≤ 8 ∧ 0 ≤ σ 10 8 ∧ σ 10 8 ≤ 8 ∧ 0 ≤ σ 10 9 ∧ σ 10 9 ≤ 8 ∧ (∀ i j, 0 ≤ i → i < σ 10 7 → 0 ≤ j → j < σ 10 9 → uA σ (i * 8 + j)) ∧ (∀ j, σ 10 7 ≤ 7 → 0 ≤ j → j < σ 10 8 → uA σ (σ 10 7 * 8 + j)) ∧ (0 < σ 10 7 → σ 10 8 ≤ σ 10 9)
theorem RA_D {σ τ : eS} (h : RA σ) (q : QD σ τ) : RA τ := by
  obtain ⟨h0, h1, h2, h3, h4, h5, h6, h7, h8, h9⟩ := h
  have e7 : τ 10 7 = σ 10 7 := q.1 10 7 (by simp [rgD])
  have e8 : τ 10 8 = σ 10 8 := q.1 10 8 (by simp [rgD])
  have e9 : τ 10 9 = σ 10 9 := q.1 10 9 (by simp [rgD])
  have eu : ∀ k, uA τ k ↔ uA σ k := fun k => by unfold uA; rw [q.1 12 k (by simp [rgD]), q.1 13 k (by simp [rgD])]
  refine ⟨QD_P h0 q, ?_⟩
  rw [e7, e8, e9]
  exact ⟨h1, h2, h3, h4, h5, h6, fun i j a b c d => (eu _).mpr (h7 i j a b c d), fun j a b c => (eu _).mpr (h8 j a b c), h9⟩
abbrev rgJ : Nat → Int → Prop := fun c k => (c = 10 ∧ 4 ≤ k ∧ k ≤ 9) ∨ c = 12 ∨ c = 13
def QJ (σ σ' : eS) : Prop := fr rgJ σ σ' ∧ RA σ'
theorem QJ_D {σ τ : eS} (h : RA σ) (q : QD σ τ) : QJ σ τ := ⟨q.1.mono (fun c k w => by simp only [rgD, rgJ] at w ⊢; omega), RA_D h q⟩
theorem s_Tp_readFraction {σ : eS} (h : RA σ) : MtV shA M_Tp_readFraction [vr 10] σ (fun σ' => QJ σ σ') := by
  refine Mt.of okM_Tp_readFraction (Nat.le_of_ble_eq_true rfl) (fun hk hg => ?_)
  have h0 := h.1
  refine ok_aload_n 0 rfl rfl rfl (ok_callVI (M' := M_Tp_countDigits) (as := []) 1 rfl rfl ml_X10_79 (s_Tp_countDigits h0) rfl rfl (Nat.le_of_ble_eq_true rfl) ⟨Nat.le_of_ble_eq_true rfl, Nat.le_of_ble_eq_true rfl⟩ rfl (Nat.le_of_ble_eq_true rfl) (fun σ' z hz => ?_))
  obtain ⟨hs_, hz⟩ := hz
  rw [hs_]; clear hs_ σ'
  refine ok_bipush 2 rfl rfl (by decide) (by decide) (ok_icmp_le 3 21 rfl rfl rfl (fun h6 => ?_) (fun h6 => ?_))
  · refine ok_aload_n 10 rfl rfl rfl (ok_getI 11 rfl rfl fl_X10_34 rfl rfl (Or.inl rfl) (ok_bipush 12 rfl rfl (by decide) (by decide) (ok_icmp_eq 13 39 rfl rfl rfl (fun h27 => ?_) (fun h27 => ?_))))
    · refine ok_aload_n 18 rfl rfl rfl (ok_iconst 19 rfl rfl (by decide) (ok_aload_n 20 rfl rfl rfl (ok_getI 21 rfl rfl fl_X10_31 rfl rfl (Or.inl rfl) (ok_callVV (M' := M_Tp_fail) (as := [_, _]) 22 rfl rfl ml_X10_75 (s_Tp_fail) rfl rfl (Nat.le_of_ble_eq_true rfl) ⟨Nat.le_of_ble_eq_true rfl, Nat.le_of_ble_eq_true rfl⟩ rfl (Nat.le_of_ble_eq_true rfl) (fun σ' hz => ?_)))))
      rw [hz]
      clear hz σ'
      refine ok_goto 23 95 rfl rfl rfl (ok_vret 46 rfl rfl rfl ?_)
      exact ⟨rfl, QJ_D h (QD_f h0 _ _)⟩
    · refine ok_aload_n 14 rfl rfl rfl (ok_getI 15 rfl rfl fl_X10_37 rfl rfl (Or.inl rfl) (ok_bipush 16 rfl rfl (by decide) (by decide) (ok_icmp_ne 17 51 rfl rfl rfl (fun h36 => ?_) (fun h36 => ?_))))
      · refine ok_aload_n 24 rfl rfl rfl (ok_getI 25 rfl rfl fl_X10_34 rfl rfl (Or.inl rfl) (ok_if_le 26 81 rfl rfl rfl (fun h55 => ?_) (fun h55 => ?_)))
        · obtain ⟨-, h1, h2, h3, h4, h5, h6, h7, h8, h9⟩ := id h
          have r7 : σ 10 7 ≤ 7 := by omega
          have f7 : σ 10 8 ≤ 7 := by omega
          have fw : 0 < σ 10 7 → σ 10 8 < σ 10 9 := fun q => by have := h9 q; omega
          refine ok_aload_n 38 rfl rfl rfl (ok_callVI (M' := M_Tp_readNumber) (as := []) 39 rfl rfl ml_X10_83 (s_Tp_readNumber h0) rfl rfl (Nat.le_of_ble_eq_true rfl) ⟨Nat.le_of_ble_eq_true rfl, Nat.le_of_ble_eq_true rfl⟩ rfl (Nat.le_of_ble_eq_true rfl) (fun τ w hw => ?_))
          have q1 := QD_6 hw.1 ⟨hw.2.1, hw.2.2.1⟩
          have hw2 := hw.2.2.2
          refine ok_ist1 40 rfl rfl rfl (ok_aload_n 41 rfl rfl rfl (ok_iload_n 42 rfl rfl rfl (ok_aload_n 43 rfl rfl rfl (ok_callVI (M' := M_Tp_readDivisor) (as := []) 44 rfl rfl ml_X10_86 (s_Tp_readDivisor (QD_P h0 q1)) rfl rfl (Nat.le_of_ble_eq_true rfl) ⟨Nat.le_of_ble_eq_true rfl, Nat.le_of_ble_eq_true rfl⟩ rfl (Nat.le_of_ble_eq_true rfl) (fun υ y hy => ?_)))))
          have q2 := QD_tr q1 hy.1
          have hy2 := hy.2
          have ra := RA_D h q2
          have e7 : υ 10 7 = σ 10 7 := q2.1 10 7 (by simp [rgD])
          have e8 : υ 10 8 = σ 10 8 := q2.1 10 8 (by simp [rgD])
          have e9 : υ 10 9 = σ 10 9 := q2.1 10 9 (by simp [rgD])
          refine ok_callVV (M' := M_Tp_keepFraction) (as := [_, _]) 45 rfl rfl ml_X10_89 (s_Tp_keepFraction ⟨by omega, by omega⟩ ⟨by omega, by omega⟩ hw2 hy2) rfl rfl (Nat.le_of_ble_eq_true rfl) ⟨Nat.le_of_ble_eq_true rfl, Nat.le_of_ble_eq_true rfl⟩ rfl (Nat.le_of_ble_eq_true rfl) (fun ω hω => ?_)
          refine ok_vret 46 rfl rfl rfl ?_
          obtain ⟨k1, k2, k3, k4⟩ := hω
          have x7 : ω 10 7 = σ 10 7 := by rw [k1 10 7 (by simp [rgE]), e7]
          have x9 : ω 10 9 = σ 10 9 := by rw [k1 10 9 (by simp [rgE]), e9]
          have x3 : ω 10 3 = υ 10 3 := k1 10 3 (by simp [rgE])
          have x6 : ω 10 6 = υ 10 6 := k1 10 6 (by simp [rgE])
          obtain ⟨t0, t1, t2, t3, t4, t5, t6, t7, t8, t9⟩ := ra
          have eu : ∀ k, uA υ k → uA ω k := fun k hk => by
            by_cases q : k = υ 10 7 * 8 + υ 10 8
            · rw [q]; exact k3
            · unfold uA; rw [(k4 k q).1, (k4 k q).2]; exact hk
          refine ⟨rfl, ((q2.1.mono (fun c k w => by simp only [rgD, rgJ] at w ⊢; omega)).tr (k1.mono (fun c k w => by simp only [rgE, rgJ] at w ⊢; omega))), ⟨by rw [x3]; exact t0.1, by rw [x3]; exact t0.2.1, by rw [x6]; exact t0.2.2.1, by rw [x6, x3]; exact t0.2.2.2⟩, by omega, by omega, by omega, by omega, by omega, by omega, fun i j a b c d => eu _ (t7 i j a (by omega) c (by omega)), fun j a b c => ?_, fun q => by have := fw (by omega); omega⟩
          rw [x7, ← e7]
          by_cases q : j = υ 10 8
          · rw [q]; exact k3
          · exact eu _ (t8 j (by omega) b (by omega))
        · refine ok_aload_n 27 rfl rfl rfl (ok_getI 28 rfl rfl fl_X10_37 rfl rfl (Or.inl rfl) (ok_aload_n 29 rfl rfl rfl (ok_getI 30 rfl rfl fl_X10_40 rfl rfl (Or.inl rfl) (ok_icmp_ne 31 81 rfl rfl rfl (fun h66 => ?_) (fun h66 => ?_)))))
          · obtain ⟨-, h1, h2, h3, h4, h5, h6, h7, h8, h9⟩ := id h
            have r7 : σ 10 7 ≤ 7 := by omega
            have f7 : σ 10 8 ≤ 7 := by omega
            have fw : 0 < σ 10 7 → σ 10 8 < σ 10 9 := fun q => by have := h9 q; omega
            refine ok_aload_n 38 rfl rfl rfl (ok_callVI (M' := M_Tp_readNumber) (as := []) 39 rfl rfl ml_X10_83 (s_Tp_readNumber h0) rfl rfl (Nat.le_of_ble_eq_true rfl) ⟨Nat.le_of_ble_eq_true rfl, Nat.le_of_ble_eq_true rfl⟩ rfl (Nat.le_of_ble_eq_true rfl) (fun τ w hw => ?_))
            have q1 := QD_6 hw.1 ⟨hw.2.1, hw.2.2.1⟩
            have hw2 := hw.2.2.2
            refine ok_ist1 40 rfl rfl rfl (ok_aload_n 41 rfl rfl rfl (ok_iload_n 42 rfl rfl rfl (ok_aload_n 43 rfl rfl rfl (ok_callVI (M' := M_Tp_readDivisor) (as := []) 44 rfl rfl ml_X10_86 (s_Tp_readDivisor (QD_P h0 q1)) rfl rfl (Nat.le_of_ble_eq_true rfl) ⟨Nat.le_of_ble_eq_true rfl, Nat.le_of_ble_eq_true rfl⟩ rfl (Nat.le_of_ble_eq_true rfl) (fun υ y hy => ?_)))))
            have q2 := QD_tr q1 hy.1
            have hy2 := hy.2
            have ra := RA_D h q2
            have e7 : υ 10 7 = σ 10 7 := q2.1 10 7 (by simp [rgD])
            have e8 : υ 10 8 = σ 10 8 := q2.1 10 8 (by simp [rgD])
            have e9 : υ 10 9 = σ 10 9 := q2.1 10 9 (by simp [rgD])
            refine ok_callVV (M' := M_Tp_keepFraction) (as := [_, _]) 45 rfl rfl ml_X10_89 (s_Tp_keepFraction ⟨by omega, by omega⟩ ⟨by omega, by omega⟩ hw2 hy2) rfl rfl (Nat.le_of_ble_eq_true rfl) ⟨Nat.le_of_ble_eq_true rfl, Nat.le_of_ble_eq_true rfl⟩ rfl (Nat.le_of_ble_eq_true rfl) (fun ω hω => ?_)
            refine ok_vret 46 rfl rfl rfl ?_
            obtain ⟨k1, k2, k3, k4⟩ := hω
            have x7 : ω 10 7 = σ 10 7 := by rw [k1 10 7 (by simp [rgE]), e7]
            have x9 : ω 10 9 = σ 10 9 := by rw [k1 10 9 (by simp [rgE]), e9]
            have x3 : ω 10 3 = υ 10 3 := k1 10 3 (by simp [rgE])
            have x6 : ω 10 6 = υ 10 6 := k1 10 6 (by simp [rgE])
            obtain ⟨t0, t1, t2, t3, t4, t5, t6, t7, t8, t9⟩ := ra
            have eu : ∀ k, uA υ k → uA ω k := fun k hk => by
              by_cases q : k = υ 10 7 * 8 + υ 10 8
              · rw [q]; exact k3
              · unfold uA; rw [(k4 k q).1, (k4 k q).2]; exact hk
            refine ⟨rfl, ((q2.1.mono (fun c k w => by simp only [rgD, rgJ] at w ⊢; omega)).tr (k1.mono (fun c k w => by simp only [rgE, rgJ] at w ⊢; omega))), ⟨by rw [x3]; exact t0.1, by rw [x3]; exact t0.2.1, by rw [x6]; exact t0.2.2.1, by rw [x6, x3]; exact t0.2.2.2⟩, by omega, by omega, by omega, by omega, by omega, by omega, fun i j a b c d => eu _ (t7 i j a (by omega) c (by omega)), fun j a b c => ?_, fun q => by have := fw (by omega); omega⟩
            rw [x7, ← e7]
            by_cases q : j = υ 10 8
            · rw [q]; exact k3
            · exact eu _ (t8 j (by omega) b (by omega))
          · refine ok_aload_n 32 rfl rfl rfl (ok_iconst 33 rfl rfl (by decide) (ok_aload_n 34 rfl rfl rfl (ok_getI 35 rfl rfl fl_X10_31 rfl rfl (Or.inl rfl) (ok_callVV (M' := M_Tp_fail) (as := [_, _]) 36 rfl rfl ml_X10_75 (s_Tp_fail) rfl rfl (Nat.le_of_ble_eq_true rfl) ⟨Nat.le_of_ble_eq_true rfl, Nat.le_of_ble_eq_true rfl⟩ rfl (Nat.le_of_ble_eq_true rfl) (fun σ' hz => ?_)))))
            rw [hz]
            clear hz σ'
            refine ok_goto 37 95 rfl rfl rfl (ok_vret 46 rfl rfl rfl ?_)
            exact ⟨rfl, QJ_D h (QD_f h0 _ _)⟩
      · refine ok_aload_n 18 rfl rfl rfl (ok_iconst 19 rfl rfl (by decide) (ok_aload_n 20 rfl rfl rfl (ok_getI 21 rfl rfl fl_X10_31 rfl rfl (Or.inl rfl) (ok_callVV (M' := M_Tp_fail) (as := [_, _]) 22 rfl rfl ml_X10_75 (s_Tp_fail) rfl rfl (Nat.le_of_ble_eq_true rfl) ⟨Nat.le_of_ble_eq_true rfl, Nat.le_of_ble_eq_true rfl⟩ rfl (Nat.le_of_ble_eq_true rfl) (fun σ' hz => ?_)))))
        rw [hz]
        clear hz σ'
        refine ok_goto 23 95 rfl rfl rfl (ok_vret 46 rfl rfl rfl ?_)
        exact ⟨rfl, QJ_D h (QD_f h0 _ _)⟩
  · refine ok_aload_n 4 rfl rfl rfl (ok_iconst 5 rfl rfl (by decide) (ok_aload_n 6 rfl rfl rfl (ok_getI 7 rfl rfl fl_X10_31 rfl rfl (Or.inl rfl) (ok_callVV (M' := M_Tp_fail) (as := [_, _]) 8 rfl rfl ml_X10_75 (s_Tp_fail) rfl rfl (Nat.le_of_ble_eq_true rfl) ⟨Nat.le_of_ble_eq_true rfl, Nat.le_of_ble_eq_true rfl⟩ rfl (Nat.le_of_ble_eq_true rfl) (fun σ' hz => ?_)))))
    rw [hz]
    clear hz σ'
    refine ok_goto 9 95 rfl rfl rfl (ok_vret 46 rfl rfl rfl ?_)
    exact ⟨rfl, QJ_D h (QD_f h0 _ _)⟩
