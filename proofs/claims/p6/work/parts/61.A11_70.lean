section
def RA (σ : eS) : Prop := tP σ ∧ 0 ≤ σ 10 7 ∧ σ 10 7 ≤ 8 ∧ 0 ≤ σ 10 8 ∧ σ 10 8 ≤ 8 ∧ 0 ≤ σ 10 9 ∧ σ 10 9 ≤ 8 ∧ (∀ i j, 0 ≤ i → i < σ 10 7 → 0 ≤ j → j < σ 10 9 → uA σ (i * 8 + j)) ∧ (∀ j, σ 10 7 ≤ 7 → 0 ≤ j → j < σ 10 8 → uA σ (σ 10 7 * 8 + j)) ∧ (0 < σ 10 7 → σ 10 8 ≤ σ 10 9)
theorem RA_D {σ τ : eS} (h : RA σ) (q : QD σ τ) : RA τ := by
  obtain ⟨h0, h1, h2, h3, h4, h5, h6, h7, h8, h9⟩ := h
  have e7 : τ 10 7 = σ 10 7 := q.1 10 7 (by simp [rgD])
  have e8 : τ 10 8 = σ 10 8 := q.1 10 8 (by simp [rgD])
  have e9 : τ 10 9 = σ 10 9 := q.1 10 9 (by simp [rgD])
  have eu : ∀ k, uA τ k ↔ uA σ k := fun k => by unfold uA; rw [q.1 12 k (by simp [rgD]), q.1 13 k (by simp [rgD])]
  refine ⟨QD_P h0 q, ?_⟩
  rw [e7, e8, e9]
  exact ⟨h1, h2, h3, h4, h5, h6, fun i j a b c d => (eu _).mpr (h7 i j a b c d), fun j a b c => (eu _).mpr (h8 j a b c), h9⟩
abbrev rgJ : Nat → Int → Prop := fun c k => (c = 10 ∧ 4 ≤ k ∧ k ≤ 9) ∨ c = 12 ∨ c = 13
def QJ (σ σ' : eS) : Prop := fr rgJ σ σ' ∧ RA σ'
theorem QJ_D {σ τ : eS} (h : RA σ) (q : QD σ τ) : QJ σ τ := ⟨q.1.mono (fun c k w => by simp only [rgD, rgJ] at w ⊢; omega), RA_D h q⟩
theorem s_Tp_readFraction {σ : eS} (h : RA σ) : MtV shA M_Tp_readFraction [vr 10] σ (fun σ' => QJ σ σ') := by
  refine Mt.of okM_Tp_readFraction (Nat.le_of_ble_eq_true rfl) (fun hk hg => ?_)
  have h0 := h.1
  refine ok_aload_n 0 rfl rfl rfl (ok_callVI (M' := M_Tp_countDigits) (as := []) 1 rfl rfl ml_X10_79 (s_Tp_countDigits h0) rfl rfl (Nat.le_of_ble_eq_true rfl) ⟨Nat.le_of_ble_eq_true rfl, Nat.le_of_ble_eq_true rfl⟩ rfl (Nat.le_of_ble_eq_true rfl) (fun σ' z hz => ?_))
  obtain ⟨hs_, hz⟩ := hz
  rw [hs_]; clear hs_ σ'
  refine ok_bipush 2 rfl rfl (by decide) (by decide) (ok_icmp_le 3 21 rfl rfl rfl (fun h6 => ?_) (fun h6 => ?_))
  · refine ok_aload_n 10 rfl rfl rfl (ok_getI 11 rfl rfl fl_X10_34 rfl rfl (Or.inl rfl) (ok_bipush 12 rfl rfl (by decide) (by decide) (ok_icmp_eq 13 39 rfl rfl rfl (fun h27 => ?_) (fun h27 => ?_))))
    · refine ok_aload_n 18 rfl rfl rfl (ok_iconst 19 rfl rfl (by decide) (ok_aload_n 20 rfl rfl rfl (ok_getI 21 rfl rfl fl_X10_31 rfl rfl (Or.inl rfl) (ok_callVV (M' := M_Tp_fail) (as := [_, _]) 22 rfl rfl ml_X10_75 (s_Tp_fail) rfl rfl (Nat.le_of_ble_eq_true rfl) ⟨Nat.le_of_ble_eq_true rfl, Nat.le_of_ble_eq_true rfl⟩ rfl (Nat.le_of_ble_eq_true rfl) (fun σ' hz => ?_)))))
      rw [hz]
      clear hz σ'
      refine ok_goto 23 95 rfl rfl rfl (ok_vret 46 rfl rfl rfl ?_)
      exact ⟨rfl, QJ_D h (QD_f h0 _ _)⟩
    · refine ok_aload_n 14 rfl rfl rfl (ok_getI 15 rfl rfl fl_X10_37 rfl rfl (Or.inl rfl) (ok_bipush 16 rfl rfl (by decide) (by decide) (ok_icmp_ne 17 51 rfl rfl rfl (fun h36 => ?_) (fun h36 => ?_))))
      · refine ok_aload_n 24 rfl rfl rfl (ok_getI 25 rfl rfl fl_X10_34 rfl rfl (Or.inl rfl) (ok_if_le 26 81 rfl rfl rfl (fun h55 => ?_) (fun h55 => ?_)))
        · obtain ⟨-, h1, h2, h3, h4, h5, h6, h7, h8, h9⟩ := id h
          have r7 : σ 10 7 ≤ 7 := by omega
          have f7 : σ 10 8 ≤ 7 := by omega
          have fw : 0 < σ 10 7 → σ 10 8 < σ 10 9 := fun q => by have := h9 q; omega
          refine ok_aload_n 38 rfl rfl rfl (ok_callVI (M' := M_Tp_readNumber) (as := []) 39 rfl rfl ml_X10_83 (s_Tp_readNumber h0) rfl rfl (Nat.le_of_ble_eq_true rfl) ⟨Nat.le_of_ble_eq_true rfl, Nat.le_of_ble_eq_true rfl⟩ rfl (Nat.le_of_ble_eq_true rfl) (fun τ w hw => ?_))
          have q1 := QD_6 hw.1 ⟨hw.2.1, hw.2.2.1⟩
          have hw2 := hw.2.2.2
          refine ok_ist1 40 rfl rfl rfl (ok_aload_n 41 rfl rfl rfl (ok_iload_n 42 rfl rfl rfl (ok_aload_n 43 rfl rfl rfl (ok_callVI (M' := M_Tp_readDivisor) (as := []) 44 rfl rfl ml_X10_86 (s_Tp_readDivisor (QD_P h0 q1)) rfl rfl (Nat.le_of_ble_eq_true rfl) ⟨Nat.le_of_ble_eq_true rfl, Nat.le_of_ble_eq_true rfl⟩ rfl (Nat.le_of_ble_eq_true rfl) (fun υ y hy => ?_)))))
          have q2 := QD_tr q1 hy.1
          have hy2 := hy.2
          have ra := RA_D h q2
          have e7 : υ 10 7 = σ 10 7 := q2.1 10 7 (by simp [rgD])
          have e8 : υ 10 8 = σ 10 8 := q2.1 10 8 (by simp [rgD])
          have e9 : υ 10 9 = σ 10 9 := q2.1 10 9 (by simp [rgD])
          refine ok_callVV (M' := M_Tp_keepFraction) (as := [_, _]) 45 rfl rfl ml_X10_89 (s_Tp_keepFraction ⟨by omega, by omega⟩ ⟨by omega, by omega⟩ hw2 hy2) rfl rfl (Nat.le_of_ble_eq_true rfl) ⟨Nat.le_of_ble_eq_true rfl, Nat.le_of_ble_eq_true rfl⟩ rfl (Nat.le_of_ble_eq_true rfl) (fun ω hω => ?_)
          refine ok_vret 46 rfl rfl rfl ?_
          obtain ⟨k1, k2, k3, k4⟩ := hω
          have x7 : ω 10 7 = σ 10 7 := by rw [k1 10 7 (by simp [rgE]), e7]
          have x9 : ω 10 9 = σ 10 9 := by rw [k1 10 9 (by simp [rgE]), e9]
          have x3 : ω 10 3 = υ 10 3 := k1 10 3 (by simp [rgE])
          have x6 : ω 10 6 = υ 10 6 := k1 10 6 (by simp [rgE])
          obtain ⟨t0, t1, t2, t3, t4, t5, t6, t7, t8, t9⟩ := ra
          have eu : ∀ k, uA υ k → uA ω k := fun k hk => by
            by_cases q : k = υ 10 7 * 8 + υ 10 8
            · rw [q]; exact k3
            · unfold uA; rw [(k4 k q).1, (k4 k q).2]; exact hk
          refine ⟨rfl, ((q2.1.mono (fun c k w => by simp only [rgD, rgJ] at w ⊢; omega)).tr (k1.mono (fun c k w => by simp only [rgE, rgJ] at w ⊢; omega))), ⟨by rw [x3]; exact t0.1, by rw [x3]; exact t0.2.1, by rw [x6]; exact t0.2.2.1, by rw [x6, x3]; exact t0.2.2.2⟩, by omega, by omega, by omega, by omega, by omega, by omega, fun i j a b c d => eu _ (t7 i j a (by omega) c (by omega)), fun j a b c => ?_, fun q => by have := fw (by omega); omega⟩
          rw [x7, ← e7]
          by_cases q : j = υ 10 8
          · rw [q]; exact k3
          · exact eu _ (t8 j (by omega) b (by omega))
        · refine ok_aload_n 27 rfl rfl rfl (ok_getI 28 rfl rfl fl_X10_37 rfl rfl (Or.inl rfl) (ok_aload_n 29 rfl rfl rfl (ok_getI 30 rfl rfl fl_X10_40 rfl rfl (Or.inl rfl) (ok_icmp_ne 31 81 rfl rfl rfl (fun h66 => ?_) (fun h66 => ?_)))))
          · obtain ⟨-, h1, h2, h3, h4, h5, h6, h7, h8, h9⟩ := id h
            have r7 : σ 10 7 ≤ 7 := by omega
            have f7 : σ 10 8 ≤ 7 := by omega
            have fw : 0 < σ 10 7 → σ 10 8 < σ 10 9 := fun q => by have := h9 q; omega
            refine ok_aload_n 38 rfl rfl rfl (ok_callVI (M' := M_Tp_readNumber) (as := []) 39 rfl rfl ml_X10_83 (s_Tp_readNumber h0) rfl rfl (Nat.le_of_ble_eq_true rfl) ⟨Nat.le_of_ble_eq_true rfl, Nat.le_of_ble_eq_true rfl⟩ rfl (Nat.le_of_ble_eq_true rfl) (fun τ w hw => ?_))
            have q1 := QD_6 hw.1 ⟨hw.2.1, hw.2.2.1⟩
            have hw2 := hw.2.2.2
            refine ok_ist1 40 rfl rfl rfl (ok_aload_n 41 rfl rfl rfl (ok_iload_n 42 rfl rfl rfl (ok_aload_n 43 rfl rfl rfl (ok_callVI (M' := M_Tp_readDivisor) (as := []) 44 rfl rfl ml_X10_86 (s_Tp_readDivisor (QD_P h0 q1)) rfl rfl (Nat.le_of_ble_eq_true rfl) ⟨Nat.le_of_ble_eq_true rfl, Nat.le_of_ble_eq_true rfl⟩ rfl (Nat.le_of_ble_eq_true rfl) (fun υ y hy => ?_)))))
            have q2 := QD_tr q1 hy.1
            have hy2 := hy.2
            have ra := RA_D h q2
            have e7 : υ 10 7 = σ 10 7 := q2.1 10 7 (by simp [rgD])
            have e8 : υ 10 8 = σ 10 8 := q2.1 10 8 (by simp [rgD])
            have e9 : υ 10 9 = σ 10 9 := q2.1 10 9 (by simp [rgD])
            refine ok_callVV (M' := M_Tp_keepFraction) (as := [_, _]) 45 rfl rfl ml_X10_89 (s_Tp_keepFraction ⟨by omega, by omega⟩ ⟨by omega, by omega⟩ hw2 hy2) rfl rfl (Nat.le_of_ble_eq_true rfl) ⟨Nat.le_of_ble_eq_true rfl, Nat.le_of_ble_eq_true rfl⟩ rfl (Nat.le_of_ble_eq_true rfl) (fun ω hω => ?_)
            refine ok_vret 46 rfl rfl rfl ?_
            obtain ⟨k1, k2, k3, k4⟩ := hω
            have x7 : ω 10 7 = σ 10 7 := by rw [k1 10 7 (by simp [rgE]), e7]
            have x9 : ω 10 9 = σ 10 9 := by rw [k1 10 9 (by simp [rgE]), e9]
            have x3 : ω 10 3 = υ 10 3 := k1 10 3 (by simp [rgE])
            have x6 : ω 10 6 = υ 10 6 := k1 10 6 (by simp [rgE])
            obtain ⟨t0, t1, t2, t3, t4, t5, t6, t7, t8, t9⟩ := ra
            have eu : ∀ k, uA υ k → uA ω k := fun k hk => by
              by_cases q : k = υ 10 7 * 8 + υ 10 8
              · rw [q]; exact k3
              · unfold uA; rw [(k4 k q).1, (k4 k q).2]; exact hk
            refine ⟨rfl, ((q2.1.mono (fun c k w => by simp only [rgD, rgJ] at w ⊢; omega)).tr (k1.mono (fun c k w => by simp only [rgE, rgJ] at w ⊢; omega))), ⟨by rw [x3]; exact t0.1, by rw [x3]; exact t0.2.1, by rw [x6]; exact t0.2.2.1, by rw [x6, x3]; exact t0.2.2.2⟩, by omega, by omega, by omega, by omega, by omega, by omega, fun i j a b c d => eu _ (t7 i j a (by omega) c (by omega)), fun j a b c => ?_, fun q => by have := fw (by omega); omega⟩
            rw [x7, ← e7]
            by_cases q : j = υ 10 8
            · rw [q]; exact k3
            · exact eu _ (t8 j (by omega) b (by omega))
          · refine ok_aload_n 32 rfl rfl rfl (ok_iconst 33 rfl rfl (by decide) (ok_aload_n 34 rfl rfl rfl (ok_getI 35 rfl rfl fl_X10_31 rfl rfl (Or.inl rfl) (ok_callVV (M' := M_Tp_fail) (as := [_, _]) 36 rfl rfl ml_X10_75 (s_Tp_fail) rfl rfl (Nat.le_of_ble_eq_true rfl) ⟨Nat.le_of_ble_eq_true rfl, Nat.le_of_ble_eq_true rfl⟩ rfl (Nat.le_of_ble_eq_true rfl) (fun σ' hz => ?_)))))
            rw [hz]
            clear hz σ'
            refine ok_goto 37 95 rfl rfl rfl (ok_vret 46 rfl rfl rfl ?_)
            exact ⟨rfl, QJ_D h (QD_f h0 _ _)⟩
      · refine ok_aload_n 18 rfl rfl rfl (ok_iconst 19 rfl rfl (by decide) (ok_aload_n 20 rfl rfl rfl (ok_getI 21 rfl rfl fl_X10_31 rfl rfl (Or.inl rfl) (ok_callVV (M' := M_Tp_fail) (as := [_, _]) 22 rfl rfl ml_X10_75 (s_Tp_fail) rfl rfl (Nat.le_of_ble_eq_true rfl) ⟨Nat.le_of_ble_eq_true rfl, Nat.le_of_ble_eq_true rfl⟩ rfl (Nat.le_of_ble_eq_true rfl) (fun σ' hz => ?_)))))
        rw [hz]
        clear hz σ'
        refine ok_goto 23 95 rfl rfl rfl (ok_vret 46 rfl rfl rfl ?_)
        exact ⟨rfl, QJ_D h (QD_f h0 _ _)⟩
  · refine ok_aload_n 4 rfl rfl rfl (ok_iconst 5 rfl rfl (by decide) (ok_aload_n 6 rfl rfl rfl (ok_getI 7 rfl rfl fl_X10_31 rfl rfl (Or.inl rfl) (ok_callVV (M' := M_Tp_fail) (as := [_, _]) 8 rfl rfl ml_X10_75 (s_Tp_fail) rfl rfl (Nat.le_of_ble_eq_true rfl) ⟨Nat.le_of_ble_eq_true rfl, Nat.le_of_ble_eq_true rfl⟩ rfl (Nat.le_of_ble_eq_true rfl) (fun σ' hz => ?_)))))
    rw [hz]
    clear hz σ'
    refine ok_goto 9 95 rfl rfl rfl (ok_vret 46 rfl rfl rfl ?_)
    exact ⟨rfl, QJ_D h (QD_f h0 _ _)⟩
end
section
theorem s_Tp_closeRow {σ : eS} (h : RA σ) (hat : σ 10 6 < σ 10 3) : MtV shA M_Tp_closeRow [vr 10] σ (fun σ' => QJ σ σ') := by
  refine Mt.of okM_Tp_closeRow (Nat.le_of_ble_eq_true rfl) (fun hk hg => ?_)
  obtain ⟨h0, h1, h2, h3, h4, h5, h6, h7, h8, h9⟩ := id h
  obtain ⟨p1, p2, p3, p4⟩ := id h0
  refine ok_aload_n 0 rfl rfl rfl (ok_getI 1 rfl rfl fl_X10_34 rfl rfl (Or.inl rfl) (ok_bipush 2 rfl rfl (by decide) (by decide) (ok_icmp_ne 3 21 rfl rfl rfl (fun h6 => ?_) (fun h6 => ?_))))
  · refine ok_aload_n 10 rfl rfl rfl (ok_getI 11 rfl rfl fl_X10_34 rfl rfl (Or.inl rfl) (ok_if_le 12 51 rfl rfl rfl (fun h25 => ?_) (fun h25 => ?_)))
    · have W : ∀ τ : eS, fr (fun c k => c = 10 ∧ k = 9) σ τ → (σ 10 7 = 0 → τ 10 9 = σ 10 8) → (σ 10 7 ≠ 0 → τ 10 9 = σ 10 9 ∧ σ 10 8 = σ 10 9) → QJ σ (up (up (up τ 10 7 (σ 10 7 + 1)) 10 8 0) 10 6 (σ 10 6 + 1)) := fun τ f e0 e1 => by
        have x : ∀ k, k ≠ 9 → τ 10 k = σ 10 k := fun k q => f 10 k (by omega)
        obtain ⟨ω, eω⟩ : ∃ ω, ω = up (up (up τ 10 7 (σ 10 7 + 1)) 10 8 0) 10 6 (σ 10 6 + 1) := ⟨_, rfl⟩
        have y3 : ω 10 3 = σ 10 3 := by rw [eω]; simp [up_if]; exact x 3 (by decide)
        have y6 : ω 10 6 = σ 10 6 + 1 := by rw [eω]; simp [up_if]
        have y7 : ω 10 7 = σ 10 7 + 1 := by rw [eω]; simp [up_if]
        have y8 : ω 10 8 = 0 := by rw [eω]; simp [up_if]
        have y9 : ω 10 9 = τ 10 9 := by rw [eω]; simp [up_if]
        have eu : ∀ k, uA σ k → uA ω k := fun k hk => by
          unfold uA
          rw [eω, up_ne _ _ _ _ (by decide), up_ne _ _ _ _ (by decide), up_ne _ _ _ _ (by decide), up_ne _ _ _ _ (by decide), up_ne _ _ _ _ (by decide), up_ne _ _ _ _ (by decide), f 12 k (by omega), f 13 k (by omega)]
          exact hk
        rw [← eω]
        have w9 : τ 10 9 = σ 10 8 := by
          by_cases q : σ 10 7 = 0
          · exact e0 q
          · have := e1 q; omega
        refine ⟨?_, ⟨by omega, by omega, by omega, by omega⟩, by omega, by omega, by omega, by omega, by omega, by omega, fun i j a b c d => ?_, fun j a b c => by omega, fun _ => by omega⟩
        · rw [eω]
          exact fr_up (fr_up (fr_up (f.mono (fun c k q => by simp only [rgJ]; omega)) (by simp [rgJ])) (by simp [rgJ])) (by simp [rgJ])
        · rcases (show i = σ 10 7 ∨ i < σ 10 7 by omega) with q | q
          · rw [q]; exact eu _ (h8 j (by omega) c (by omega))
          · have := e1 (by omega)
            exact eu _ (h7 i j a q c (by omega))
      refine ok_aload_n 24 rfl rfl rfl (ok_getI 25 rfl rfl fl_X10_34 rfl rfl (Or.inl rfl) (ok_if_ne 26 66 rfl rfl rfl (fun h55 => ?_) (fun h55 => ?_)))
      · refine ok_aload_n 31 rfl rfl rfl (ok_dup 32 rfl rfl rfl (ok_getI 33 rfl rfl fl_X10_34 rfl rfl (Or.inl rfl) (ok_iconst 34 rfl rfl (by decide) (ok_iadd 35 rfl rfl (by first | omega | (simp [up_if]; omega) | (simp [up_if] at *; omega)) (ok_putI 36 rfl rfl fl_X10_34 rfl rfl rfl rfl (ok_aload_n 37 rfl rfl rfl (ok_iconst 38 rfl rfl (by decide) (ok_putI 39 rfl rfl fl_X10_37 rfl rfl rfl rfl (ok_aload_n 40 rfl rfl rfl (ok_dup 41 rfl rfl rfl (ok_getI 42 rfl rfl fl_X10_31 rfl rfl (Or.inl rfl) (ok_iconst 43 rfl rfl (by decide) (ok_iadd 44 rfl rfl (by first | omega | (simp [up_if]; omega) | (simp [up_if] at *; omega)) (ok_putI 45 rfl rfl fl_X10_31 rfl rfl rfl rfl (ok_vret 46 rfl rfl rfl ?_)))))))))))))))
        refine ⟨rfl, ?_⟩
        have k1 : (10 : Nat) = 10 := rfl
        rw [up_nk _ _ _ _ (show (6 : Int) ≠ 8 by decide), up_nk _ _ _ _ (show (6 : Int) ≠ 7 by decide)]
        first
          | exact W σ fr.rf (fun q => by omega) (fun q => ⟨rfl, by have := h9 (by omega); omega⟩)
          | (rw [up_nk _ _ _ _ (show (6 : Int) ≠ 9 by decide), up_nk _ _ _ _ (show (7 : Int) ≠ 9 by decide)]; exact W (up σ 10 9 (σ 10 8)) (fr_up fr.rf ⟨rfl, rfl⟩) (fun _ => up_same _ _ _ _) (fun q => absurd (by omega) q))
      · refine ok_aload_n 27 rfl rfl rfl (ok_aload_n 28 rfl rfl rfl (ok_getI 29 rfl rfl fl_X10_37 rfl rfl (Or.inl rfl) (ok_putI 30 rfl rfl fl_X10_40 rfl rfl rfl rfl (ok_aload_n 31 rfl rfl rfl (ok_dup 32 rfl rfl rfl (ok_getI 33 rfl rfl fl_X10_34 rfl rfl (Or.inl rfl) (ok_iconst 34 rfl rfl (by decide) (ok_iadd 35 rfl rfl (by first | omega | (simp [up_if]; omega) | (simp [up_if] at *; omega)) (ok_putI 36 rfl rfl fl_X10_34 rfl rfl rfl rfl (ok_aload_n 37 rfl rfl rfl (ok_iconst 38 rfl rfl (by decide) (ok_putI 39 rfl rfl fl_X10_37 rfl rfl rfl rfl (ok_aload_n 40 rfl rfl rfl (ok_dup 41 rfl rfl rfl (ok_getI 42 rfl rfl fl_X10_31 rfl rfl (Or.inl rfl) (ok_iconst 43 rfl rfl (by decide) (ok_iadd 44 rfl rfl (by first | omega | (simp [up_if]; omega) | (simp [up_if] at *; omega)) (ok_putI 45 rfl rfl fl_X10_31 rfl rfl rfl rfl (ok_vret 46 rfl rfl rfl ?_)))))))))))))))))))
        refine ⟨rfl, ?_⟩
        have k1 : (10 : Nat) = 10 := rfl
        rw [up_nk _ _ _ _ (show (6 : Int) ≠ 8 by decide), up_nk _ _ _ _ (show (6 : Int) ≠ 7 by decide)]
        first
          | exact W σ fr.rf (fun q => by omega) (fun q => ⟨rfl, by have := h9 (by omega); omega⟩)
          | (rw [up_nk _ _ _ _ (show (6 : Int) ≠ 9 by decide), up_nk _ _ _ _ (show (7 : Int) ≠ 9 by decide)]; exact W (up σ 10 9 (σ 10 8)) (fr_up fr.rf ⟨rfl, rfl⟩) (fun _ => up_same _ _ _ _) (fun q => absurd (by omega) q))
    · refine ok_aload_n 13 rfl rfl rfl (ok_getI 14 rfl rfl fl_X10_37 rfl rfl (Or.inl rfl) (ok_aload_n 15 rfl rfl rfl (ok_getI 16 rfl rfl fl_X10_40 rfl rfl (Or.inl rfl) (ok_icmp_eq 17 51 rfl rfl rfl (fun h36 => ?_) (fun h36 => ?_)))))
      · have W : ∀ τ : eS, fr (fun c k => c = 10 ∧ k = 9) σ τ → (σ 10 7 = 0 → τ 10 9 = σ 10 8) → (σ 10 7 ≠ 0 → τ 10 9 = σ 10 9 ∧ σ 10 8 = σ 10 9) → QJ σ (up (up (up τ 10 7 (σ 10 7 + 1)) 10 8 0) 10 6 (σ 10 6 + 1)) := fun τ f e0 e1 => by
          have x : ∀ k, k ≠ 9 → τ 10 k = σ 10 k := fun k q => f 10 k (by omega)
          obtain ⟨ω, eω⟩ : ∃ ω, ω = up (up (up τ 10 7 (σ 10 7 + 1)) 10 8 0) 10 6 (σ 10 6 + 1) := ⟨_, rfl⟩
          have y3 : ω 10 3 = σ 10 3 := by rw [eω]; simp [up_if]; exact x 3 (by decide)
          have y6 : ω 10 6 = σ 10 6 + 1 := by rw [eω]; simp [up_if]
          have y7 : ω 10 7 = σ 10 7 + 1 := by rw [eω]; simp [up_if]
          have y8 : ω 10 8 = 0 := by rw [eω]; simp [up_if]
          have y9 : ω 10 9 = τ 10 9 := by rw [eω]; simp [up_if]
          have eu : ∀ k, uA σ k → uA ω k := fun k hk => by
            unfold uA
            rw [eω, up_ne _ _ _ _ (by decide), up_ne _ _ _ _ (by decide), up_ne _ _ _ _ (by decide), up_ne _ _ _ _ (by decide), up_ne _ _ _ _ (by decide), up_ne _ _ _ _ (by decide), f 12 k (by omega), f 13 k (by omega)]
            exact hk
          rw [← eω]
          have w9 : τ 10 9 = σ 10 8 := by
            by_cases q : σ 10 7 = 0
            · exact e0 q
            · have := e1 q; omega
          refine ⟨?_, ⟨by omega, by omega, by omega, by omega⟩, by omega, by omega, by omega, by omega, by omega, by omega, fun i j a b c d => ?_, fun j a b c => by omega, fun _ => by omega⟩
          · rw [eω]
            exact fr_up (fr_up (fr_up (f.mono (fun c k q => by simp only [rgJ]; omega)) (by simp [rgJ])) (by simp [rgJ])) (by simp [rgJ])
          · rcases (show i = σ 10 7 ∨ i < σ 10 7 by omega) with q | q
            · rw [q]; exact eu _ (h8 j (by omega) c (by omega))
            · have := e1 (by omega)
              exact eu _ (h7 i j a q c (by omega))
        refine ok_aload_n 24 rfl rfl rfl (ok_getI 25 rfl rfl fl_X10_34 rfl rfl (Or.inl rfl) (ok_if_ne 26 66 rfl rfl rfl (fun h55 => ?_) (fun h55 => ?_)))
        · refine ok_aload_n 31 rfl rfl rfl (ok_dup 32 rfl rfl rfl (ok_getI 33 rfl rfl fl_X10_34 rfl rfl (Or.inl rfl) (ok_iconst 34 rfl rfl (by decide) (ok_iadd 35 rfl rfl (by first | omega | (simp [up_if]; omega) | (simp [up_if] at *; omega)) (ok_putI 36 rfl rfl fl_X10_34 rfl rfl rfl rfl (ok_aload_n 37 rfl rfl rfl (ok_iconst 38 rfl rfl (by decide) (ok_putI 39 rfl rfl fl_X10_37 rfl rfl rfl rfl (ok_aload_n 40 rfl rfl rfl (ok_dup 41 rfl rfl rfl (ok_getI 42 rfl rfl fl_X10_31 rfl rfl (Or.inl rfl) (ok_iconst 43 rfl rfl (by decide) (ok_iadd 44 rfl rfl (by first | omega | (simp [up_if]; omega) | (simp [up_if] at *; omega)) (ok_putI 45 rfl rfl fl_X10_31 rfl rfl rfl rfl (ok_vret 46 rfl rfl rfl ?_)))))))))))))))
          refine ⟨rfl, ?_⟩
          have k1 : (10 : Nat) = 10 := rfl
          rw [up_nk _ _ _ _ (show (6 : Int) ≠ 8 by decide), up_nk _ _ _ _ (show (6 : Int) ≠ 7 by decide)]
          first
            | exact W σ fr.rf (fun q => by omega) (fun q => ⟨rfl, by have := h9 (by omega); omega⟩)
            | (rw [up_nk _ _ _ _ (show (6 : Int) ≠ 9 by decide), up_nk _ _ _ _ (show (7 : Int) ≠ 9 by decide)]; exact W (up σ 10 9 (σ 10 8)) (fr_up fr.rf ⟨rfl, rfl⟩) (fun _ => up_same _ _ _ _) (fun q => absurd (by omega) q))
        · refine ok_aload_n 27 rfl rfl rfl (ok_aload_n 28 rfl rfl rfl (ok_getI 29 rfl rfl fl_X10_37 rfl rfl (Or.inl rfl) (ok_putI 30 rfl rfl fl_X10_40 rfl rfl rfl rfl (ok_aload_n 31 rfl rfl rfl (ok_dup 32 rfl rfl rfl (ok_getI 33 rfl rfl fl_X10_34 rfl rfl (Or.inl rfl) (ok_iconst 34 rfl rfl (by decide) (ok_iadd 35 rfl rfl (by first | omega | (simp [up_if]; omega) | (simp [up_if] at *; omega)) (ok_putI 36 rfl rfl fl_X10_34 rfl rfl rfl rfl (ok_aload_n 37 rfl rfl rfl (ok_iconst 38 rfl rfl (by decide) (ok_putI 39 rfl rfl fl_X10_37 rfl rfl rfl rfl (ok_aload_n 40 rfl rfl rfl (ok_dup 41 rfl rfl rfl (ok_getI 42 rfl rfl fl_X10_31 rfl rfl (Or.inl rfl) (ok_iconst 43 rfl rfl (by decide) (ok_iadd 44 rfl rfl (by first | omega | (simp [up_if]; omega) | (simp [up_if] at *; omega)) (ok_putI 45 rfl rfl fl_X10_31 rfl rfl rfl rfl (ok_vret 46 rfl rfl rfl ?_)))))))))))))))))))
          refine ⟨rfl, ?_⟩
          have k1 : (10 : Nat) = 10 := rfl
          rw [up_nk _ _ _ _ (show (6 : Int) ≠ 8 by decide), up_nk _ _ _ _ (show (6 : Int) ≠ 7 by decide)]
          first
            | exact W σ fr.rf (fun q => by omega) (fun q => ⟨rfl, by have := h9 (by omega); omega⟩)
            | (rw [up_nk _ _ _ _ (show (6 : Int) ≠ 9 by decide), up_nk _ _ _ _ (show (7 : Int) ≠ 9 by decide)]; exact W (up σ 10 9 (σ 10 8)) (fr_up fr.rf ⟨rfl, rfl⟩) (fun _ => up_same _ _ _ _) (fun q => absurd (by omega) q))
      · refine ok_aload_n 18 rfl rfl rfl (ok_iconst 19 rfl rfl (by decide) (ok_aload_n 20 rfl rfl rfl (ok_getI 21 rfl rfl fl_X10_31 rfl rfl (Or.inl rfl) (ok_callVV (M' := M_Tp_fail) (as := [_, _]) 22 rfl rfl ml_X10_75 (s_Tp_fail) rfl rfl (Nat.le_of_ble_eq_true rfl) ⟨Nat.le_of_ble_eq_true rfl, Nat.le_of_ble_eq_true rfl⟩ rfl (Nat.le_of_ble_eq_true rfl) (fun σ' hz => ?_)))))
        rw [hz]
        clear hz σ'
        refine ok_goto 23 91 rfl rfl rfl (ok_vret 46 rfl rfl rfl ?_)
        exact ⟨rfl, QJ_D h (QD_f h0 _ _)⟩
  · refine ok_aload_n 4 rfl rfl rfl (ok_iconst 5 rfl rfl (by decide) (ok_aload_n 6 rfl rfl rfl (ok_getI 7 rfl rfl fl_X10_31 rfl rfl (Or.inl rfl) (ok_callVV (M' := M_Tp_fail) (as := [_, _]) 8 rfl rfl ml_X10_75 (s_Tp_fail) rfl rfl (Nat.le_of_ble_eq_true rfl) ⟨Nat.le_of_ble_eq_true rfl, Nat.le_of_ble_eq_true rfl⟩ rfl (Nat.le_of_ble_eq_true rfl) (fun σ' hz => ?_)))))
    rw [hz]
    clear hz σ'
    refine ok_goto 9 91 rfl rfl rfl (ok_vret 46 rfl rfl rfl ?_)
    exact ⟨rfl, QJ_D h (QD_f h0 _ _)⟩
end
section
theorem s_Tp_readPiece {σ : eS} (h : RA σ) (hat : σ 10 6 < σ 10 3) : MtV shA M_Tp_readPiece [vr 10] σ (fun σ' => QJ σ σ') := by
  refine Mt.of okM_Tp_readPiece (Nat.le_of_ble_eq_true rfl) (fun hk hg => ?_)
  have h0 := h.1
  obtain ⟨p1, p2, p3, p4⟩ := id h0
  refine ok_aload_n 0 rfl rfl rfl (ok_aload_n 1 rfl rfl rfl (ok_getI 2 rfl rfl fl_X10_31 rfl rfl (Or.inl rfl) (ok_callVI (M' := M_Tp_isBlank) (as := [_]) 3 rfl rfl ml_X10_58 (s_Tp_isBlank ⟨p1, p2⟩ p3) rfl rfl (Nat.le_of_ble_eq_true rfl) ⟨Nat.le_of_ble_eq_true rfl, Nat.le_of_ble_eq_true rfl⟩ rfl (Nat.le_of_ble_eq_true rfl) (fun σ' z1 a1 => ?_))))
  obtain ⟨hs_, a1⟩ := a1
  rw [hs_]; clear hs_ σ'
  refine ok_if_eq 4 24 rfl rfl rfl (fun h8 => ?_) (fun h8 => ?_)
  · refine ok_aload_n 12 rfl rfl rfl (ok_aload_n 13 rfl rfl rfl (ok_getI 14 rfl rfl fl_X10_31 rfl rfl (Or.inl rfl) (ok_bipush 15 rfl rfl (by decide) (by decide) (ok_callVI (M' := M_Tp_isSign) (as := [_, _]) 16 rfl rfl ml_X10_62 (s_Tp_isSign ⟨p1, p2⟩ p3) rfl rfl (Nat.le_of_ble_eq_true rfl) ⟨Nat.le_of_ble_eq_true rfl, Nat.le_of_ble_eq_true rfl⟩ rfl (Nat.le_of_ble_eq_true rfl) (fun σ' z2 a2 => ?_)))))
    obtain ⟨hs_, a2⟩ := a2
    rw [hs_]; clear hs_ σ'
    refine ok_if_eq 17 44 rfl rfl rfl (fun h34 => ?_) (fun h34 => ?_)
    · refine ok_aload_n 21 rfl rfl rfl (ok_aload_n 22 rfl rfl rfl (ok_getI 23 rfl rfl fl_X10_31 rfl rfl (Or.inl rfl) (ok_callVI (M' := M_Tp_isDigit) (as := [_]) 24 rfl rfl ml_X10_69 (s_Tp_isDigit ⟨p1, p2⟩ p3) rfl rfl (Nat.le_of_ble_eq_true rfl) ⟨Nat.le_of_ble_eq_true rfl, Nat.le_of_ble_eq_true rfl⟩ rfl (Nat.le_of_ble_eq_true rfl) (fun σ' z3 a3 => ?_))))
      obtain ⟨hs_, a3⟩ := a3
      rw [hs_]; clear hs_ σ'
      refine ok_if_eq 25 62 rfl rfl rfl (fun h52 => ?_) (fun h52 => ?_)
      · refine ok_aload_n 29 rfl rfl rfl (ok_iconst 30 rfl rfl (by decide) (ok_aload_n 31 rfl rfl rfl (ok_getI 32 rfl rfl fl_X10_31 rfl rfl (Or.inl rfl) (ok_callVV (M' := M_Tp_fail) (as := [_, _]) 33 rfl rfl ml_X10_75 (s_Tp_fail) rfl rfl (Nat.le_of_ble_eq_true rfl) ⟨Nat.le_of_ble_eq_true rfl, Nat.le_of_ble_eq_true rfl⟩ rfl (Nat.le_of_ble_eq_true rfl) (fun σ' hz => ?_)))))
        rw [hz]
        clear hz σ'
        refine ok_vret 34 rfl rfl rfl ?_
        exact ⟨rfl, QJ_D h (QD_f h0 _ _)⟩
      · refine ok_aload_n 26 rfl rfl rfl (ok_callVV (M' := M_Tp_readFraction) (as := []) 27 rfl rfl ml_X10_72 (s_Tp_readFraction h) rfl rfl (Nat.le_of_ble_eq_true rfl) ⟨Nat.le_of_ble_eq_true rfl, Nat.le_of_ble_eq_true rfl⟩ rfl (Nat.le_of_ble_eq_true rfl) (fun τ hz => ?_))
        refine ok_goto 28 71 rfl rfl rfl (ok_vret 34 rfl rfl rfl ?_)
        exact ⟨rfl, hz⟩
    · refine ok_aload_n 18 rfl rfl rfl (ok_callVV (M' := M_Tp_closeRow) (as := []) 19 rfl rfl ml_X10_66 (s_Tp_closeRow h hat) rfl rfl (Nat.le_of_ble_eq_true rfl) ⟨Nat.le_of_ble_eq_true rfl, Nat.le_of_ble_eq_true rfl⟩ rfl (Nat.le_of_ble_eq_true rfl) (fun τ hz => ?_))
      refine ok_goto 20 71 rfl rfl rfl (ok_vret 34 rfl rfl rfl ?_)
      exact ⟨rfl, hz⟩
  · refine ok_aload_n 5 rfl rfl rfl (ok_dup 6 rfl rfl rfl (ok_getI 7 rfl rfl fl_X10_31 rfl rfl (Or.inl rfl) (ok_iconst 8 rfl rfl (by decide) (ok_iadd 9 rfl rfl (by first | omega | (simp [up_if]; omega) | (simp [up_if] at *; omega)) (ok_putI 10 rfl rfl fl_X10_31 rfl rfl rfl rfl (ok_goto 11 71 rfl rfl rfl (ok_vret 34 rfl rfl rfl ?_)))))))
    exact ⟨rfl, QJ_D h ⟨fr_up fr.rf (by simp [rgD]), by rw [up_same]; omega, by rw [up_same]; omega⟩⟩
theorem s_Tp_checkEnd {σ : eS} (h : RA σ) : MtV shA M_Tp_checkEnd [vr 10] σ (fun σ' => QJ σ σ' ∧ (σ' 10 4 = 0 → σ' 10 7 = σ' 10 9)) := by
  refine Mt.of okM_Tp_checkEnd (Nat.le_of_ble_eq_true rfl) (fun hk hg => ?_)
  have h0 := h.1
  have tail : ∀ τ : eS, QJ σ τ → Ok shA M_Tp_checkEnd 23 [some (vr 10)] [] τ (fun σ' v => v = none ∧ QJ σ σ' ∧ (σ' 10 4 = 0 → σ' 10 7 = σ' 10 9)) := by
    intro τ q
    refine ok_aload_n 11 rfl rfl rfl (ok_getI 12 rfl rfl fl_X10_25 rfl rfl (Or.inl rfl) (ok_if_ne 13 50 rfl rfl rfl (fun h27 => ?_) (fun h27 => ?_)))
    · refine ok_vret 24 rfl rfl rfl ?_
      exact ⟨rfl, q, fun w => absurd w h27⟩
    · refine ok_aload_n 14 rfl rfl rfl (ok_getI 15 rfl rfl fl_X10_34 rfl rfl (Or.inl rfl) (ok_aload_n 16 rfl rfl rfl (ok_getI 17 rfl rfl fl_X10_40 rfl rfl (Or.inl rfl) (ok_icmp_eq 18 50 rfl rfl rfl (fun h38 => ?_) (fun h38 => ?_)))))
      · refine ok_vret 24 rfl rfl rfl ?_
        exact ⟨rfl, q, fun _ => by omega⟩
      · refine ok_aload_n 19 rfl rfl rfl (ok_iconst 20 rfl rfl (by decide) (ok_aload_n 21 rfl rfl rfl (ok_getI 22 rfl rfl fl_X10_21 rfl rfl (Or.inl rfl) (ok_callVV (M' := M_Tp_fail) (as := [_, _]) 23 rfl rfl ml_X10_75 (s_Tp_fail) rfl rfl (Nat.le_of_ble_eq_true rfl) ⟨Nat.le_of_ble_eq_true rfl, Nat.le_of_ble_eq_true rfl⟩ rfl (Nat.le_of_ble_eq_true rfl) (fun σ' hz => ?_)))))
        rw [hz]
        clear hz σ'
        refine ok_vret 24 rfl rfl rfl ?_
        exact ⟨rfl, ⟨q.1.tr (QJ_D q.2 (QD_f q.2.1 _ _)).1, (QJ_D q.2 (QD_f q.2.1 _ _)).2⟩, fun w => absurd w (by simp [up_if])⟩
  refine ok_aload_n 0 rfl rfl rfl (ok_getI 1 rfl rfl fl_X10_25 rfl rfl (Or.inl rfl) (ok_if_ne 2 23 rfl rfl rfl (fun h4 => ?_) (fun h4 => ?_)))
  · exact tail σ ⟨fr.rf, h⟩
  · refine ok_aload_n 3 rfl rfl rfl (ok_getI 4 rfl rfl fl_X10_37 rfl rfl (Or.inl rfl) (ok_if_le 5 23 rfl rfl rfl (fun h11 => ?_) (fun h11 => ?_)))
    · exact tail σ ⟨fr.rf, h⟩
    · refine ok_aload_n 6 rfl rfl rfl (ok_iconst 7 rfl rfl (by decide) (ok_aload_n 8 rfl rfl rfl (ok_getI 9 rfl rfl fl_X10_21 rfl rfl (Or.inl rfl) (ok_callVV (M' := M_Tp_fail) (as := [_, _]) 10 rfl rfl ml_X10_75 (s_Tp_fail) rfl rfl (Nat.le_of_ble_eq_true rfl) ⟨Nat.le_of_ble_eq_true rfl, Nat.le_of_ble_eq_true rfl⟩ rfl (Nat.le_of_ble_eq_true rfl) (fun σ' hz => ?_)))))
      rw [hz]
      clear hz σ'
      exact tail _ (QJ_D h (QD_f h0 _ _))
end
section
theorem s_Nu_leastMultiple {σ : eS} {a b l : Int} (ha : a ≤ 999999999) (hb : b ≤ 999999999) (hl : 1 ≤ l ∧ l ≤ 999999999) : MtL shA M_Nu_leastMultiple [vl a, vl b, vl l] σ (fun σ' z => σ' = σ ∧ (z = -1 ∨ (1 ≤ z ∧ z ≤ l))) := by
  refine Mt.of okM_Nu_leastMultiple (Nat.le_of_ble_eq_true rfl) (fun hk hg => ?_)
  refine ok_lload_n 0 rfl rfl rfl (ok_lconst (w := 1) 1 rfl rfl rfl (by decide) (ok_lcmp_lt 2 3 12 rfl rfl rfl rfl rfl (fun h2 => ?_) (fun h2 => ?_)))
  · refine ok_ldc2 8 (-1) rfl rfl kc_X4_9 (by decide) (ok_lret 9 rfl rfl rfl ?_)
    exact ⟨_, rfl, rfl, Or.inl rfl⟩
  · refine ok_lload_n 4 rfl rfl rfl (ok_lconst (w := 1) 5 rfl rfl rfl (by decide) (ok_lcmp_ge 6 7 16 rfl rfl rfl rfl rfl (fun h8 => ?_) (fun h8 => ?_)))
    · obtain ⟨g1, g2⟩ := gcd_pos (a := a) (b := b) (by omega)
      obtain ⟨g, eg⟩ : ∃ g : Int, g = (Int.gcd a b : Int) := ⟨_, rfl⟩
      rw [← eg] at g1 g2
      have d1 := gcd_div (u := a) (g := g) (by omega) g1 g2
      have d2 := div_bd (u := l) (g := b) (B := 999999999) ⟨by omega, by omega⟩ (by omega)
      refine ok_lload_n 10 rfl rfl rfl (ok_lload_n 11 rfl rfl rfl (ok_lload_n 12 rfl rfl rfl (ok_callSL (M' := M_Nu_greatestDivisor) (as := [_, _]) 13 rfl rfl ml_X4_11 (s_Nu_greatestDivisor (by omega) ⟨by omega, by omega⟩) ⟨Nat.le_of_ble_eq_true rfl, Nat.le_of_ble_eq_true rfl⟩ rfl (Nat.le_of_ble_eq_true rfl) (fun σ' z hz => ?_))))
      rw [hz.1, hz.2]
      clear hz z σ'
      rw [← eg]
      refine ok_ldiv 14 rfl rfl (by first | omega | (simp [up_if]; omega) | (simp [up_if] at *; omega)) (by first | omega | (simp [up_if]; omega) | (simp [up_if] at *; omega)) (ok_lst6 15 rfl rfl rfl (ok_lload 16 rfl rfl rfl (ok_lload 17 rfl rfl rfl (ok_lload_n 18 rfl rfl rfl (ok_ldiv 19 rfl rfl (by first | omega | (simp [up_if]; omega) | (simp [up_if] at *; omega)) (by first | omega | (simp [up_if]; omega) | (simp [up_if] at *; omega)) (ok_lcmp_le 20 21 41 rfl rfl rfl rfl rfl (fun h31 => ?_) (fun h31 => ?_)))))))
      · have m : b * (a / g) ≤ l := mul_le_div (by omega) (by omega)
        rw [Int.mul_comm] at m
        have m1 : 1 * 1 ≤ a / g * b := Int.mul_le_mul (by omega) (by omega) (by decide) (by omega)
        refine ok_lload 24 rfl rfl rfl (ok_lload_n 25 rfl rfl rfl (ok_lmul 26 rfl rfl (by first | omega | (simp [up_if]; omega) | (simp [up_if] at *; omega)) (ok_lret 27 rfl rfl rfl ?_)))
        exact ⟨_, rfl, rfl, Or.inr ⟨by omega, by omega⟩⟩
      · refine ok_ldc2 22 (-1) rfl rfl kc_X4_9 (by decide) (ok_goto 23 45 rfl rfl rfl (ok_lret 27 rfl rfl rfl ?_))
        exact ⟨_, rfl, rfl, Or.inl rfl⟩
    · refine ok_ldc2 8 (-1) rfl rfl kc_X4_9 (by decide) (ok_lret 9 rfl rfl rfl ?_)
      exact ⟨_, rfl, rfl, Or.inl rfl⟩
end
section
def uRA (σ : eS) : Prop := 0 ≤ σ 10 7 ∧ σ 10 7 ≤ 8 ∧ ∀ i j, 0 ≤ i → i < σ 10 7 → 0 ≤ j → j < σ 10 7 → uA σ (i * 8 + j)
theorem s_Tp_commonBelow {σ : eS} (h : uRA σ) : MtI shA M_Tp_commonBelow [vr 10] σ (fun σ' z => σ' = σ ∧ (z = -1 ∨ (1 ≤ z ∧ z ≤ 999999))) := by
  refine Mt.of okM_Tp_commonBelow (Nat.le_of_ble_eq_true rfl) (fun hk hg => ?_)
  obtain ⟨h1, h2, hu⟩ := h
  refine ok_lconst (w := 1) 0 rfl rfl rfl (by decide) (ok_lst1 1 rfl rfl rfl (ok_iconst 2 rfl rfl (by decide) (ok_ist3 3 rfl rfl rfl ?_)))
  refine lpO2 (fun (v i : Int) => [some (vr 10), some (vl v), none, some (vi i), none]) (fun _ _ => σ) (fun v i => 0 ≤ i ∧ i ≤ σ 10 7 ∧ (v = -1 ∨ (1 ≤ v ∧ v ≤ 999999))) (fun _ i => (8 - i).toNat) ?_ 1 0 ⟨by omega, by omega, by omega⟩
  rintro v i ⟨i1, i2, hv⟩ ih
  refine ok_iload_n 4 rfl rfl rfl (ok_aload_n 5 rfl rfl rfl (ok_getI 6 rfl rfl fl_X10_34 rfl rfl (Or.inl rfl) (ok_icmp_ge 7 57 rfl rfl rfl (fun h9 => ?_) (fun h9 => ?_))))
  · refine ok_lload_n 31 rfl rfl rfl (ok_l2i 32 rfl rfl (by first | omega | (simp [up_if]; omega) | (simp [up_if] at *; omega)) (ok_iret 33 rfl rfl rfl ?_))
    exact ⟨_, rfl, rfl, hv⟩
  · refine ok_iconst 8 rfl rfl (by decide) (ok_ist4 9 rfl rfl rfl ?_)
    refine lpO2 (fun (v j : Int) => [some (vr 10), some (vl v), none, some (vi i), some (vi j)]) (fun _ _ => σ) (fun v j => 0 ≤ j ∧ j ≤ σ 10 7 ∧ (v = -1 ∨ (1 ≤ v ∧ v ≤ 999999))) (fun _ j => (8 - j).toNat) ?_ v 0 ⟨by omega, by omega, hv⟩
    clear hv v
    rintro v j ⟨j1, j2, hv⟩ ih2
    refine ok_iload 10 rfl rfl rfl (ok_aload_n 11 rfl rfl rfl (ok_getI 12 rfl rfl fl_X10_34 rfl rfl (Or.inl rfl) (ok_icmp_ge 13 51 rfl rfl rfl (fun h21 => ?_) (fun h21 => ?_))))
    · refine ok_inc3 29 rfl rfl rfl (by first | omega | (simp [up_if]; omega) | (simp [up_if] at *; omega)) (ok_goto 30 4 rfl rfl rfl ?_)
      exact ok_fg [some (vr 10), some (vl v), none, some (vi (i + 1)), none] ⟨rfl, rfl, rfl, trivial⟩ (ih v (i + 1) ⟨by omega, by omega, hv⟩ (by omega))
    · have hk := hu i j i1 (by omega) j1 (by omega)
      obtain ⟨u1, u2, -⟩ := hk
      refine ok_lload_n 14 rfl rfl rfl (ok_aload_n 15 rfl rfl rfl (ok_getR 16 rfl rfl fl_X10_18 rfl rfl (ok_iload_n 17 rfl rfl rfl (ok_bipush 18 rfl rfl (by decide) (by decide) (ok_imul 19 rfl rfl (by first | omega | (simp [up_if]; omega) | (simp [up_if] at *; omega)) (ok_iload 20 rfl rfl rfl (ok_iadd 21 rfl rfl (by first | omega | (simp [up_if]; omega) | (simp [up_if] at *; omega)) (ok_iald 22 rfl rfl rfl (by first | omega | (simp [up_if]; omega) | (simp [up_if] at *; omega)) (ok_i2l 23 rfl rfl (ok_ldc2 24 (999999) rfl rfl kc_X10_113 (by decide) (ok_callSL (M' := M_Nu_leastMultiple) (as := [_, _, _]) 25 rfl rfl ml_X10_115 (s_Nu_leastMultiple (by omega) (by omega) ⟨by omega, by omega⟩) ⟨Nat.le_of_ble_eq_true rfl, Nat.le_of_ble_eq_true rfl⟩ rfl (Nat.le_of_ble_eq_true rfl) (fun σ' z hz => ?_))))))))))))
      obtain ⟨hs_, hz⟩ := hz
      rw [hs_]; clear hs_ σ'
      refine ok_lst1 26 rfl rfl rfl (ok_inc4 27 rfl rfl rfl (by first | omega | (simp [up_if]; omega) | (simp [up_if] at *; omega)) (ok_goto 28 15 rfl rfl rfl ?_))
      exact ih2 _ (j + 1) ⟨by omega, by omega, hz⟩ (by omega)
theorem s_Tp_areCells {σ : eS} {b : Int} (h : uRA σ) (hb : 1 ≤ b ∧ b ≤ 999999) : MtI shA M_Tp_areCells [vr 10, vi b] σ (fun σ' z => σ' = σ ∧ ((z = 0) ∨ (z = 1 ∧ ∀ i j, 0 ≤ i → i < σ 10 7 → 0 ≤ j → j < σ 10 7 → σ 12 (i * 8 + j) * (b / σ 13 (i * 8 + j)) ≤ 99999999))) := by
  refine Mt.of okM_Tp_areCells (Nat.le_of_ble_eq_true rfl) (fun hk hg => ?_)
  obtain ⟨h1, h2, hu⟩ := h
  refine ok_iconst 0 rfl rfl (by decide) (ok_ist2 1 rfl rfl rfl ?_)
  refine lpO (fun (i : Int) => [some (vr 10), some (vi b), some (vi i), none, none]) (fun _ => σ) (fun i => 0 ≤ i ∧ i ≤ σ 10 7 ∧ ∀ i', 0 ≤ i' → i' < i → ∀ j, 0 ≤ j → j < σ 10 7 → σ 12 (i' * 8 + j) * (b / σ 13 (i' * 8 + j)) ≤ 99999999) (fun i => (8 - i).toNat) ?_ 0 ⟨by omega, by omega, fun i' a c => by omega⟩
  rintro i ⟨i1, i2, hv⟩ ih
  refine ok_iload_n 2 rfl rfl rfl (ok_aload_n 3 rfl rfl rfl (ok_getI 4 rfl rfl fl_X10_34 rfl rfl (Or.inl rfl) (ok_icmp_ge 5 68 rfl rfl rfl (fun h7 => ?_) (fun h7 => ?_))))
  · refine ok_iconst 40 rfl rfl (by decide) (ok_zret 41 rfl rfl rfl (by first | omega | (simp [up_if]; omega) | (simp [up_if] at *; omega)) ?_)
    exact ⟨_, rfl, rfl, Or.inr ⟨rfl, fun i' j a c d e => hv i' a (by omega) j d e⟩⟩
  · refine ok_iconst 6 rfl rfl (by decide) (ok_ist3 7 rfl rfl rfl ?_)
    refine lpO (fun (j : Int) => [some (vr 10), some (vi b), some (vi i), some (vi j), none]) (fun _ => σ) (fun j => 0 ≤ j ∧ j ≤ σ 10 7 ∧ ∀ j', 0 ≤ j' → j' < j → σ 12 (i * 8 + j') * (b / σ 13 (i * 8 + j')) ≤ 99999999) (fun j => (8 - j).toNat) ?_ 0 ⟨by omega, by omega, fun j' a c => by omega⟩
    rintro j ⟨j1, j2, hw⟩ ih2
    refine ok_iload_n 8 rfl rfl rfl (ok_aload_n 9 rfl rfl rfl (ok_getI 10 rfl rfl fl_X10_34 rfl rfl (Or.inl rfl) (ok_icmp_ge 11 62 rfl rfl rfl (fun h17 => ?_) (fun h17 => ?_))))
    · refine ok_inc2 38 rfl rfl rfl (by first | omega | (simp [up_if]; omega) | (simp [up_if] at *; omega)) (ok_goto 39 2 rfl rfl rfl ?_)
      exact ok_fg [some (vr 10), some (vi b), some (vi (i + 1)), none, none] ⟨rfl, rfl, rfl, trivial⟩ (ih (i + 1) ⟨by omega, by omega, lt_ext hv (fun j' a c => hw j' a (by omega))⟩ (by omega))
    · obtain ⟨u1, u2, u3, u4⟩ := hu i j i1 (by omega) j1 (by omega)
      have d := div_bd (u := b) (g := σ 13 (i * 8 + j)) (B := 999999) ⟨by omega, by omega⟩ u1
      have m := mul_bd (a := σ 12 (i * 8 + j)) (b := b / σ 13 (i * 8 + j)) (A := 999999) (B := 999999) ⟨u3, u4⟩ d
      refine ok_iload_n 12 rfl rfl rfl (ok_bipush 13 rfl rfl (by decide) (by decide) (ok_imul 14 rfl rfl (by first | omega | (simp [up_if]; omega) | (simp [up_if] at *; omega)) (ok_iload_n 15 rfl rfl rfl (ok_iadd 16 rfl rfl (by first | omega | (simp [up_if]; omega) | (simp [up_if] at *; omega)) (ok_ist4 17 rfl rfl rfl (ok_aload_n 18 rfl rfl rfl (ok_getR 19 rfl rfl fl_X10_15 rfl rfl (ok_iload 20 rfl rfl rfl (ok_iald 21 rfl rfl rfl (by first | omega | (simp [up_if]; omega) | (simp [up_if] at *; omega)) (ok_i2l 22 rfl rfl (ok_iload_n 23 rfl rfl rfl (ok_aload_n 24 rfl rfl rfl (ok_getR 25 rfl rfl fl_X10_18 rfl rfl (ok_iload 26 rfl rfl rfl (ok_iald 27 rfl rfl rfl (by first | omega | (simp [up_if]; omega) | (simp [up_if] at *; omega)) (ok_idiv 28 rfl rfl (by first | omega | (simp [up_if]; omega) | (simp [up_if] at *; omega)) (by first | omega | (simp [up_if]; omega) | (simp [up_if] at *; omega)) (ok_i2l 29 rfl rfl (ok_lmul 30 rfl rfl (by first | omega | (simp [up_if]; omega) | (simp [up_if] at *; omega)) (ok_ldc2 31 (99999999) rfl rfl kc_X10_119 (by decide) (ok_lcmp_le 32 33 56 rfl rfl rfl rfl rfl (fun h50 => ?_) (fun h50 => ?_)))))))))))))))))))))
      · refine ok_inc3 36 rfl rfl rfl (by first | omega | (simp [up_if]; omega) | (simp [up_if] at *; omega)) (ok_goto 37 12 rfl rfl rfl ?_)
        exact ok_fg [some (vr 10), some (vi b), some (vi i), some (vi (j + 1)), none] ⟨rfl, rfl, rfl, rfl, trivial⟩ (ih2 (j + 1) ⟨by omega, by omega, lt_ext hw (by omega)⟩ (by omega))
      · refine ok_iconst 34 rfl rfl (by decide) (ok_zret 35 rfl rfl rfl (by first | omega | (simp [up_if]; omega) | (simp [up_if] at *; omega)) ?_)
        exact ⟨_, rfl, rfl, Or.inl rfl⟩
end
section
def evT (σ : eS) (t : Nat) : Prop := 0 < σ t 1 ∧ 0 < rowT σ t 0 ∧ (∀ k, 0 ≤ k → k < σ t 1 → rowT σ t k = rowT σ t 0) ∧ ∀ k, 0 ≤ k → k < σ t 1 → colT σ t k = rowT σ t 0
def mT (σ : eS) (t : Nat) : Prop := (σ t 3 = -1 ∧ ¬ evT σ t) ∨ (evT σ t ∧ σ t 3 = rowT σ t 0)
theorem iT_cg {σ τ : eS} {t : Nat} (h : iT σ t) (e1 : τ t 1 = σ t 1) (e2 : τ t 2 = σ t 2) (e : ∀ k, τ (t + 4) k = σ (t + 4) k) : iT τ t ∧ rowT τ t = rowT σ t ∧ colT τ t = colT σ t := by
  refine ⟨?_, ?_, ?_⟩
  · unfold iT
    rw [e1, e2]
    exact ⟨h.1, h.2.1, h.2.2.1, fun k a b => by rw [e]; exact h.2.2.2 k a b⟩
  · funext i; unfold rowT cT; simp only [e1, e]
  · funext i; unfold colT cT; simp only [e1, e]
abbrev rgT1 (t : Nat) : Nat → Int → Prop := fun c k => c = t ∧ (k = 1 ∨ k = 2 ∨ k = 3 ∨ k = 4 ∨ k = 6)
theorem s_Ta_settle {σ : eS} {t : Nat} {n b : Int} (ht : tA t) (hn : 0 ≤ n ∧ n ≤ 8) (hb : b ≤ 999999) (hc : ∀ k : Int, 0 ≤ k → k < 64 → 0 ≤ σ (t + 4) k ∧ σ (t + 4) k ≤ 99999999) : MtV shA M_Ta_settle [vr t, vi n, vi b] σ (fun σ' => fr (rgT1 t) σ σ' ∧ iT σ' t ∧ mT σ' t ∧ σ' t 1 = n ∧ σ' t 2 = max 1 b ∧ σ' t 4 = 0 ∧ σ' t 6 = 0) := by
  refine Mt.of okM_Ta_settle (Nat.le_of_ble_eq_true rfl) (fun hk hg => ?_)
  obtain ⟨τ, eτ⟩ : ∃ τ, τ = up (up (up (up σ t 1 n) t 2 (max 1 b)) t 4 0) t 6 0 := ⟨_, rfl⟩
  have f : fr (rgT1 t) σ τ := by rw [eτ]; exact fr_up (fr_up (fr_up (fr_up fr.rf (by simp [rgT1])) (by simp [rgT1])) (by simp [rgT1])) (by simp [rgT1])
  have e1 : τ t 1 = n := by rw [eτ]; simp [up_if]
  have e2 : τ t 2 = max 1 b := by rw [eτ]; simp [up_if]
  have e4 : τ t 4 = 0 := by rw [eτ]; simp [up_if]
  have e6 : τ t 6 = 0 := by rw [eτ]; simp [up_if]
  have ec : ∀ k, τ (t + 4) k = σ (t + 4) k := fun k => f (t + 4) k (by simp only [rgT1]; omega)
  have hT : iT τ t := ⟨by omega, by omega, fun _ => by omega, fun k a b => by rw [ec]; exact hc k a b⟩
  have fin : ∀ v : Int, ((v = -1 ∧ ¬ evT τ t) ∨ (evT τ t ∧ v = rowT τ t 0)) → fr (rgT1 t) σ (up τ t 3 v) ∧ iT (up τ t 3 v) t ∧ mT (up τ t 3 v) t ∧ up τ t 3 v t 1 = n ∧ up τ t 3 v t 2 = max 1 b ∧ up τ t 3 v t 4 = 0 ∧ up τ t 3 v t 6 = 0 := fun v hv => by
    have x : ∀ k, k ≠ 3 → up τ t 3 v t k = τ t k := fun k q => up_nk _ _ _ _ q
    obtain ⟨y1, y2, y3⟩ := iT_cg (τ := up τ t 3 v) hT (x 1 (by decide)) (x 2 (by decide)) (fun k => up_ne _ _ _ _ (by omega))
    refine ⟨fr_up f (by simp [rgT1]), y1, ?_, by rw [x 1 (by decide)]; exact e1, by rw [x 2 (by decide)]; exact e2, by rw [x 4 (by decide)]; exact e4, by rw [x 6 (by decide)]; exact e6⟩
    unfold mT evT
    rw [y2, y3, up_same, x 1 (by decide)]
    exact hv
  refine ok_aload_n 0 rfl rfl rfl (ok_iload_n 1 rfl rfl rfl (ok_putI 2 rfl rfl fl_X9_15 (sT ht) rfl rfl rfl (ok_aload_n 3 rfl rfl rfl (ok_iconst 4 rfl rfl (by decide) (ok_iload_n 5 rfl rfl rfl (ok_mmax 6 rfl rfl ml_X9_42 ⟨Nat.le_of_ble_eq_true rfl, Nat.le_of_ble_eq_true rfl⟩ (ok_putI 7 rfl rfl fl_X9_19 (sT ht) rfl rfl rfl (ok_aload_n 8 rfl rfl rfl (ok_iconst 9 rfl rfl (by decide) (ok_putZ 10 rfl rfl fl_X9_25 (sT ht) rfl rfl rfl (by first | omega | (simp [up_if]; omega) | (simp [up_if] at *; omega)) (ok_aload_n 11 rfl rfl rfl (ok_iconst 12 rfl rfl (by decide) (ok_putZ 13 rfl rfl fl_X9_33 (sT ht) rfl rfl rfl (by first | omega | (simp [up_if]; omega) | (simp [up_if] at *; omega)) ?_)))))))))))))
  rw [← eτ]
  refine ok_aload_n 14 rfl rfl rfl (ok_getI 15 rfl rfl fl_X9_15 (sT ht) rfl (Or.inl rfl) (ok_if_le 16 51 rfl rfl rfl (fun h28 => ?_) (fun h28 => ?_)))
  · refine ok_iconst 27 rfl rfl (by decide) (ok_ist3 28 rfl rfl rfl (ok_aload_n 29 rfl rfl rfl (ok_iload_n 30 rfl rfl rfl (ok_if_eq 31 66 rfl rfl rfl (fun h55 => ?_) (fun h55 => ?_)))))
    · refine ok_iconst 36 rfl rfl (by decide) (ok_putI 37 rfl rfl fl_X9_22 (sT ht) rfl rfl rfl (ok_vret 38 rfl rfl rfl ?_))
      first
        | exact ⟨rfl, fin _ (Or.inl ⟨rfl, fun q => by have := q.1; omega⟩)⟩
        | exact ⟨rfl, fin _ (Or.inl ⟨rfl, fun q => by have := hm.mpr ⟨q.2.2.1, q.2.2.2⟩; omega⟩)⟩
        | exact ⟨rfl, fin _ (Or.inl ⟨rfl, fun q => by have := q.2.1; omega⟩)⟩
        | (exfalso; omega)
        | exact ⟨rfl, fin _ (Or.inr ⟨⟨by omega, by omega, (hm.mp (by omega)).1, (hm.mp (by omega)).2⟩, rfl⟩)⟩
    · refine ok_aload_n 32 rfl rfl rfl (ok_iconst 33 rfl rfl (by decide) (ok_callVI (M' := M_Ta_sumOfRow) (as := [_]) 34 rfl rfl ml_X9_52 (s_Ta_sumOfRow ht hT ⟨by omega, by omega⟩) (sT ht) rfl (Nat.le_of_ble_eq_true rfl) ⟨Nat.le_of_ble_eq_true rfl, Nat.le_of_ble_eq_true rfl⟩ rfl (Nat.le_of_ble_eq_true rfl) (fun σ' z hz => ?_)))
      rw [hz.1, hz.2]
      clear hz z σ'
      refine ok_goto 35 67 rfl rfl rfl (ok_putI 37 rfl rfl fl_X9_22 (sT ht) rfl rfl rfl (ok_vret 38 rfl rfl rfl ?_))
      first
        | exact ⟨rfl, fin _ (Or.inl ⟨rfl, fun q => by have := q.1; omega⟩)⟩
        | exact ⟨rfl, fin _ (Or.inl ⟨rfl, fun q => by have := hm.mpr ⟨q.2.2.1, q.2.2.2⟩; omega⟩)⟩
        | exact ⟨rfl, fin _ (Or.inl ⟨rfl, fun q => by have := q.2.1; omega⟩)⟩
        | (exfalso; omega)
        | exact ⟨rfl, fin _ (Or.inr ⟨⟨by omega, by omega, (hm.mp (by omega)).1, (hm.mp (by omega)).2⟩, rfl⟩)⟩
  · refine ok_aload_n 17 rfl rfl rfl (ok_callVI (M' := M_Ta_firstUneven) (as := []) 18 rfl rfl ml_X9_48 (s_Ta_firstUneven ht hT) (sT ht) rfl (Nat.le_of_ble_eq_true rfl) ⟨Nat.le_of_ble_eq_true rfl, Nat.le_of_ble_eq_true rfl⟩ rfl (Nat.le_of_ble_eq_true rfl) (fun σ' z hz => ?_))
    obtain ⟨hs_, hz⟩ := hz
    rw [hs_]; clear hs_ σ'
    have hm := unev_m1 hz
    refine ok_iconst 19 rfl rfl (by decide) (ok_icmp_ne 20 51 rfl rfl rfl (fun h36 => ?_) (fun h36 => ?_))
    · refine ok_iconst 27 rfl rfl (by decide) (ok_ist3 28 rfl rfl rfl (ok_aload_n 29 rfl rfl rfl (ok_iload_n 30 rfl rfl rfl (ok_if_eq 31 66 rfl rfl rfl (fun h55 => ?_) (fun h55 => ?_)))))
      · refine ok_iconst 36 rfl rfl (by decide) (ok_putI 37 rfl rfl fl_X9_22 (sT ht) rfl rfl rfl (ok_vret 38 rfl rfl rfl ?_))
        first
          | exact ⟨rfl, fin _ (Or.inl ⟨rfl, fun q => by have := q.1; omega⟩)⟩
          | exact ⟨rfl, fin _ (Or.inl ⟨rfl, fun q => by have := hm.mpr ⟨q.2.2.1, q.2.2.2⟩; omega⟩)⟩
          | exact ⟨rfl, fin _ (Or.inl ⟨rfl, fun q => by have := q.2.1; omega⟩)⟩
          | (exfalso; omega)
          | exact ⟨rfl, fin _ (Or.inr ⟨⟨by omega, by omega, (hm.mp (by omega)).1, (hm.mp (by omega)).2⟩, rfl⟩)⟩
      · refine ok_aload_n 32 rfl rfl rfl (ok_iconst 33 rfl rfl (by decide) (ok_callVI (M' := M_Ta_sumOfRow) (as := [_]) 34 rfl rfl ml_X9_52 (s_Ta_sumOfRow ht hT ⟨by omega, by omega⟩) (sT ht) rfl (Nat.le_of_ble_eq_true rfl) ⟨Nat.le_of_ble_eq_true rfl, Nat.le_of_ble_eq_true rfl⟩ rfl (Nat.le_of_ble_eq_true rfl) (fun σ' z hz => ?_)))
        rw [hz.1, hz.2]
        clear hz z σ'
        refine ok_goto 35 67 rfl rfl rfl (ok_putI 37 rfl rfl fl_X9_22 (sT ht) rfl rfl rfl (ok_vret 38 rfl rfl rfl ?_))
        first
          | exact ⟨rfl, fin _ (Or.inl ⟨rfl, fun q => by have := q.1; omega⟩)⟩
          | exact ⟨rfl, fin _ (Or.inl ⟨rfl, fun q => by have := hm.mpr ⟨q.2.2.1, q.2.2.2⟩; omega⟩)⟩
          | exact ⟨rfl, fin _ (Or.inl ⟨rfl, fun q => by have := q.2.1; omega⟩)⟩
          | (exfalso; omega)
          | exact ⟨rfl, fin _ (Or.inr ⟨⟨by omega, by omega, (hm.mp (by omega)).1, (hm.mp (by omega)).2⟩, rfl⟩)⟩
    · refine ok_aload_n 21 rfl rfl rfl (ok_iconst 22 rfl rfl (by decide) (ok_callVI (M' := M_Ta_sumOfRow) (as := [_]) 23 rfl rfl ml_X9_52 (s_Ta_sumOfRow ht hT ⟨by omega, by omega⟩) (sT ht) rfl (Nat.le_of_ble_eq_true rfl) ⟨Nat.le_of_ble_eq_true rfl, Nat.le_of_ble_eq_true rfl⟩ rfl (Nat.le_of_ble_eq_true rfl) (fun σ' z hz => ?_)))
      rw [hz.1, hz.2]
      clear hz z σ'
      refine ok_if_le 24 51 rfl rfl rfl (fun h44 => ?_) (fun h44 => ?_)
      · refine ok_iconst 27 rfl rfl (by decide) (ok_ist3 28 rfl rfl rfl (ok_aload_n 29 rfl rfl rfl (ok_iload_n 30 rfl rfl rfl (ok_if_eq 31 66 rfl rfl rfl (fun h55 => ?_) (fun h55 => ?_)))))
        · refine ok_iconst 36 rfl rfl (by decide) (ok_putI 37 rfl rfl fl_X9_22 (sT ht) rfl rfl rfl (ok_vret 38 rfl rfl rfl ?_))
          first
            | exact ⟨rfl, fin _ (Or.inl ⟨rfl, fun q => by have := q.1; omega⟩)⟩
            | exact ⟨rfl, fin _ (Or.inl ⟨rfl, fun q => by have := hm.mpr ⟨q.2.2.1, q.2.2.2⟩; omega⟩)⟩
            | exact ⟨rfl, fin _ (Or.inl ⟨rfl, fun q => by have := q.2.1; omega⟩)⟩
            | (exfalso; omega)
            | exact ⟨rfl, fin _ (Or.inr ⟨⟨by omega, by omega, (hm.mp (by omega)).1, (hm.mp (by omega)).2⟩, rfl⟩)⟩
        · refine ok_aload_n 32 rfl rfl rfl (ok_iconst 33 rfl rfl (by decide) (ok_callVI (M' := M_Ta_sumOfRow) (as := [_]) 34 rfl rfl ml_X9_52 (s_Ta_sumOfRow ht hT ⟨by omega, by omega⟩) (sT ht) rfl (Nat.le_of_ble_eq_true rfl) ⟨Nat.le_of_ble_eq_true rfl, Nat.le_of_ble_eq_true rfl⟩ rfl (Nat.le_of_ble_eq_true rfl) (fun σ' z hz => ?_)))
          rw [hz.1, hz.2]
          clear hz z σ'
          refine ok_goto 35 67 rfl rfl rfl (ok_putI 37 rfl rfl fl_X9_22 (sT ht) rfl rfl rfl (ok_vret 38 rfl rfl rfl ?_))
          first
            | exact ⟨rfl, fin _ (Or.inl ⟨rfl, fun q => by have := q.1; omega⟩)⟩
            | exact ⟨rfl, fin _ (Or.inl ⟨rfl, fun q => by have := hm.mpr ⟨q.2.2.1, q.2.2.2⟩; omega⟩)⟩
            | exact ⟨rfl, fin _ (Or.inl ⟨rfl, fun q => by have := q.2.1; omega⟩)⟩
            | (exfalso; omega)
            | exact ⟨rfl, fin _ (Or.inr ⟨⟨by omega, by omega, (hm.mp (by omega)).1, (hm.mp (by omega)).2⟩, rfl⟩)⟩
      · refine ok_iconst 25 rfl rfl (by decide) (ok_goto 26 52 rfl rfl rfl (ok_ist3 28 rfl rfl rfl (ok_aload_n 29 rfl rfl rfl (ok_iload_n 30 rfl rfl rfl (ok_if_eq 31 66 rfl rfl rfl (fun h55 => ?_) (fun h55 => ?_))))))
        · refine ok_iconst 36 rfl rfl (by decide) (ok_putI 37 rfl rfl fl_X9_22 (sT ht) rfl rfl rfl (ok_vret 38 rfl rfl rfl ?_))
          first
            | exact ⟨rfl, fin _ (Or.inl ⟨rfl, fun q => by have := q.1; omega⟩)⟩
            | exact ⟨rfl, fin _ (Or.inl ⟨rfl, fun q => by have := hm.mpr ⟨q.2.2.1, q.2.2.2⟩; omega⟩)⟩
            | exact ⟨rfl, fin _ (Or.inl ⟨rfl, fun q => by have := q.2.1; omega⟩)⟩
            | (exfalso; omega)
            | exact ⟨rfl, fin _ (Or.inr ⟨⟨by omega, by omega, (hm.mp (by omega)).1, (hm.mp (by omega)).2⟩, rfl⟩)⟩
        · refine ok_aload_n 32 rfl rfl rfl (ok_iconst 33 rfl rfl (by decide) (ok_callVI (M' := M_Ta_sumOfRow) (as := [_]) 34 rfl rfl ml_X9_52 (s_Ta_sumOfRow ht hT ⟨by omega, by omega⟩) (sT ht) rfl (Nat.le_of_ble_eq_true rfl) ⟨Nat.le_of_ble_eq_true rfl, Nat.le_of_ble_eq_true rfl⟩ rfl (Nat.le_of_ble_eq_true rfl) (fun σ' z hz => ?_)))
          rw [hz.1, hz.2]
          clear hz z σ'
          refine ok_goto 35 67 rfl rfl rfl (ok_putI 37 rfl rfl fl_X9_22 (sT ht) rfl rfl rfl (ok_vret 38 rfl rfl rfl ?_))
          first
            | exact ⟨rfl, fin _ (Or.inl ⟨rfl, fun q => by have := q.1; omega⟩)⟩
            | exact ⟨rfl, fin _ (Or.inl ⟨rfl, fun q => by have := hm.mpr ⟨q.2.2.1, q.2.2.2⟩; omega⟩)⟩
            | exact ⟨rfl, fin _ (Or.inl ⟨rfl, fun q => by have := q.2.1; omega⟩)⟩
            | (exfalso; omega)
            | exact ⟨rfl, fin _ (Or.inr ⟨⟨by omega, by omega, (hm.mp (by omega)).1, (hm.mp (by omega)).2⟩, rfl⟩)⟩
end
section
abbrev rgFi (t : Nat) : Nat → Int → Prop := fun c k => (c = 10 ∧ (k = 4 ∨ k = 5)) ∨ (c = t ∧ (k = 1 ∨ k = 2 ∨ k = 3 ∨ k = 4 ∨ k = 6)) ∨ c = t + 4
theorem mT_cg {σ τ : eS} {t : Nat} (h : mT σ t) (e1 : τ t 1 = σ t 1) (e3 : τ t 3 = σ t 3) (e : ∀ k, τ (t + 4) k = σ (t + 4) k) : mT τ t := by
  have r : rowT τ t = rowT σ t := by funext i; unfold rowT cT; simp only [e1, e]
  have c : colT τ t = colT σ t := by funext i; unfold colT cT; simp only [e1, e]
  unfold mT evT
  rw [r, c, e1, e3]
  exact h
theorem tA_10 {t : Nat} (h : tA t) : t ≠ 10 ∧ t + 4 ≠ 10 ∧ t ≠ 11 ∧ t ≠ 12 ∧ t ≠ 13 ∧ t + 4 ≠ 11 ∧ t + 4 ≠ 12 ∧ t + 4 ≠ 13 ∧ t ≤ 5 ∧ 2 ≤ t := by
  unfold tA at h
  omega
theorem s_Tp_fill {σ : eS} {t : Nat} (ht : tA t) (h : RA σ) (hw : σ 10 4 = 0 → σ 10 7 = σ 10 9) (hT : iT σ t) (hM : mT σ t) : MtV shA M_Tp_fill [vr 10, vr t] σ (fun σ' => fr (rgFi t) σ σ' ∧ iT σ' t ∧ mT σ' t) := by
  refine Mt.of okM_Tp_fill (Nat.le_of_ble_eq_true rfl) (fun hk hg => ?_)
  obtain ⟨n1, n2, n3, n4, n5, n6, n7, n8, n9, nA⟩ := tA_10 ht
  obtain ⟨p0, p1, p2, p3, p4, p5, p6, p7, p8, p9⟩ := id h
  refine ok_aload_n 0 rfl rfl rfl (ok_getI 1 rfl rfl fl_X10_25 rfl rfl (Or.inl rfl) (ok_if_eq 2 8 rfl rfl rfl (fun h4 => ?_) (fun h4 => ?_)))
  · have hr : uRA σ := ⟨p1, p2, fun i j a b c d => p7 i j a b c (by have := hw (by omega); omega)⟩
    refine ok_aload_n 4 rfl rfl rfl (ok_callVI (M' := M_Tp_commonBelow) (as := []) 5 rfl rfl ml_X10_101 (s_Tp_commonBelow hr) rfl rfl (Nat.le_of_ble_eq_true rfl) ⟨Nat.le_of_ble_eq_true rfl, Nat.le_of_ble_eq_true rfl⟩ rfl (Nat.le_of_ble_eq_true rfl) (fun σ' b hb => ?_))
    obtain ⟨hs_, hb⟩ := hb
    rw [hs_]; clear hs_ σ'
    refine ok_ist2 6 rfl rfl rfl (ok_iload_n 7 rfl rfl rfl (ok_iconst 8 rfl rfl (by decide) (ok_icmp_eq 9 26 rfl rfl rfl (fun h15 => ?_) (fun h15 => ?_))))
    · clear hb
      refine ok_aload_n 14 rfl rfl rfl (ok_bipush 15 rfl rfl (by decide) (by decide) (ok_aload_n 16 rfl rfl rfl (ok_getI 17 rfl rfl fl_X10_21 rfl rfl (Or.inl rfl) (ok_callVV (M' := M_Tp_fail) (as := [_, _]) 18 rfl rfl ml_X10_75 (s_Tp_fail) rfl rfl (Nat.le_of_ble_eq_true rfl) ⟨Nat.le_of_ble_eq_true rfl, Nat.le_of_ble_eq_true rfl⟩ rfl (Nat.le_of_ble_eq_true rfl) (fun σ' hz => ?_)))))
      rw [hz]
      clear hz σ'
      refine ok_vret 19 rfl rfl rfl ?_
      exact ⟨rfl, fr_up (fr_up fr.rf (by simp [rgFi])) (by simp [rgFi]), (iT_cg hT (by rw [up_ne _ _ _ _ n1, up_ne _ _ _ _ n1]) (by rw [up_ne _ _ _ _ n1, up_ne _ _ _ _ n1]) (fun k => by rw [up_ne _ _ _ _ n2, up_ne _ _ _ _ n2])).1, mT_cg hM (by rw [up_ne _ _ _ _ n1, up_ne _ _ _ _ n1]) (by rw [up_ne _ _ _ _ n1, up_ne _ _ _ _ n1]) (fun k => by rw [up_ne _ _ _ _ n2, up_ne _ _ _ _ n2])⟩
    · have hb1 : 1 ≤ b ∧ b ≤ 999999 := by omega
      refine ok_aload_n 10 rfl rfl rfl (ok_iload_n 11 rfl rfl rfl (ok_callVI (M' := M_Tp_areCells) (as := [_]) 12 rfl rfl ml_X10_104 (s_Tp_areCells hr hb1) rfl rfl (Nat.le_of_ble_eq_true rfl) ⟨Nat.le_of_ble_eq_true rfl, Nat.le_of_ble_eq_true rfl⟩ rfl (Nat.le_of_ble_eq_true rfl) (fun σ' z hz => ?_)))
      obtain ⟨hs_, hz⟩ := hz
      rw [hs_]; clear hs_ σ'
      refine ok_if_ne 13 37 rfl rfl rfl (fun h23 => ?_) (fun h23 => ?_)
      · refine ok_iconst 20 rfl rfl (by decide) (ok_ist3 21 rfl rfl rfl ?_)
        have hm : ∀ i j, 0 ≤ i → i < σ 10 7 → 0 ≤ j → j < σ 10 7 → σ 12 (i * 8 + j) * (b / σ 13 (i * 8 + j)) ≤ 99999999 := by
          rcases hz with q | q
          · exact absurd q h23
          · exact q.2
        clear hz hb
        refine lpO2 (fun (i : Int) (_ : eS) => [some (vr 10), some (vr t), some (vi b), some (vi i), none, none]) (fun _ ρ => ρ) (fun i ρ => 0 ≤ i ∧ i ≤ σ 10 7 ∧ fr (fun c _ => c = t + 4) σ ρ ∧ ∀ k, 0 ≤ k → k < 64 → 0 ≤ ρ (t + 4) k ∧ ρ (t + 4) k ≤ 99999999) (fun i _ => (8 - i).toNat) ?_ 0 σ ⟨by omega, by omega, fr.rf, hT.2.2.2⟩
        rintro i ρ ⟨i1, i2, f, hc⟩ ih
        have e7 : ρ 10 7 = σ 10 7 := f 10 7 (by omega)
        refine ok_iload_n 22 rfl rfl rfl (ok_aload_n 23 rfl rfl rfl (ok_getI 24 rfl rfl fl_X10_34 rfl rfl (Or.inl rfl) (ok_icmp_ge 25 104 rfl rfl rfl (fun h44 => ?_) (fun h44 => ?_))))
        · refine ok_aload_n 57 rfl rfl rfl (ok_aload_n 58 rfl rfl rfl (ok_getI 59 rfl rfl fl_X10_34 rfl rfl (Or.inl rfl) (ok_iload_n 60 rfl rfl rfl (ok_callVV (M' := M_Ta_settle) (as := [_, _]) 61 rfl rfl ml_X10_110 (s_Ta_settle ht ⟨by omega, by omega⟩ (by omega) hc) (sT ht) rfl (Nat.le_of_ble_eq_true rfl) ⟨Nat.le_of_ble_eq_true rfl, Nat.le_of_ble_eq_true rfl⟩ rfl (Nat.le_of_ble_eq_true rfl) (fun τ hz => ?_)))))
          refine ok_vret 62 rfl rfl rfl ?_
          exact ⟨rfl, (f.mono (fun c k q => by simp only [rgFi]; omega)).tr (hz.1.mono (fun c k q => by simp only [rgT1, rgFi] at q ⊢; omega)), hz.2.1, hz.2.2.1⟩
        · refine ok_iconst 26 rfl rfl (by decide) (ok_ist4 27 rfl rfl rfl ?_)
          refine lpO2 (fun (j : Int) (_ : eS) => [some (vr 10), some (vr t), some (vi b), some (vi i), some (vi j), none]) (fun _ ρ => ρ) (fun j ρ => 0 ≤ j ∧ j ≤ σ 10 7 ∧ fr (fun c _ => c = t + 4) σ ρ ∧ ∀ k, 0 ≤ k → k < 64 → 0 ≤ ρ (t + 4) k ∧ ρ (t + 4) k ≤ 99999999) (fun j _ => (8 - j).toNat) ?_ 0 ρ ⟨by omega, by omega, f, hc⟩
          have il : i < σ 10 7 := by omega
          clear f hc e7 h44 ρ
          rintro j ρ ⟨j1, j2, f, hc⟩ ih2
          have e7 : ρ 10 7 = σ 10 7 := f 10 7 (by omega)
          have e12 : ∀ k, ρ 12 k = σ 12 k := fun k => f 12 k (by omega)
          have e13 : ∀ k, ρ 13 k = σ 13 k := fun k => f 13 k (by omega)
          refine ok_iload 28 rfl rfl rfl (ok_aload_n 29 rfl rfl rfl (ok_getI 30 rfl rfl fl_X10_34 rfl rfl (Or.inl rfl) (ok_icmp_ge 31 98 rfl rfl rfl (fun h56 => ?_) (fun h56 => ?_))))
          · refine ok_inc3 55 rfl rfl rfl (by first | omega | (simp [up_if]; omega) | (simp [up_if] at *; omega)) (ok_goto 56 39 rfl rfl rfl ?_)
            exact ok_fg [some (vr 10), some (vr t), some (vi b), some (vi (i + 1)), none, none] ⟨rfl, rfl, rfl, rfl, trivial⟩ (ih (i + 1) ρ ⟨by omega, by omega, f, hc⟩ (by omega))
          · obtain ⟨u1, u2, u3, u4⟩ := hr.2.2 i j i1 il j1 (by omega)
            have d := div_bd (u := b) (g := σ 13 (i * 8 + j)) (B := 999999) ⟨by omega, by omega⟩ u1
            have m0 := Int.mul_nonneg u3 d.1
            have m1 := hm i j i1 il j1 (by omega)
            rw [← e12, ← e13] at m0 m1
            rw [← e13] at u1 u2 d
            refine ok_iload_n 32 rfl rfl rfl (ok_bipush 33 rfl rfl (by decide) (by decide) (ok_imul 34 rfl rfl (by first | omega | (simp [up_if]; omega) | (simp [up_if] at *; omega)) (ok_iload 35 rfl rfl rfl (ok_iadd 36 rfl rfl (by first | omega | (simp [up_if]; omega) | (simp [up_if] at *; omega)) (ok_ist5 37 rfl rfl rfl (ok_aload_n 38 rfl rfl rfl (ok_getR 39 rfl rfl fl_X10_107 (sT ht) rfl (ok_iload 40 rfl rfl rfl (ok_aload_n 41 rfl rfl rfl (ok_getR 42 rfl rfl fl_X10_15 rfl rfl (ok_iload 43 rfl rfl rfl (ok_iald 44 rfl rfl rfl (by first | omega | (simp [up_if]; omega) | (simp [up_if] at *; omega)) (ok_iload_n 45 rfl rfl rfl (ok_aload_n 46 rfl rfl rfl (ok_getR 47 rfl rfl fl_X10_18 rfl rfl (ok_iload 48 rfl rfl rfl (ok_iald 49 rfl rfl rfl (by first | omega | (simp [up_if]; omega) | (simp [up_if] at *; omega)) (ok_idiv 50 rfl rfl (by first | omega | (simp [up_if]; omega) | (simp [up_if] at *; omega)) (by first | omega | (simp [up_if]; omega) | (simp [up_if] at *; omega)) (ok_imul 51 rfl rfl (by first | omega | (simp [up_if]; omega) | (simp [up_if] at *; omega)) (ok_iast 52 rfl rfl (sC ht) (by first | omega | (simp [up_if]; omega) | (simp [up_if] at *; omega)) (ok_inc4 53 rfl rfl rfl (by first | omega | (simp [up_if]; omega) | (simp [up_if] at *; omega)) (ok_goto 54 50 rfl rfl rfl ?_))))))))))))))))))))))
            refine ok_fg [some (vr 10), some (vr t), some (vi b), some (vi i), some (vi (j + 1)), none] ⟨rfl, rfl, rfl, rfl, rfl, trivial⟩ (ih2 (j + 1) _ ⟨by omega, by omega, fr_up f rfl, fun k a c => ?_⟩ (by omega))
            rw [up_if]
            by_cases q : k = i * 8 + j
            · rw [if_pos ⟨rfl, q⟩]; exact ⟨m0, m1⟩
            · rw [if_neg (fun y => q y.2)]; exact hc k a c
      · refine ok_aload_n 14 rfl rfl rfl (ok_bipush 15 rfl rfl (by decide) (by decide) (ok_aload_n 16 rfl rfl rfl (ok_getI 17 rfl rfl fl_X10_21 rfl rfl (Or.inl rfl) (ok_callVV (M' := M_Tp_fail) (as := [_, _]) 18 rfl rfl ml_X10_75 (s_Tp_fail) rfl rfl (Nat.le_of_ble_eq_true rfl) ⟨Nat.le_of_ble_eq_true rfl, Nat.le_of_ble_eq_true rfl⟩ rfl (Nat.le_of_ble_eq_true rfl) (fun σ' hz => ?_)))))
        rw [hz]
        clear hz σ'
        refine ok_vret 19 rfl rfl rfl ?_
        exact ⟨rfl, fr_up (fr_up fr.rf (by simp [rgFi])) (by simp [rgFi]), (iT_cg hT (by rw [up_ne _ _ _ _ n1, up_ne _ _ _ _ n1]) (by rw [up_ne _ _ _ _ n1, up_ne _ _ _ _ n1]) (fun k => by rw [up_ne _ _ _ _ n2, up_ne _ _ _ _ n2])).1, mT_cg hM (by rw [up_ne _ _ _ _ n1, up_ne _ _ _ _ n1]) (by rw [up_ne _ _ _ _ n1, up_ne _ _ _ _ n1]) (fun k => by rw [up_ne _ _ _ _ n2, up_ne _ _ _ _ n2])⟩
  · refine ok_vret 3 rfl rfl rfl ?_
    exact ⟨rfl, fr.rf, hT, hM⟩
end
section
abbrev rgRI (t : Nat) : Nat → Int → Prop := fun c k => (c = 10 ∧ 3 ≤ k ∧ k ≤ 9) ∨ c = 12 ∨ c = 13 ∨ (c = t ∧ (k = 1 ∨ k = 2 ∨ k = 3 ∨ k = 4 ∨ k = 6)) ∨ c = t + 4
theorem s_Tp_readInto {σ : eS} {t : Nat} (ht : tA t) (h : tL σ) (hT : iT σ t) (hM : mT σ t) : MtI shA M_Tp_readInto [vr 10, vr t] σ (fun σ' _ => fr (rgRI t) σ σ' ∧ iT σ' t ∧ mT σ' t ∧ σ' 10 3 = 0) := by
  refine Mt.of okM_Tp_readInto (Nat.le_of_ble_eq_true rfl) (fun hk hg => ?_)
  obtain ⟨n1, n2, n3, n4, n5, n6, n7, n8, n9, nA⟩ := tA_10 ht
  have h1 := h.1
  have h2 := h.2
  obtain ⟨τ, eτ⟩ : ∃ τ, τ = up (up (up (up (up (up σ 10 4 0) 10 5 (-1)) 10 6 0) 10 7 0) 10 8 0) 10 9 0 := ⟨_, rfl⟩
  have f : fr rgJ σ τ := by rw [eτ]; exact fr_up (fr_up (fr_up (fr_up (fr_up (fr_up fr.rf (by simp [rgJ])) (by simp [rgJ])) (by simp [rgJ])) (by simp [rgJ])) (by simp [rgJ])) (by simp [rgJ])
  have e6 : τ 10 6 = 0 := by rw [eτ]; simp [up_if]
  have e7 : τ 10 7 = 0 := by rw [eτ]; simp [up_if]
  have e8 : τ 10 8 = 0 := by rw [eτ]; simp [up_if]
  have e9 : τ 10 9 = 0 := by rw [eτ]; simp [up_if]
  have e3 : τ 10 3 = σ 10 3 := f 10 3 (by simp [rgJ])
  have hR : RA τ := ⟨⟨by omega, by omega, by omega, by omega⟩, by omega, by omega, by omega, by omega, by omega, by omega, fun i j a b => by omega, fun j a b c => by omega, by omega⟩
  refine ok_aload_n 0 rfl rfl rfl (ok_iconst 1 rfl rfl (by decide) (ok_putI 2 rfl rfl fl_X10_25 rfl rfl rfl rfl (ok_aload_n 3 rfl rfl rfl (ok_iconst 4 rfl rfl (by decide) (ok_putI 5 rfl rfl fl_X10_28 rfl rfl rfl rfl (ok_aload_n 6 rfl rfl rfl (ok_iconst 7 rfl rfl (by decide) (ok_putI 8 rfl rfl fl_X10_31 rfl rfl rfl rfl (ok_aload_n 9 rfl rfl rfl (ok_iconst 10 rfl rfl (by decide) (ok_putI 11 rfl rfl fl_X10_34 rfl rfl rfl rfl (ok_aload_n 12 rfl rfl rfl (ok_iconst 13 rfl rfl (by decide) (ok_putI 14 rfl rfl fl_X10_37 rfl rfl rfl rfl (ok_aload_n 15 rfl rfl rfl (ok_iconst 16 rfl rfl (by decide) (ok_putI 17 rfl rfl fl_X10_40 rfl rfl rfl rfl (ok_iconst 18 rfl rfl (by decide) (ok_ist2 19 rfl rfl rfl ?_)))))))))))))))))))
  rw [← eτ]
  refine lpO2 (fun (k : Int) (_ : eS) => [some (vr 10), some (vr t), some (vi k)]) (fun _ ρ => ρ) (fun k ρ => 0 ≤ k ∧ k ≤ 600 ∧ fr rgJ σ ρ ∧ RA ρ) (fun k _ => (600 - k).toNat) ?_ 0 τ ⟨by omega, by omega, f, hR⟩
  clear e3 e9 e8 e7 e6 hR f eτ τ
  rintro k ρ ⟨k1, k2, f, hR⟩ ih
  have tail : Ok shA M_Tp_readInto 67 [some (vr 10), some (vr t), some (vi k)] [] ρ (fun σ' v => ∃ z, v = some (vi z) ∧ fr (rgRI t) σ σ' ∧ iT σ' t ∧ mT σ' t ∧ σ' 10 3 = 0) := by
    clear ih
    refine ok_aload_n 35 rfl rfl rfl (ok_callVV (M' := M_Tp_checkEnd) (as := []) 36 rfl rfl ml_X10_46 (s_Tp_checkEnd hR) rfl rfl (Nat.le_of_ble_eq_true rfl) ⟨Nat.le_of_ble_eq_true rfl, Nat.le_of_ble_eq_true rfl⟩ rfl (Nat.le_of_ble_eq_true rfl) (fun ρ1 z1 => ?_))
    have f1 : fr rgJ σ ρ1 := f.tr z1.1.1
    have x1 : ∀ k, ρ1 (t + 4) k = σ (t + 4) k := fun k => f1 _ _ (by simp only [rgJ]; omega)
    have x2 : ∀ k, ρ1 t k = σ t k := fun k => f1 _ _ (by simp only [rgJ]; omega)
    refine ok_aload_n 37 rfl rfl rfl (ok_aload_n 38 rfl rfl rfl (ok_callVV (M' := M_Tp_fill) (as := [_]) 39 rfl rfl ml_X10_49 (s_Tp_fill ht z1.1.2 z1.2 (iT_cg hT (x2 1) (x2 2) x1).1 (mT_cg hM (x2 1) (x2 3) x1)) rfl rfl (Nat.le_of_ble_eq_true rfl) ⟨Nat.le_of_ble_eq_true rfl, Nat.le_of_ble_eq_true rfl⟩ rfl (Nat.le_of_ble_eq_true rfl) (fun ρ2 z2 => ?_)))
    refine ok_aload_n 40 rfl rfl rfl (ok_iconst 41 rfl rfl (by decide) (ok_putI 42 rfl rfl fl_X10_21 rfl rfl rfl rfl (ok_aload_n 43 rfl rfl rfl (ok_getI 44 rfl rfl fl_X10_25 rfl rfl (Or.inl rfl) (ok_if_ne 45 95 rfl rfl rfl (fun h85 => ?_) (fun h85 => ?_))))))
    · refine ok_iconst 49 rfl rfl (by decide) (ok_iret 50 rfl rfl rfl ?_)
      exact ⟨_, rfl, fr_up ((f1.mono (fun c k q => by simp only [rgJ, rgRI] at q ⊢; omega)).tr (z2.1.mono (fun c k q => by simp only [rgFi, rgRI] at q ⊢; omega))) (by simp [rgRI]), (iT_cg z2.2.1 (up_ne _ _ _ _ n1) (up_ne _ _ _ _ n1) (fun k => up_ne _ _ _ _ n2)).1, mT_cg z2.2.2 (up_ne _ _ _ _ n1) (up_ne _ _ _ _ n1) (fun k => up_ne _ _ _ _ n2), up_same _ _ _ _⟩
    · refine ok_aload_n 46 rfl rfl rfl (ok_getI 47 rfl rfl fl_X10_53 (sT ht) rfl (Or.inl rfl) (ok_goto 48 96 rfl rfl rfl (ok_iret 50 rfl rfl rfl ?_)))
      exact ⟨_, rfl, fr_up ((f1.mono (fun c k q => by simp only [rgJ, rgRI] at q ⊢; omega)).tr (z2.1.mono (fun c k q => by simp only [rgFi, rgRI] at q ⊢; omega))) (by simp [rgRI]), (iT_cg z2.2.1 (up_ne _ _ _ _ n1) (up_ne _ _ _ _ n1) (fun k => up_ne _ _ _ _ n2)).1, mT_cg z2.2.2 (up_ne _ _ _ _ n1) (up_ne _ _ _ _ n1) (fun k => up_ne _ _ _ _ n2), up_same _ _ _ _⟩
  refine ok_iload_n 20 rfl rfl rfl (ok_sipush 21 rfl rfl (by decide) (by decide) (ok_icmp_ge 22 67 rfl rfl rfl (fun h36 => ?_) (fun h36 => ?_)))
  · exact tail
  · refine ok_aload_n 23 rfl rfl rfl (ok_getI 24 rfl rfl fl_X10_31 rfl rfl (Or.inl rfl) (ok_aload_n 25 rfl rfl rfl (ok_getI 26 rfl rfl fl_X10_21 rfl rfl (Or.inl rfl) (ok_icmp_ge 27 67 rfl rfl rfl (fun h47 => ?_) (fun h47 => ?_)))))
    · exact tail
    · refine ok_aload_n 28 rfl rfl rfl (ok_getI 29 rfl rfl fl_X10_25 rfl rfl (Or.inl rfl) (ok_if_ne 30 67 rfl rfl rfl (fun h54 => ?_) (fun h54 => ?_)))
      · exact tail
      · refine ok_aload_n 31 rfl rfl rfl (ok_callVV (M' := M_Tp_readPiece) (as := []) 32 rfl rfl ml_X10_43 (s_Tp_readPiece hR (by omega)) rfl rfl (Nat.le_of_ble_eq_true rfl) ⟨Nat.le_of_ble_eq_true rfl, Nat.le_of_ble_eq_true rfl⟩ rfl (Nat.le_of_ble_eq_true rfl) (fun ρ1 z1 => ?_))
        refine ok_inc2 33 rfl rfl rfl (by first | omega | (simp [up_if]; omega) | (simp [up_if] at *; omega)) (ok_goto 34 32 rfl rfl rfl ?_)
        exact ih (k + 1) ρ1 ⟨by omega, by omega, f.tr z1.1, z1.2⟩ (by omega)
theorem sl_at {s : Int} (h : 0 ≤ s ∧ s < 4) : ([2, 3, 4, 5] : List Nat)[s.toNat]? = some (s.toNat + 2) := by
  rcases (by omega : s = 0 ∨ s = 1 ∨ s = 2 ∨ s = 3) with q | q | q | q <;> subst q <;> rfl
theorem sl_tA {s : Int} (h : 0 ≤ s ∧ s < 4) : tA (s.toNat + 2) := by unfold tA; omega
def SL (s : Int) (z : Option Nat) : Prop := (z = none ∧ ¬ (0 ≤ s ∧ s < 4)) ∨ (0 ≤ s ∧ s < 4 ∧ z = some (s.toNat + 2))
theorem s_Ev_slotAt {σ : eS} {s : Int} : MtR shA M_Ev_slotAt [vr 0, vi s] σ (fun σ' z => σ' = σ ∧ SL s z) := by
  refine Mt.of okM_Ev_slotAt (Nat.le_of_ble_eq_true rfl) (fun hk hg => ?_)
  refine ok_iload_n 0 rfl rfl rfl (ok_if_lt 1 9 rfl rfl rfl (fun h1 => ?_) (fun h1 => ?_))
  · refine ok_null 5 rfl rfl (ok_goto 6 19 rfl rfl rfl (ok_aretN 11 rfl rfl rfl ?_))
    exact ⟨_, rfl, rfl, Or.inl ⟨rfl, by omega⟩⟩
  · refine ok_iload_n 2 rfl rfl rfl (ok_iconst 3 rfl rfl (by decide) (ok_icmp_lt 4 13 rfl rfl rfl (fun h6 => ?_) (fun h6 => ?_)))
    · refine ok_aload_n 7 rfl rfl rfl (ok_getR 8 rfl rfl fl_X11_11 rfl rfl (ok_iload_n 9 rfl rfl rfl (ok_aald 10 (s.toNat + 2) rfl rfl rfl (Or.inl rfl) (by omega) (sl_at (by omega)) (ok_aret 11 rfl rfl rfl ?_))))
      exact ⟨_, rfl, rfl, Or.inr ⟨by omega, by omega, rfl⟩⟩
    · refine ok_null 5 rfl rfl (ok_goto 6 19 rfl rfl rfl (ok_aretN 11 rfl rfl rfl ?_))
      exact ⟨_, rfl, rfl, Or.inl ⟨rfl, by omega⟩⟩
/-- a slot that there is, and what it holds, or null -/
def SF (P : Nat → Prop) (s : Int) (z : Option Nat) : Prop := (z = none ∧ ¬ (0 ≤ s ∧ s < 4 ∧ P (s.toNat + 2))) ∨ (0 ≤ s ∧ s < 4 ∧ z = some (s.toNat + 2) ∧ P (s.toNat + 2))
theorem s_Ev_filledSlot {σ : eS} {s : Int} : MtR shA M_Ev_filledSlot [vr 0, vi s] σ (fun σ' z => σ' = σ ∧ SF (fun t => σ t 1 ≠ 0) s z) := by
  refine Mt.of okM_Ev_filledSlot (Nat.le_of_ble_eq_true rfl) (fun hk hg => ?_)
  refine ok_aload_n 0 rfl rfl rfl (ok_iload_n 1 rfl rfl rfl (ok_callVR (M' := M_Ev_slotAt) (as := [_]) 2 rfl rfl ml_X11_86 (s_Ev_slotAt) rfl rfl (Nat.le_of_ble_eq_true rfl) ⟨Nat.le_of_ble_eq_true rfl, Nat.le_of_ble_eq_true rfl⟩ rfl (Nat.le_of_ble_eq_true rfl) (fun σ' z hz => ?_)))
  obtain ⟨hs_, hz⟩ := hz
  rw [hs_]; clear hs_ σ'
  rcases hz with ⟨q, q2⟩ | ⟨q1, q2, q⟩
  · subst q
    refine ok_ast2 3 rfl rfl rfl (ok_aload_n 4 rfl rfl rfl (ok_ifnullN 5 17 rfl rfl rfl (ok_null 9 rfl rfl (ok_goto 10 22 rfl rfl rfl (ok_aretN 12 rfl rfl rfl ?_)))))
    exact ⟨_, rfl, rfl, Or.inl ⟨rfl, fun w => q2 ⟨w.1, w.2.1⟩⟩⟩
  · subst q
    have ht := sl_tA ⟨q1, q2⟩
    refine ok_ast2 3 rfl rfl rfl (ok_aload_n 4 rfl rfl rfl (ok_ifnull 5 rfl rfl (ok_aload_n 6 rfl rfl rfl (ok_getI 7 rfl rfl fl_X11_103 (sT ht) rfl (Or.inl rfl) (ok_if_ne 8 21 rfl rfl rfl (fun h14 => ?_) (fun h14 => ?_))))))
    · refine ok_aload_n 11 rfl rfl rfl (ok_aret 12 rfl rfl rfl ?_)
      exact ⟨_, rfl, rfl, Or.inr ⟨q1, q2, rfl, h14⟩⟩
    · refine ok_null 9 rfl rfl (ok_goto 10 22 rfl rfl rfl (ok_aretN 12 rfl rfl rfl ?_))
      exact ⟨_, rfl, rfl, Or.inl ⟨rfl, fun w => w.2.2 (by omega)⟩⟩
theorem s_Ev_evenSlot {σ : eS} {s : Int} : MtR shA M_Ev_evenSlot [vr 0, vi s] σ (fun σ' z => σ' = σ ∧ SF (fun t => σ t 3 ≠ -1) s z) := by
  refine Mt.of okM_Ev_evenSlot (Nat.le_of_ble_eq_true rfl) (fun hk hg => ?_)
  refine ok_aload_n 0 rfl rfl rfl (ok_iload_n 1 rfl rfl rfl (ok_callVR (M' := M_Ev_slotAt) (as := [_]) 2 rfl rfl ml_X11_86 (s_Ev_slotAt) rfl rfl (Nat.le_of_ble_eq_true rfl) ⟨Nat.le_of_ble_eq_true rfl, Nat.le_of_ble_eq_true rfl⟩ rfl (Nat.le_of_ble_eq_true rfl) (fun σ' z hz => ?_)))
  obtain ⟨hs_, hz⟩ := hz
  rw [hs_]; clear hs_ σ'
  rcases hz with ⟨q, q2⟩ | ⟨q1, q2, q⟩
  · subst q
    refine ok_ast2 3 rfl rfl rfl (ok_aload_n 4 rfl rfl rfl (ok_ifnullN 5 18 rfl rfl rfl (ok_null 10 rfl rfl (ok_goto 11 23 rfl rfl rfl (ok_aretN 13 rfl rfl rfl ?_)))))
    exact ⟨_, rfl, rfl, Or.inl ⟨rfl, fun w => q2 ⟨w.1, w.2.1⟩⟩⟩
  · subst q
    have ht := sl_tA ⟨q1, q2⟩
    refine ok_ast2 3 rfl rfl rfl (ok_aload_n 4 rfl rfl rfl (ok_ifnull 5 rfl rfl (ok_aload_n 6 rfl rfl rfl (ok_getI 7 rfl rfl fl_X11_109 (sT ht) rfl (Or.inl rfl) (ok_iconst 8 rfl rfl (by decide) (ok_icmp_ne 9 22 rfl rfl rfl (fun h15 => ?_) (fun h15 => ?_)))))))
    · refine ok_aload_n 12 rfl rfl rfl (ok_aret 13 rfl rfl rfl ?_)
      exact ⟨_, rfl, rfl, Or.inr ⟨q1, q2, rfl, h15⟩⟩
    · refine ok_null 10 rfl rfl (ok_goto 11 23 rfl rfl rfl (ok_aretN 13 rfl rfl rfl ?_))
      exact ⟨_, rfl, rfl, Or.inl ⟨rfl, fun w => w.2.2 (by omega)⟩⟩
end
section
/-! counting bits; joins as longs -/
def bc1 (a : Int) : Int := wr (a - iand (iushr a 1) 1431655765)
def bc2 (a : Int) : Int := wr (iand a 858993459 + iand (iushr a 2) 858993459)
def bc3 (a : Int) : Int := iand (wr (a + iushr a 4)) 252645135
def bc4 (a : Int) : Int := wr (a + iushr a 8)
def bc5 (a : Int) : Int := wr (a + iushr a 16)
def bcI (a : Int) : Int := iand (bc5 (bc4 (bc3 (bc2 (bc1 a))))) 63
theorem bc_pc : ∀ s : Fin 256, bcI (s.val : Int) = pc (s.val : Int) := by decide +kernel
theorem bcP {s : Int} (h : 0 ≤ s ∧ s < 256) : bcI s = pc s := fin1 (P := fun s => bcI s = pc s) bc_pc h.1 h.2
theorem s_Ji_bitCount {σ : eS} {a : Int} : MtI shA M_Ji_bitCount [vi a] σ (fun σ' z => σ' = σ ∧ z = bcI a) := by
  refine Mt.of okM_Ji_bitCount (Nat.le_of_ble_eq_true rfl) (fun hk hg => ?_)
  refine ok_iload_n 0 rfl rfl rfl (ok_iload_n 1 rfl rfl rfl (ok_iconst 2 rfl rfl (by decide) (ok_iushr 3 rfl rfl (ok_ldcw 4 (1431655765) rfl rfl kc_J6_265 (by decide) (ok_iand 5 rfl rfl (ok_isubW 6 rfl rfl (ok_ist0 7 rfl rfl (ok_iload_n 8 rfl rfl rfl (ok_ldcw 9 (858993459) rfl rfl kc_J6_266 (by decide) (ok_iand 10 rfl rfl (ok_iload_n 11 rfl rfl rfl (ok_iconst 12 rfl rfl (by decide) (ok_iushr 13 rfl rfl (ok_ldcw 14 (858993459) rfl rfl kc_J6_266 (by decide) (ok_iand 15 rfl rfl (ok_iaddW 16 rfl rfl (ok_ist0 17 rfl rfl (ok_iload_n 18 rfl rfl rfl (ok_iload_n 19 rfl rfl rfl (ok_iconst 20 rfl rfl (by decide) (ok_iushr 21 rfl rfl (ok_iaddW 22 rfl rfl (ok_ldcw 23 (252645135) rfl rfl kc_J6_267 (by decide) (ok_iand 24 rfl rfl (ok_ist0 25 rfl rfl (ok_iload_n 26 rfl rfl rfl (ok_iload_n 27 rfl rfl rfl (ok_bipush 28 rfl rfl (by decide) (by decide) (ok_iushr 29 rfl rfl (ok_iaddW 30 rfl rfl (ok_ist0 31 rfl rfl (ok_iload_n 32 rfl rfl rfl (ok_iload_n 33 rfl rfl rfl (ok_bipush 34 rfl rfl (by decide) (by decide) (ok_iushr 35 rfl rfl (ok_iaddW 36 rfl rfl (ok_ist0 37 rfl rfl (ok_iload_n 38 rfl rfl rfl (ok_bipush 39 rfl rfl (by decide) (by decide) (ok_iand 40 rfl rfl (ok_iret 41 rfl rfl rfl ?_)))))))))))))))))))))))))))))))))))))))))
  exact ⟨_, rfl, rfl, rfl⟩
theorem s_Jl_bitCount {σ : eS} {a : Int} : MtI shA M_Jl_bitCount [vl a] σ (fun σ' _ => σ' = σ ∧ True) := by
  refine Mt.of okM_Jl_bitCount (Nat.le_of_ble_eq_true rfl) (fun hk hg => ?_)
  refine ok_lload_n 0 rfl rfl rfl (ok_lload_n 1 rfl rfl rfl (ok_iconst 2 rfl rfl (by decide) (ok_lushr 3 rfl rfl (ok_ldc2 4 (6148914691236517205) rfl rfl kc_J13_314 (by decide) (ok_land 5 rfl rfl (ok_lsubW 6 rfl rfl (ok_lst0 7 rfl rfl (ok_lload_n 8 rfl rfl rfl (ok_ldc2 9 (3689348814741910323) rfl rfl kc_J13_316 (by decide) (ok_land 10 rfl rfl (ok_lload_n 11 rfl rfl rfl (ok_iconst 12 rfl rfl (by decide) (ok_lushr 13 rfl rfl (ok_ldc2 14 (3689348814741910323) rfl rfl kc_J13_316 (by decide) (ok_land 15 rfl rfl (ok_laddW 16 rfl rfl (ok_lst0 17 rfl rfl (ok_lload_n 18 rfl rfl rfl (ok_lload_n 19 rfl rfl rfl (ok_iconst 20 rfl rfl (by decide) (ok_lushr 21 rfl rfl (ok_laddW 22 rfl rfl (ok_ldc2 23 (1085102592571150095) rfl rfl kc_J13_318 (by decide) (ok_land 24 rfl rfl (ok_lst0 25 rfl rfl (ok_lload_n 26 rfl rfl rfl (ok_lload_n 27 rfl rfl rfl (ok_bipush 28 rfl rfl (by decide) (by decide) (ok_lushr 29 rfl rfl (ok_laddW 30 rfl rfl (ok_lst0 31 rfl rfl (ok_lload_n 32 rfl rfl rfl (ok_lload_n 33 rfl rfl rfl (ok_bipush 34 rfl rfl (by decide) (by decide) (ok_lushr 35 rfl rfl (ok_laddW 36 rfl rfl (ok_lst0 37 rfl rfl (ok_lload_n 38 rfl rfl rfl (ok_lload_n 39 rfl rfl rfl (ok_bipush 40 rfl rfl (by decide) (by decide) (ok_lushr 41 rfl rfl (ok_laddW 42 rfl rfl (ok_lst0 43 rfl rfl (ok_lload_n 44 rfl rfl rfl (ok_l2iW 45 rfl rfl (ok_bipush 46 rfl rfl (by decide) (by decide) (ok_iand 47 rfl rfl (ok_iret 48 rfl rfl rfl ?_))))))))))))))))))))))))))))))))))))))))))))))))
  exact ⟨_, rfl, rfl, trivial⟩
def rowJ (J r : Int) : Int := wr (land (lushr J (wr (r * 8))) 255)
theorem s_Jo_rowOf {σ : eS} {J r : Int} : MtI shA M_Jo_rowOf [vl J, vi r] σ (fun σ' z => σ' = σ ∧ z = rowJ J r) := by
  refine Mt.of okM_Jo_rowOf (Nat.le_of_ble_eq_true rfl) (fun hk hg => ?_)
  refine ok_lload_n 0 rfl rfl rfl (ok_iload_n 1 rfl rfl rfl (ok_bipush 2 rfl rfl (by decide) (by decide) (ok_imulW 3 rfl rfl (ok_lushr 4 rfl rfl (ok_ldc2 5 (255) rfl rfl kc_X1_11 (by decide) (ok_land 6 rfl rfl (ok_l2iW 7 rfl rfl (ok_iret 8 rfl rfl rfl ?_))))))))
  exact ⟨_, rfl, rfl, rfl⟩
theorem s_Jo_of {σ : eS} {c : Nat} {n m : Int} (hs : nth shA c = some (1, 64, [])) (hn : n ≤ 8) : MtL shA M_Jo_of [vr c, vi n, vi m] σ (fun σ' _ => σ' = σ ∧ True) := by
  refine Mt.of okM_Jo_of (Nat.le_of_ble_eq_true rfl) (fun hk hg => ?_)
  refine ok_lconst (w := 0) 0 rfl rfl rfl (by decide) (ok_lst3 1 rfl rfl rfl (ok_iconst 2 rfl rfl (by decide) (ok_ist5 3 rfl rfl rfl ?_)))
  refine lpO2 (fun v i : Int => [some (vr c), some (vi n), some (vi m), some (vl v), none, some (vi i), none, none]) (fun _ _ => σ) (fun _ i => 0 ≤ i ∧ i ≤ 8) (fun _ i => (8 - i).toNat) ?_ 0 0 ⟨by omega, by omega⟩
  rintro v i ⟨i1, i2⟩ ih
  refine ok_iload 4 rfl rfl rfl (ok_iload_n 5 rfl rfl rfl (ok_icmp_ge 6 57 rfl rfl rfl (fun h8 => ?_) (fun h8 => ?_)))
  · refine ok_lload_n 33 rfl rfl rfl (ok_lret 34 rfl rfl rfl ?_)
    exact ⟨_, rfl, rfl, trivial⟩
  · refine ok_iconst 7 rfl rfl (by decide) (ok_ist6 8 rfl rfl rfl ?_)
    refine lpO2 (fun v j : Int => [some (vr c), some (vi n), some (vi m), some (vl v), none, some (vi i), some (vi j), none]) (fun _ _ => σ) (fun _ j => 0 ≤ j ∧ j ≤ 8) (fun _ j => (8 - j).toNat) ?_ v 0 ⟨by omega, by omega⟩
    clear v
    rintro v j ⟨j1, j2⟩ ih2
    refine ok_iload 9 rfl rfl rfl (ok_iload_n 10 rfl rfl rfl (ok_icmp_ge 11 51 rfl rfl rfl (fun h17 => ?_) (fun h17 => ?_)))
    · refine ok_inc5 31 rfl rfl rfl (by first | omega | (simp [up_if]; omega) | (simp [up_if] at *; omega)) (ok_goto 32 5 rfl rfl rfl ?_)
      exact ok_fg [some (vr c), some (vi n), some (vi m), some (vl _), none, some (vi (i + 1)), none, none] ⟨rfl, rfl, rfl, rfl, rfl, trivial⟩ (ih _ (i + 1) ⟨by omega, by omega⟩ (by omega))
    · refine ok_iload 12 rfl rfl rfl (ok_bipush 13 rfl rfl (by decide) (by decide) (ok_imul 14 rfl rfl (by first | omega | (simp [up_if]; omega) | (simp [up_if] at *; omega)) (ok_iload 15 rfl rfl rfl (ok_iadd 16 rfl rfl (by first | omega | (simp [up_if]; omega) | (simp [up_if] at *; omega)) (ok_ist7 17 rfl rfl rfl (ok_aload_n 18 rfl rfl rfl (ok_iload 19 rfl rfl rfl (ok_iald 20 rfl rfl hs (by first | omega | (simp [up_if]; omega) | (simp [up_if] at *; omega)) (ok_iload_n 21 rfl rfl rfl (ok_icmp_lt 22 45 rfl rfl rfl (fun h35 => ?_) (fun h35 => ?_)))))))))))
      · refine ok_inc6 29 rfl rfl rfl (by first | omega | (simp [up_if]; omega) | (simp [up_if] at *; omega)) (ok_goto 30 14 rfl rfl rfl ?_)
        exact ok_fg [some (vr c), some (vi n), some (vi m), some (vl _), none, some (vi i), some (vi (j + 1)), none] ⟨rfl, rfl, rfl, rfl, rfl, rfl, trivial⟩ (ih2 _ (j + 1) ⟨by omega, by omega⟩ (by omega))
      · refine ok_lload_n 23 rfl rfl rfl (ok_lconst (w := 1) 24 rfl rfl rfl (by decide) (ok_iload 25 rfl rfl rfl (ok_lshl 26 rfl rfl (ok_lor 27 rfl rfl (ok_lst3 28 rfl rfl rfl (ok_inc6 29 rfl rfl rfl (by first | omega | (simp [up_if]; omega) | (simp [up_if] at *; omega)) (ok_goto 30 14 rfl rfl rfl ?_)))))))
        exact ok_fg [some (vr c), some (vi n), some (vi m), some (vl _), none, some (vi i), some (vi (j + 1)), none] ⟨rfl, rfl, rfl, rfl, rfl, rfl, trivial⟩ (ih2 _ (j + 1) ⟨by omega, by omega⟩ (by omega))
theorem s_Jo_columnsOf {σ : eS} {J s n : Int} (hn : n ≤ 8) : MtI shA M_Jo_columnsOf [vl J, vi s, vi n] σ (fun σ' _ => σ' = σ ∧ True) := by
  refine Mt.of okM_Jo_columnsOf (Nat.le_of_ble_eq_true rfl) (fun hk hg => ?_)
  refine ok_iconst 0 rfl rfl (by decide) (ok_ist4 1 rfl rfl rfl (ok_iconst 2 rfl rfl (by decide) (ok_ist5 3 rfl rfl rfl ?_)))
  refine lpO2 (fun v j : Int => [some (vl J), none, some (vi s), some (vi n), some (vi v), some (vi j)]) (fun _ _ => σ) (fun _ j => 0 ≤ j ∧ j ≤ 8) (fun _ j => (8 - j).toNat) ?_ 0 0 ⟨by omega, by omega⟩
  rintro v j ⟨j1, j2⟩ ih
  refine ok_iload 4 rfl rfl rfl (ok_iload_n 5 rfl rfl rfl (ok_icmp_ge 6 38 rfl rfl rfl (fun h9 => ?_) (fun h9 => ?_)))
  · refine ok_iload 21 rfl rfl rfl (ok_iret 22 rfl rfl rfl ?_)
    exact ⟨_, rfl, rfl, trivial⟩
  · refine ok_iload_n 7 rfl rfl rfl (ok_iload 8 rfl rfl rfl (ok_ishr 9 rfl rfl (ok_iconst 10 rfl rfl (by decide) (ok_iand 11 rfl rfl (ok_if_eq 12 32 rfl rfl rfl (fun h18 => ?_) (fun h18 => ?_))))))
    · refine ok_inc5 19 rfl rfl rfl (by first | omega | (simp [up_if]; omega) | (simp [up_if] at *; omega)) (ok_goto 20 6 rfl rfl rfl ?_)
      exact ih _ (j + 1) ⟨by omega, by omega⟩ (by omega)
    · refine ok_iload 13 rfl rfl rfl (ok_lload_n 14 rfl rfl rfl (ok_iload 15 rfl rfl rfl (ok_callSI (M' := M_Jo_rowOf) (as := [_, _]) 16 rfl rfl ml_X1_17 (s_Jo_rowOf) ⟨Nat.le_of_ble_eq_true rfl, Nat.le_of_ble_eq_true rfl⟩ rfl (Nat.le_of_ble_eq_true rfl) (fun σ' z hz => ?_))))
      rw [hz.1, hz.2]
      clear hz z σ'
      refine ok_ior 17 rfl rfl (ok_ist4 18 rfl rfl rfl (ok_inc5 19 rfl rfl rfl (by first | omega | (simp [up_if]; omega) | (simp [up_if] at *; omega)) (ok_goto 20 6 rfl rfl rfl ?_)))
      exact ih _ (j + 1) ⟨by omega, by omega⟩ (by omega)
theorem s_Jo_rowsOf {σ : eS} {J s n : Int} (hn : n ≤ 8) : MtI shA M_Jo_rowsOf [vl J, vi s, vi n] σ (fun σ' _ => σ' = σ ∧ True) := by
  refine Mt.of okM_Jo_rowsOf (Nat.le_of_ble_eq_true rfl) (fun hk hg => ?_)
  refine ok_iconst 0 rfl rfl (by decide) (ok_ist4 1 rfl rfl rfl (ok_iconst 2 rfl rfl (by decide) (ok_ist5 3 rfl rfl rfl ?_)))
  refine lpO2 (fun v j : Int => [some (vl J), none, some (vi s), some (vi n), some (vi v), some (vi j)]) (fun _ _ => σ) (fun _ j => 0 ≤ j ∧ j ≤ 8) (fun _ j => (8 - j).toNat) ?_ 0 0 ⟨by omega, by omega⟩
  rintro v j ⟨j1, j2⟩ ih
  refine ok_iload 4 rfl rfl rfl (ok_iload_n 5 rfl rfl rfl (ok_icmp_ge 6 38 rfl rfl rfl (fun h9 => ?_) (fun h9 => ?_)))
  · refine ok_iload 21 rfl rfl rfl (ok_iret 22 rfl rfl rfl ?_)
    exact ⟨_, rfl, rfl, trivial⟩
  · refine ok_lload_n 7 rfl rfl rfl (ok_iload 8 rfl rfl rfl (ok_callSI (M' := M_Jo_rowOf) (as := [_, _]) 9 rfl rfl ml_X1_17 (s_Jo_rowOf) ⟨Nat.le_of_ble_eq_true rfl, Nat.le_of_ble_eq_true rfl⟩ rfl (Nat.le_of_ble_eq_true rfl) (fun σ' z hz => ?_)))
    rw [hz.1, hz.2]
    clear hz z σ'
    refine ok_iload_n 10 rfl rfl rfl (ok_iand 11 rfl rfl (ok_if_eq 12 32 rfl rfl rfl (fun h20 => ?_) (fun h20 => ?_)))
    · refine ok_inc5 19 rfl rfl rfl (by first | omega | (simp [up_if]; omega) | (simp [up_if] at *; omega)) (ok_goto 20 6 rfl rfl rfl ?_)
      exact ih _ (j + 1) ⟨by omega, by omega⟩ (by omega)
    · refine ok_iload 13 rfl rfl rfl (ok_iconst 14 rfl rfl (by decide) (ok_iload 15 rfl rfl rfl (ok_ishl 16 rfl rfl (ok_ior 17 rfl rfl (ok_ist4 18 rfl rfl rfl (ok_inc5 19 rfl rfl rfl (by first | omega | (simp [up_if]; omega) | (simp [up_if] at *; omega)) (ok_goto 20 6 rfl rfl rfl ?_)))))))
      exact ih _ (j + 1) ⟨by omega, by omega⟩ (by omega)
theorem s_Jo_groupOf {σ : eS} {J r n : Int} (hn : n ≤ 8) : MtI shA M_Jo_groupOf [vl J, vi r, vi n] σ (fun σ' _ => σ' = σ ∧ True) := by
  refine Mt.of okM_Jo_groupOf (Nat.le_of_ble_eq_true rfl) (fun hk hg => ?_)
  refine ok_iconst 0 rfl rfl (by decide) (ok_iload_n 1 rfl rfl rfl (ok_ishl 2 rfl rfl (ok_ist4 3 rfl rfl rfl (ok_iconst 4 rfl rfl (by decide) (ok_ist5 5 rfl rfl rfl ?_)))))
  refine lpO2 (fun v j : Int => [some (vl J), none, some (vi r), some (vi n), some (vi v), some (vi j)]) (fun _ _ => σ) (fun _ j => 0 ≤ j ∧ j ≤ 8) (fun _ j => (8 - j).toNat) ?_ (ishl 1 r) 0 ⟨by omega, by omega⟩
  rintro v j ⟨j1, j2⟩ ih
  refine ok_iload 6 rfl rfl rfl (ok_iload_n 7 rfl rfl rfl (ok_icmp_ge 8 37 rfl rfl rfl (fun h11 => ?_) (fun h11 => ?_)))
  · refine ok_iload 21 rfl rfl rfl (ok_iret 22 rfl rfl rfl ?_)
    exact ⟨_, rfl, rfl, trivial⟩
  · refine ok_iload 9 rfl rfl rfl (ok_lload_n 10 rfl rfl rfl (ok_lload_n 11 rfl rfl rfl (ok_iload 12 rfl rfl rfl (ok_iload_n 13 rfl rfl rfl (ok_callSI (M' := M_Jo_columnsOf) (as := [_, _, _]) 14 rfl rfl ml_X1_25 (s_Jo_columnsOf hn) ⟨Nat.le_of_ble_eq_true rfl, Nat.le_of_ble_eq_true rfl⟩ rfl (Nat.le_of_ble_eq_true rfl) (fun σ' z1 x1 => ?_))))))
    obtain ⟨hs_, x1⟩ := x1
    rw [hs_]; clear hs_ σ'
    refine ok_iload_n 15 rfl rfl rfl (ok_callSI (M' := M_Jo_rowsOf) (as := [_, _, _]) 16 rfl rfl ml_X1_34 (s_Jo_rowsOf hn) ⟨Nat.le_of_ble_eq_true rfl, Nat.le_of_ble_eq_true rfl⟩ rfl (Nat.le_of_ble_eq_true rfl) (fun σ' z2 x2 => ?_))
    obtain ⟨hs_, x2⟩ := x2
    rw [hs_]; clear hs_ σ'
    refine ok_ior 17 rfl rfl (ok_ist4 18 rfl rfl rfl (ok_inc5 19 rfl rfl rfl (by first | omega | (simp [up_if]; omega) | (simp [up_if] at *; omega)) (ok_goto 20 8 rfl rfl rfl ?_)))
    exact ih _ (j + 1) ⟨by omega, by omega⟩ (by omega)
theorem s_Jo_reachedFrom {σ : eS} {J r n : Int} (hn : n ≤ 8) : MtI shA M_Jo_reachedFrom [vl J, vi r, vi n] σ (fun σ' _ => σ' = σ ∧ True) := by
  refine Mt.of okM_Jo_reachedFrom (Nat.le_of_ble_eq_true rfl) (fun hk hg => ?_)
  refine ok_iconst 0 rfl rfl (by decide) (ok_iload_n 1 rfl rfl rfl (ok_ishl 2 rfl rfl (ok_ist4 3 rfl rfl rfl (ok_iconst 4 rfl rfl (by decide) (ok_ist5 5 rfl rfl rfl ?_)))))
  refine lpO2 (fun v j : Int => [some (vl J), none, some (vi r), some (vi n), some (vi v), some (vi j)]) (fun _ _ => σ) (fun _ j => 0 ≤ j ∧ j ≤ 8) (fun _ j => (8 - j).toNat) ?_ (ishl 1 r) 0 ⟨by omega, by omega⟩
  rintro v j ⟨j1, j2⟩ ih
  refine ok_iload 6 rfl rfl rfl (ok_iload_n 7 rfl rfl rfl (ok_icmp_ge 8 32 rfl rfl rfl (fun h11 => ?_) (fun h11 => ?_)))
  · refine ok_iload 18 rfl rfl rfl (ok_iret 19 rfl rfl rfl ?_)
    exact ⟨_, rfl, rfl, trivial⟩
  · refine ok_iload 9 rfl rfl rfl (ok_lload_n 10 rfl rfl rfl (ok_iload 11 rfl rfl rfl (ok_iload_n 12 rfl rfl rfl (ok_callSI (M' := M_Jo_columnsOf) (as := [_, _, _]) 13 rfl rfl ml_X1_25 (s_Jo_columnsOf hn) ⟨Nat.le_of_ble_eq_true rfl, Nat.le_of_ble_eq_true rfl⟩ rfl (Nat.le_of_ble_eq_true rfl) (fun σ' z1 x1 => ?_)))))
    obtain ⟨hs_, x1⟩ := x1
    rw [hs_]; clear hs_ σ'
    refine ok_ior 14 rfl rfl (ok_ist4 15 rfl rfl rfl (ok_inc5 16 rfl rfl rfl (by first | omega | (simp [up_if]; omega) | (simp [up_if] at *; omega)) (ok_goto 17 8 rfl rfl rfl ?_)))
    exact ih _ (j + 1) ⟨by omega, by omega⟩ (by omega)
theorem s_Jo_countGroups {σ : eS} {J n : Int} (hn : n ≤ 8) : MtI shA M_Jo_countGroups [vl J, vi n] σ (fun σ' _ => σ' = σ ∧ True) := by
  refine Mt.of okM_Jo_countGroups (Nat.le_of_ble_eq_true rfl) (fun hk hg => ?_)
  refine ok_iconst 0 rfl rfl (by decide) (ok_ist3 1 rfl rfl rfl (ok_iconst 2 rfl rfl (by decide) (ok_ist4 3 rfl rfl rfl (ok_iconst 4 rfl rfl (by decide) (ok_ist5 5 rfl rfl rfl ?_)))))
  refine lpO3 (fun g v j : Int => [some (vl J), none, some (vi n), some (vi g), some (vi v), some (vi j)]) (fun _ _ _ => σ) (fun g _ j => 0 ≤ j ∧ j ≤ 8 ∧ 0 ≤ g ∧ g ≤ j) (fun _ _ j => (8 - j).toNat) ?_ 0 0 0 ⟨by omega, by omega, by omega, by omega⟩
  rintro g v j ⟨j1, j2, g1, g2⟩ ih
  refine ok_iload 6 rfl rfl rfl (ok_iload_n 7 rfl rfl rfl (ok_icmp_ge 8 45 rfl rfl rfl (fun h11 => ?_) (fun h11 => ?_)))
  · refine ok_iload_n 25 rfl rfl rfl (ok_lload_n 26 rfl rfl rfl (ok_iload 27 rfl rfl rfl (ok_iload_n 28 rfl rfl rfl (ok_callSI (M' := M_Jo_columnsOf) (as := [_, _, _]) 29 rfl rfl ml_X1_25 (s_Jo_columnsOf hn) ⟨Nat.le_of_ble_eq_true rfl, Nat.le_of_ble_eq_true rfl⟩ rfl (Nat.le_of_ble_eq_true rfl) (fun σ' z2 x2 => ?_)))))
    obtain ⟨hs_, x2⟩ := x2
    rw [hs_]; clear hs_ σ'
    refine ok_callSI (M' := M_Ji_bitCount) (as := [_]) 30 rfl rfl ml_X1_28 (s_Ji_bitCount) ⟨Nat.le_of_ble_eq_true rfl, Nat.le_of_ble_eq_true rfl⟩ rfl (Nat.le_of_ble_eq_true rfl) (fun σ' z hz => ?_)
    rw [hz.1, hz.2]
    clear hz z σ'
    refine ok_isubW 31 rfl rfl (ok_ist5 32 rfl rfl rfl (ok_iload_n 33 rfl rfl rfl (ok_iload 34 rfl rfl rfl (ok_iaddW 35 rfl rfl (ok_iret 36 rfl rfl rfl ?_)))))
    exact ⟨_, rfl, rfl, trivial⟩
  · refine ok_iload 9 rfl rfl rfl (ok_iload 10 rfl rfl rfl (ok_ishr 11 rfl rfl (ok_iconst 12 rfl rfl (by decide) (ok_iand 13 rfl rfl (ok_if_ne 14 39 rfl rfl rfl (fun h21 => ?_) (fun h21 => ?_))))))
    · refine ok_inc5 23 rfl rfl rfl (by first | omega | (simp [up_if]; omega) | (simp [up_if] at *; omega)) (ok_goto 24 8 rfl rfl rfl ?_)
      exact ih _ _ (j + 1) ⟨by omega, by omega, by omega, by omega⟩ (by omega)
    · refine ok_iload 15 rfl rfl rfl (ok_lload_n 16 rfl rfl rfl (ok_iload 17 rfl rfl rfl (ok_iload_n 18 rfl rfl rfl (ok_callSI (M' := M_Jo_groupOf) (as := [_, _, _]) 19 rfl rfl ml_X1_21 (s_Jo_groupOf hn) ⟨Nat.le_of_ble_eq_true rfl, Nat.le_of_ble_eq_true rfl⟩ rfl (Nat.le_of_ble_eq_true rfl) (fun σ' z1 x1 => ?_)))))
      obtain ⟨hs_, x1⟩ := x1
      rw [hs_]; clear hs_ σ'
      refine ok_ior 20 rfl rfl (ok_ist4 21 rfl rfl rfl (ok_inc3 22 rfl rfl rfl (by first | omega | (simp [up_if]; omega) | (simp [up_if] at *; omega)) (ok_inc5 23 rfl rfl rfl (by first | omega | (simp [up_if]; omega) | (simp [up_if] at *; omega)) (ok_goto 24 8 rfl rfl rfl ?_))))
      exact ih _ _ (j + 1) ⟨by omega, by omega, by omega, by omega⟩ (by omega)
theorem s_Jo_kinOf {σ : eS} {J r n : Int} (hn : n ≤ 8) : MtI shA M_Jo_kinOf [vl J, vi r, vi n] σ (fun σ' _ => σ' = σ ∧ True) := by
  refine Mt.of okM_Jo_kinOf (Nat.le_of_ble_eq_true rfl) (fun hk hg => ?_)
  refine ok_lload_n 0 rfl rfl rfl (ok_iload_n 1 rfl rfl rfl (ok_iload_n 2 rfl rfl rfl (ok_callSI (M' := M_Jo_reachedFrom) (as := [_, _, _]) 3 rfl rfl ml_X1_37 (s_Jo_reachedFrom hn) ⟨Nat.le_of_ble_eq_true rfl, Nat.le_of_ble_eq_true rfl⟩ rfl (Nat.le_of_ble_eq_true rfl) (fun σ' z1 x1 => ?_))))
  obtain ⟨hs_, x1⟩ := x1
  rw [hs_]; clear hs_ σ'
  refine ok_ist4 4 rfl rfl rfl (ok_iconst 5 rfl rfl (by decide) (ok_ist5 6 rfl rfl rfl (ok_iconst 7 rfl rfl (by decide) (ok_ist6 8 rfl rfl rfl ?_))))
  refine lpO2 (fun v j : Int => [some (vl J), none, some (vi r), some (vi n), some (vi z1), some (vi v), some (vi j)]) (fun _ _ => σ) (fun _ j => 0 ≤ j ∧ j ≤ 8) (fun _ j => (8 - j).toNat) ?_ 0 0 ⟨by omega, by omega⟩
  rintro v j ⟨j1, j2⟩ ih
  refine ok_iload 9 rfl rfl rfl (ok_iload_n 10 rfl rfl rfl (ok_icmp_ge 11 59 rfl rfl rfl (fun h17 => ?_) (fun h17 => ?_)))
  · refine ok_iload 35 rfl rfl rfl (ok_iret 36 rfl rfl rfl ?_)
    exact ⟨_, rfl, rfl, trivial⟩
  · refine ok_iload 12 rfl rfl rfl (ok_iload 13 rfl rfl rfl (ok_ishr 14 rfl rfl (ok_iconst 15 rfl rfl (by decide) (ok_iand 16 rfl rfl (ok_if_eq 17 53 rfl rfl rfl (fun h27 => ?_) (fun h27 => ?_))))))
    · refine ok_inc6 33 rfl rfl rfl (by first | omega | (simp [up_if]; omega) | (simp [up_if] at *; omega)) (ok_goto 34 14 rfl rfl rfl ?_)
      exact ih _ (j + 1) ⟨by omega, by omega⟩ (by omega)
    · refine ok_lload_n 18 rfl rfl rfl (ok_iload 19 rfl rfl rfl (ok_iload_n 20 rfl rfl rfl (ok_callSI (M' := M_Jo_reachedFrom) (as := [_, _, _]) 21 rfl rfl ml_X1_37 (s_Jo_reachedFrom hn) ⟨Nat.le_of_ble_eq_true rfl, Nat.le_of_ble_eq_true rfl⟩ rfl (Nat.le_of_ble_eq_true rfl) (fun σ' z2 x2 => ?_))))
      obtain ⟨hs_, x2⟩ := x2
      rw [hs_]; clear hs_ σ'
      refine ok_iload_n 22 rfl rfl rfl (ok_ishr 23 rfl rfl (ok_iconst 24 rfl rfl (by decide) (ok_iand 25 rfl rfl (ok_if_eq 26 53 rfl rfl rfl (fun h41 => ?_) (fun h41 => ?_)))))
      · refine ok_inc6 33 rfl rfl rfl (by first | omega | (simp [up_if]; omega) | (simp [up_if] at *; omega)) (ok_goto 34 14 rfl rfl rfl ?_)
        exact ih _ (j + 1) ⟨by omega, by omega⟩ (by omega)
      · refine ok_iload 27 rfl rfl rfl (ok_iconst 28 rfl rfl (by decide) (ok_iload 29 rfl rfl rfl (ok_ishl 30 rfl rfl (ok_ior 31 rfl rfl (ok_ist5 32 rfl rfl rfl (ok_inc6 33 rfl rfl rfl (by first | omega | (simp [up_if]; omega) | (simp [up_if] at *; omega)) (ok_goto 34 14 rfl rfl rfl ?_)))))))
        exact ih _ (j + 1) ⟨by omega, by omega⟩ (by omega)
theorem s_Jo_product {σ : eS} {a b n : Int} (hn : n ≤ 8) : MtL shA M_Jo_product [vl a, vl b, vi n] σ (fun σ' _ => σ' = σ ∧ True) := by
  refine Mt.of okM_Jo_product (Nat.le_of_ble_eq_true rfl) (fun hk hg => ?_)
  refine ok_lconst (w := 0) 0 rfl rfl rfl (by decide) (ok_lst5 1 rfl rfl rfl (ok_iconst 2 rfl rfl (by decide) (ok_ist7 3 rfl rfl rfl ?_)))
  refine lpO2 (fun v j : Int => [some (vl a), none, some (vl b), none, some (vi n), some (vl v), none, some (vi j)]) (fun _ _ => σ) (fun _ j => 0 ≤ j ∧ j ≤ 8) (fun _ j => (8 - j).toNat) ?_ 0 0 ⟨by omega, by omega⟩
  rintro v j ⟨j1, j2⟩ ih
  refine ok_iload 4 rfl rfl rfl (ok_iload 5 rfl rfl rfl (ok_icmp_ge 6 43 rfl rfl rfl (fun h10 => ?_) (fun h10 => ?_)))
  · refine ok_lload 23 rfl rfl rfl (ok_lret 24 rfl rfl rfl ?_)
    exact ⟨_, rfl, rfl, trivial⟩
  · refine ok_lload 7 rfl rfl rfl (ok_lload_n 8 rfl rfl rfl (ok_lload_n 9 rfl rfl rfl (ok_iload 10 rfl rfl rfl (ok_callSI (M' := M_Jo_rowOf) (as := [_, _]) 11 rfl rfl ml_X1_17 (s_Jo_rowOf) ⟨Nat.le_of_ble_eq_true rfl, Nat.le_of_ble_eq_true rfl⟩ rfl (Nat.le_of_ble_eq_true rfl) (fun σ' z hz => ?_)))))
    rw [hz.1, hz.2]
    clear hz z σ'
    refine ok_iload 12 rfl rfl rfl (ok_callSI (M' := M_Jo_columnsOf) (as := [_, _, _]) 13 rfl rfl ml_X1_25 (s_Jo_columnsOf hn) ⟨Nat.le_of_ble_eq_true rfl, Nat.le_of_ble_eq_true rfl⟩ rfl (Nat.le_of_ble_eq_true rfl) (fun σ' z2 x2 => ?_))
    obtain ⟨hs_, x2⟩ := x2
    rw [hs_]; clear hs_ σ'
    refine ok_i2l 14 rfl rfl (ok_iload 15 rfl rfl rfl (ok_bipush 16 rfl rfl (by decide) (by decide) (ok_imul 17 rfl rfl (by first | omega | (simp [up_if]; omega) | (simp [up_if] at *; omega)) (ok_lshl 18 rfl rfl (ok_lor 19 rfl rfl (ok_lst5 20 rfl rfl rfl (ok_inc7 21 rfl rfl rfl (by first | omega | (simp [up_if]; omega) | (simp [up_if] at *; omega)) (ok_goto 22 6 rfl rfl rfl ?_))))))))
    exact ih _ (j + 1) ⟨by omega, by omega⟩ (by omega)
theorem s_Jo_leastFullPower {σ : eS} {a b n : Int} (hn : n ≤ 8) : MtI shA M_Jo_leastFullPower [vl a, vl b, vi n] σ (fun σ' _ => σ' = σ ∧ True) := by
  refine Mt.of okM_Jo_leastFullPower (Nat.le_of_ble_eq_true rfl) (fun hk hg => ?_)
  refine ok_lload_n 0 rfl rfl rfl (ok_lst5 1 rfl rfl rfl (ok_iconst 2 rfl rfl (by decide) (ok_ist7 3 rfl rfl rfl ?_)))
  refine lpO2 (fun v j : Int => [some (vl a), none, some (vl b), none, some (vi n), some (vl v), none, some (vi j)]) (fun _ _ => σ) (fun _ j => 1 ≤ j ∧ j ≤ 65) (fun _ j => (65 - j).toNat) ?_ a 1 ⟨by omega, by omega⟩
  rintro v j ⟨j1, j2⟩ ih
  refine ok_iload 4 rfl rfl rfl (ok_bipush 5 rfl rfl (by decide) (by decide) (ok_icmp_gt 6 39 rfl rfl rfl (fun h10 => ?_) (fun h10 => ?_)))
  · refine ok_iconst 20 rfl rfl (by decide) (ok_iret 21 rfl rfl rfl ?_)
    exact ⟨_, rfl, rfl, trivial⟩
  · refine ok_lload 7 rfl rfl rfl (ok_lload_n 8 rfl rfl rfl (ok_lcmp_ne 9 10 23 rfl rfl rfl rfl rfl (fun h16 => ?_) (fun h16 => ?_)))
    · refine ok_lload 13 rfl rfl rfl (ok_lload_n 14 rfl rfl rfl (ok_iload 15 rfl rfl rfl (ok_callSL (M' := M_Jo_product) (as := [_, _, _]) 16 rfl rfl ml_X1_40 (s_Jo_product hn) ⟨Nat.le_of_ble_eq_true rfl, Nat.le_of_ble_eq_true rfl⟩ rfl (Nat.le_of_ble_eq_true rfl) (fun σ' z2 x2 => ?_))))
      obtain ⟨hs_, x2⟩ := x2
      rw [hs_]; clear hs_ σ'
      refine ok_lst5 17 rfl rfl rfl (ok_inc7 18 rfl rfl rfl (by first | omega | (simp [up_if]; omega) | (simp [up_if] at *; omega)) (ok_goto 19 6 rfl rfl rfl ?_))
      exact ih _ (j + 1) ⟨by omega, by omega⟩ (by omega)
    · refine ok_iload 11 rfl rfl rfl (ok_iret 12 rfl rfl rfl ?_)
      exact ⟨_, rfl, rfl, trivial⟩
theorem s_Jo_rowsMostLacking {σ : eS} {J n : Int} (hn : 0 ≤ n ∧ n ≤ 8) : MtI shA M_Jo_rowsMostLacking [vl J, vi n] σ (fun σ' _ => σ' = σ ∧ True) := by
  refine Mt.of okM_Jo_rowsMostLacking (Nat.le_of_ble_eq_true rfl) (fun hk hg => ?_)
  have b2 := bit2 hn
  refine ok_iconst 0 rfl rfl (by decide) (ok_ist3 1 rfl rfl rfl (ok_iconst 2 rfl rfl (by decide) (ok_ist4 3 rfl rfl rfl (ok_iconst 4 rfl rfl (by decide) (ok_ist5 5 rfl rfl rfl ?_)))))
  refine lpO3 (fun g v j : Int => [some (vl J), none, some (vi n), some (vi g), some (vi v), some (vi j), none]) (fun _ _ _ => σ) (fun _ _ j => 1 ≤ j ∧ j ≤ 256) (fun _ _ j => (256 - j).toNat) ?_ 0 0 1 ⟨by omega, by omega⟩
  rintro g v j ⟨j1, j2⟩ ih
  refine ok_iload 6 rfl rfl rfl (ok_iconst 7 rfl rfl (by decide) (ok_iload_n 8 rfl rfl rfl (ok_ishl 9 rfl rfl (ok_icmp_ge 10 54 rfl rfl rfl (fun h13 => ?_) (fun h13 => ?_)))))
  · refine ok_iload_n 29 rfl rfl rfl (ok_iret 30 rfl rfl rfl ?_)
    exact ⟨_, rfl, rfl, trivial⟩
  · refine ok_iload 11 rfl rfl rfl (ok_callSI (M' := M_Ji_bitCount) (as := [_]) 12 rfl rfl ml_X1_28 (s_Ji_bitCount) ⟨Nat.le_of_ble_eq_true rfl, Nat.le_of_ble_eq_true rfl⟩ rfl (Nat.le_of_ble_eq_true rfl) (fun σ' z hz => ?_))
    rw [hz.1, hz.2]
    clear hz z σ'
    refine ok_lload_n 13 rfl rfl rfl (ok_iload 14 rfl rfl rfl (ok_iload_n 15 rfl rfl rfl (ok_callSI (M' := M_Jo_columnsOf) (as := [_, _, _]) 16 rfl rfl ml_X1_25 (s_Jo_columnsOf hn.2) ⟨Nat.le_of_ble_eq_true rfl, Nat.le_of_ble_eq_true rfl⟩ rfl (Nat.le_of_ble_eq_true rfl) (fun σ' z2 x2 => ?_))))
    obtain ⟨hs_, x2⟩ := x2
    rw [hs_]; clear hs_ σ'
    refine ok_callSI (M' := M_Ji_bitCount) (as := [_]) 17 rfl rfl ml_X1_28 (s_Ji_bitCount) ⟨Nat.le_of_ble_eq_true rfl, Nat.le_of_ble_eq_true rfl⟩ rfl (Nat.le_of_ble_eq_true rfl) (fun σ' z hz => ?_)
    rw [hz.1, hz.2]
    clear hz z σ'
    refine ok_isubW 18 rfl rfl (ok_ist6 19 rfl rfl rfl (ok_iload 20 rfl rfl rfl (ok_iload 21 rfl rfl rfl (ok_icmp_le 22 48 rfl rfl rfl (fun h38 => ?_) (fun h38 => ?_)))))
    · refine ok_inc5 27 rfl rfl rfl (by first | omega | (simp [up_if]; omega) | (simp [up_if] at *; omega)) (ok_goto 28 8 rfl rfl rfl ?_)
      exact ok_fg [some (vl J), none, some (vi n), some (vi _), some (vi _), some (vi (j + 1)), none] ⟨rfl, rfl, rfl, rfl, rfl, trivial⟩ (ih _ _ (j + 1) ⟨by omega, by omega⟩ (by omega))
    · refine ok_iload 23 rfl rfl rfl (ok_ist4 24 rfl rfl rfl (ok_iload 25 rfl rfl rfl (ok_ist3 26 rfl rfl rfl (ok_inc5 27 rfl rfl rfl (by first | omega | (simp [up_if]; omega) | (simp [up_if] at *; omega)) (ok_goto 28 8 rfl rfl rfl ?_)))))
      exact ok_fg [some (vl J), none, some (vi n), some (vi _), some (vi _), some (vi (j + 1)), none] ⟨rfl, rfl, rfl, rfl, rfl, trivial⟩ (ih _ _ (j + 1) ⟨by omega, by omega⟩ (by omega))
theorem s_Jo_through {σ : eS} {J r c : Int} : MtL shA M_Jo_through [vl J, vi r, vi c] σ (fun σ' _ => σ' = σ ∧ True) := by
  refine Mt.of okM_Jo_through (Nat.le_of_ble_eq_true rfl) (fun hk hg => ?_)
  refine ok_ldc2 0 (255) rfl rfl kc_X1_11 (by decide) (ok_iload_n 1 rfl rfl rfl (ok_bipush 2 rfl rfl (by decide) (by decide) (ok_imulW 3 rfl rfl (ok_lshl 4 rfl rfl (ok_ldc2 5 (72340172838076673) rfl rfl kc_X1_13 (by decide) (ok_iload_n 6 rfl rfl rfl (ok_lshl 7 rfl rfl (ok_lor 8 rfl rfl (ok_lst4 9 rfl rfl rfl (ok_lload_n 10 rfl rfl rfl (ok_lload 11 rfl rfl rfl (ok_ldc2 12 (-1) rfl rfl kc_X1_15 (by decide) (ok_lxor 13 rfl rfl (ok_land 14 rfl rfl (ok_lconst (w := 1) 15 rfl rfl rfl (by decide) (ok_iload_n 16 rfl rfl rfl (ok_bipush 17 rfl rfl (by decide) (by decide) (ok_imulW 18 rfl rfl (ok_iload_n 19 rfl rfl rfl (ok_iaddW 20 rfl rfl (ok_lshl 21 rfl rfl (ok_lor 22 rfl rfl (ok_lret 23 rfl rfl rfl ?_)))))))))))))))))))))))
  exact ⟨_, rfl, rfl, trivial⟩
theorem s_Ta_greatestCell {σ : eS} {t : Nat} (ht : tA t) (hT : iT σ t) : MtI shA M_Ta_greatestCell [vr t] σ (fun σ' _ => σ' = σ ∧ True) := by
  refine Mt.of okM_Ta_greatestCell (Nat.le_of_ble_eq_true rfl) (fun hk hg => ?_)
  have hn := hT.1
  have hn2 := hT.2.1
  refine ok_iconst 0 rfl rfl (by decide) (ok_ist1 1 rfl rfl rfl (ok_iconst 2 rfl rfl (by decide) (ok_ist2 3 rfl rfl rfl ?_)))
  refine lpO2 (fun v i : Int => [some (vr t), some (vi v), some (vi i), none]) (fun _ _ => σ) (fun _ i => 0 ≤ i ∧ i ≤ 8) (fun _ i => (8 - i).toNat) ?_ 0 0 ⟨by omega, by omega⟩
  rintro v i ⟨i1, i2⟩ ih
  refine ok_iload_n 4 rfl rfl rfl (ok_aload_n 5 rfl rfl rfl (ok_getI 6 rfl rfl fl_X9_15 (sT ht) rfl (Or.inl rfl) (ok_icmp_ge 7 50 rfl rfl rfl (fun h9 => ?_) (fun h9 => ?_))))
  · refine ok_iload_n 29 rfl rfl rfl (ok_iret 30 rfl rfl rfl ?_)
    exact ⟨_, rfl, rfl, trivial⟩
  · refine ok_iconst 8 rfl rfl (by decide) (ok_ist3 9 rfl rfl rfl ?_)
    refine lpO2 (fun v j : Int => [some (vr t), some (vi v), some (vi i), some (vi j)]) (fun _ _ => σ) (fun _ j => 0 ≤ j ∧ j ≤ 8) (fun _ j => (8 - j).toNat) ?_ v 0 ⟨by omega, by omega⟩
    clear v
    rintro v j ⟨j1, j2⟩ ih2
    refine ok_iload_n 10 rfl rfl rfl (ok_aload_n 11 rfl rfl rfl (ok_getI 12 rfl rfl fl_X9_15 (sT ht) rfl (Or.inl rfl) (ok_icmp_ge 13 44 rfl rfl rfl (fun h19 => ?_) (fun h19 => ?_))))
    · refine ok_inc2 27 rfl rfl rfl (by first | omega | (simp [up_if]; omega) | (simp [up_if] at *; omega)) (ok_goto 28 4 rfl rfl rfl ?_)
      exact ok_fg [some (vr t), some (vi _), some (vi (i + 1)), none] ⟨rfl, rfl, rfl, trivial⟩ (ih _ (i + 1) ⟨by omega, by omega⟩ (by omega))
    · refine ok_iload_n 14 rfl rfl rfl (ok_aload_n 15 rfl rfl rfl (ok_getR 16 rfl rfl fl_X9_9 (sT ht) rfl (ok_iload_n 17 rfl rfl rfl (ok_bipush 18 rfl rfl (by decide) (by decide) (ok_imul 19 rfl rfl (by first | omega | (simp [up_if]; omega) | (simp [up_if] at *; omega)) (ok_iload_n 20 rfl rfl rfl (ok_iadd 21 rfl rfl (by first | omega | (simp [up_if]; omega) | (simp [up_if] at *; omega)) (ok_iald 22 rfl rfl (sC ht) (by first | omega | (simp [up_if]; omega) | (simp [up_if] at *; omega)) (ok_mmax 23 rfl rfl ml_X9_42 ⟨Nat.le_of_ble_eq_true rfl, Nat.le_of_ble_eq_true rfl⟩ (ok_ist1 24 rfl rfl rfl (ok_inc3 25 rfl rfl rfl (by first | omega | (simp [up_if]; omega) | (simp [up_if] at *; omega)) (ok_goto 26 14 rfl rfl rfl ?_))))))))))))
      exact ih2 _ (j + 1) ⟨by omega, by omega⟩ (by omega)
theorem s_Ta_joinedBy {σ : eS} {t : Nat} {m : Int} (ht : tA t) (hT : iT σ t) : MtL shA M_Ta_joinedBy [vr t, vi m] σ (fun σ' _ => σ' = σ ∧ True) := by
  refine Mt.of okM_Ta_joinedBy (Nat.le_of_ble_eq_true rfl) (fun hk hg => ?_)
  refine ok_aload_n 0 rfl rfl rfl (ok_getR 1 rfl rfl fl_X9_9 (sT ht) rfl (ok_aload_n 2 rfl rfl rfl (ok_getI 3 rfl rfl fl_X9_15 (sT ht) rfl (Or.inl rfl) (ok_iload_n 4 rfl rfl rfl (ok_callSL (M' := M_Jo_of) (as := [_, _, _]) 5 rfl rfl ml_X9_56 (s_Jo_of (sC ht) hT.2.1) ⟨Nat.le_of_ble_eq_true rfl, Nat.le_of_ble_eq_true rfl⟩ rfl (Nat.le_of_ble_eq_true rfl) (fun σ' z hz => ?_))))))
  obtain ⟨hs_, hz⟩ := hz
  rw [hs_]; clear hs_ σ'
  refine ok_lret 6 rfl rfl rfl ?_
  exact ⟨_, rfl, rfl, trivial⟩
theorem s_Ta_countAbove0 {σ : eS} {t : Nat} (ht : tA t) (hT : iT σ t) : MtI shA M_Ta_countAbove0 [vr t] σ (fun σ' _ => σ' = σ ∧ True) := by
  refine Mt.of okM_Ta_countAbove0 (Nat.le_of_ble_eq_true rfl) (fun hk hg => ?_)
  refine ok_aload_n 0 rfl rfl rfl (ok_iconst 1 rfl rfl (by decide) (ok_callVL (M' := M_Ta_joinedBy) (as := [_]) 2 rfl rfl ml_X9_65 (s_Ta_joinedBy ht hT) (sT ht) rfl (Nat.le_of_ble_eq_true rfl) ⟨Nat.le_of_ble_eq_true rfl, Nat.le_of_ble_eq_true rfl⟩ rfl (Nat.le_of_ble_eq_true rfl) (fun σ' z hz => ?_)))
  obtain ⟨hs_, hz⟩ := hz
  rw [hs_]; clear hs_ σ'
  refine ok_callSI (M' := M_Jl_bitCount) (as := [_]) 3 rfl rfl ml_X9_69 (s_Jl_bitCount) ⟨Nat.le_of_ble_eq_true rfl, Nat.le_of_ble_eq_true rfl⟩ rfl (Nat.le_of_ble_eq_true rfl) (fun σ' z2 hz2 => ?_)
  obtain ⟨hs_, hz2⟩ := hz2
  rw [hs_]; clear hs_ σ'
  refine ok_iret 4 rfl rfl rfl ?_
  exact ⟨_, rfl, rfl, trivial⟩
end
section
section E7
variable {sh : eSh} {M : eM} {pc pc' : Nat} {ls : List (Option eV)} {st : List eV} {σ : eS} {Q : eS → Option eV → Prop}
theorem ok_ist18 (i : Nat) {r : List (Option eV)} {x0 x1 x2 x3 x4 x5 x6 x7 x8 x9 x10 x11 x12 x13 x14 x15 x16 x17 y : Option eV} {z : Int} (hd : nth (eTab M) i = some (pc, .istore 18, pc')) (hn : pc + 2 = pc') (hp : eNl x17 = true) (k : Ok sh M pc' (x0 :: x1 :: x2 :: x3 :: x4 :: x5 :: x6 :: x7 :: x8 :: x9 :: x10 :: x11 :: x12 :: x13 :: x14 :: x15 :: x16 :: x17 :: some (vi z) :: r) st σ Q) : Ok sh M pc (x0 :: x1 :: x2 :: x3 :: x4 :: x5 :: x6 :: x7 :: x8 :: x9 :: x10 :: x11 :: x12 :: x13 :: x14 :: x15 :: x16 :: x17 :: y :: r) (vi z :: st) σ Q :=
  og_len fun h => og_istore (k := 18) i hd hn (by rw [← h]; simp) (by show Ok sh M pc' (x0 :: x1 :: x2 :: x3 :: x4 :: x5 :: x6 :: x7 :: x8 :: x9 :: x10 :: x11 :: x12 :: x13 :: x14 :: x15 :: x16 :: eClr x17 :: some (vi z) :: r) st σ Q; rw [eClr_id hp]; exact k)
theorem ok_inc18 (i : Nat) {r : List (Option eV)} {x0 x1 x2 x3 x4 x5 x6 x7 x8 x9 x10 x11 x12 x13 x14 x15 x16 x17 : Option eV} {n z : Int} (hd : nth (eTab M) i = some (pc, .iinc 18 n, pc')) (hn : pc + 3 = pc') (hp : eNl x17 = true) (hr : rg (z + n)) (k : Ok sh M pc' (x0 :: x1 :: x2 :: x3 :: x4 :: x5 :: x6 :: x7 :: x8 :: x9 :: x10 :: x11 :: x12 :: x13 :: x14 :: x15 :: x16 :: x17 :: some (vi (z + n)) :: r) st σ Q) : Ok sh M pc (x0 :: x1 :: x2 :: x3 :: x4 :: x5 :: x6 :: x7 :: x8 :: x9 :: x10 :: x11 :: x12 :: x13 :: x14 :: x15 :: x16 :: x17 :: some (vi z) :: r) st σ Q :=
  og_iinc (k := 18) i hd hn rfl hr (by show Ok sh M pc' (x0 :: x1 :: x2 :: x3 :: x4 :: x5 :: x6 :: x7 :: x8 :: x9 :: x10 :: x11 :: x12 :: x13 :: x14 :: x15 :: x16 :: eClr x17 :: some (vi (z + n)) :: r) st σ Q; rw [eClr_id hp]; exact k)
theorem ok_ist19 (i : Nat) {r : List (Option eV)} {x0 x1 x2 x3 x4 x5 x6 x7 x8 x9 x10 x11 x12 x13 x14 x15 x16 x17 x18 y : Option eV} {z : Int} (hd : nth (eTab M) i = some (pc, .istore 19, pc')) (hn : pc + 2 = pc') (hp : eNl x18 = true) (k : Ok sh M pc' (x0 :: x1 :: x2 :: x3 :: x4 :: x5 :: x6 :: x7 :: x8 :: x9 :: x10 :: x11 :: x12 :: x13 :: x14 :: x15 :: x16 :: x17 :: x18 :: some (vi z) :: r) st σ Q) : Ok sh M pc (x0 :: x1 :: x2 :: x3 :: x4 :: x5 :: x6 :: x7 :: x8 :: x9 :: x10 :: x11 :: x12 :: x13 :: x14 :: x15 :: x16 :: x17 :: x18 :: y :: r) (vi z :: st) σ Q :=
  og_len fun h => og_istore (k := 19) i hd hn (by rw [← h]; simp) (by show Ok sh M pc' (x0 :: x1 :: x2 :: x3 :: x4 :: x5 :: x6 :: x7 :: x8 :: x9 :: x10 :: x11 :: x12 :: x13 :: x14 :: x15 :: x16 :: x17 :: eClr x18 :: some (vi z) :: r) st σ Q; rw [eClr_id hp]; exact k)
theorem ok_inc19 (i : Nat) {r : List (Option eV)} {x0 x1 x2 x3 x4 x5 x6 x7 x8 x9 x10 x11 x12 x13 x14 x15 x16 x17 x18 : Option eV} {n z : Int} (hd : nth (eTab M) i = some (pc, .iinc 19 n, pc')) (hn : pc + 3 = pc') (hp : eNl x18 = true) (hr : rg (z + n)) (k : Ok sh M pc' (x0 :: x1 :: x2 :: x3 :: x4 :: x5 :: x6 :: x7 :: x8 :: x9 :: x10 :: x11 :: x12 :: x13 :: x14 :: x15 :: x16 :: x17 :: x18 :: some (vi (z + n)) :: r) st σ Q) : Ok sh M pc (x0 :: x1 :: x2 :: x3 :: x4 :: x5 :: x6 :: x7 :: x8 :: x9 :: x10 :: x11 :: x12 :: x13 :: x14 :: x15 :: x16 :: x17 :: x18 :: some (vi z) :: r) st σ Q :=
  og_iinc (k := 19) i hd hn rfl hr (by show Ok sh M pc' (x0 :: x1 :: x2 :: x3 :: x4 :: x5 :: x6 :: x7 :: x8 :: x9 :: x10 :: x11 :: x12 :: x13 :: x14 :: x15 :: x16 :: x17 :: eClr x18 :: some (vi (z + n)) :: r) st σ Q; rw [eClr_id hp]; exact k)
theorem ok_ist20 (i : Nat) {r : List (Option eV)} {x0 x1 x2 x3 x4 x5 x6 x7 x8 x9 x10 x11 x12 x13 x14 x15 x16 x17 x18 x19 y : Option eV} {z : Int} (hd : nth (eTab M) i = some (pc, .istore 20, pc')) (hn : pc + 2 = pc') (hp : eNl x19 = true) (k : Ok sh M pc' (x0 :: x1 :: x2 :: x3 :: x4 :: x5 :: x6 :: x7 :: x8 :: x9 :: x10 :: x11 :: x12 :: x13 :: x14 :: x15 :: x16 :: x17 :: x18 :: x19 :: some (vi z) :: r) st σ Q) : Ok sh M pc (x0 :: x1 :: x2 :: x3 :: x4 :: x5 :: x6 :: x7 :: x8 :: x9 :: x10 :: x11 :: x12 :: x13 :: x14 :: x15 :: x16 :: x17 :: x18 :: x19 :: y :: r) (vi z :: st) σ Q :=
  og_len fun h => og_istore (k := 20) i hd hn (by rw [← h]; simp) (by show Ok sh M pc' (x0 :: x1 :: x2 :: x3 :: x4 :: x5 :: x6 :: x7 :: x8 :: x9 :: x10 :: x11 :: x12 :: x13 :: x14 :: x15 :: x16 :: x17 :: x18 :: eClr x19 :: some (vi z) :: r) st σ Q; rw [eClr_id hp]; exact k)
theorem ok_lst21 (i : Nat) {r : List (Option eV)} {y2 : Option eV} {x0 x1 x2 x3 x4 x5 x6 x7 x8 x9 x10 x11 x12 x13 x14 x15 x16 x17 x18 x19 x20 y : Option eV} {z : Int} (hd : nth (eTab M) i = some (pc, .lstore 21, pc')) (hn : pc + 2 = pc') (hp : eNl x20 = true) (k : Ok sh M pc' (x0 :: x1 :: x2 :: x3 :: x4 :: x5 :: x6 :: x7 :: x8 :: x9 :: x10 :: x11 :: x12 :: x13 :: x14 :: x15 :: x16 :: x17 :: x18 :: x19 :: x20 :: some (vl z) :: none :: r) st σ Q) : Ok sh M pc (x0 :: x1 :: x2 :: x3 :: x4 :: x5 :: x6 :: x7 :: x8 :: x9 :: x10 :: x11 :: x12 :: x13 :: x14 :: x15 :: x16 :: x17 :: x18 :: x19 :: x20 :: y :: y2 :: r) (vl z :: st) σ Q :=
  og_len fun h => og_lstore (k := 21) i hd hn (by rw [← h]; simp) (by show Ok sh M pc' (x0 :: x1 :: x2 :: x3 :: x4 :: x5 :: x6 :: x7 :: x8 :: x9 :: x10 :: x11 :: x12 :: x13 :: x14 :: x15 :: x16 :: x17 :: x18 :: x19 :: eClr x20 :: some (vl z) :: none :: r) st σ Q; rw [eClr_id hp]; exact k)
theorem ok_lst23 (i : Nat) {r : List (Option eV)} {y2 : Option eV} {x0 x1 x2 x3 x4 x5 x6 x7 x8 x9 x10 x11 x12 x13 x14 x15 x16 x17 x18 x19 x20 x21 x22 y : Option eV} {z : Int} (hd : nth (eTab M) i = some (pc, .lstore 23, pc')) (hn : pc + 2 = pc') (hp : eNl x22 = true) (k : Ok sh M pc' (x0 :: x1 :: x2 :: x3 :: x4 :: x5 :: x6 :: x7 :: x8 :: x9 :: x10 :: x11 :: x12 :: x13 :: x14 :: x15 :: x16 :: x17 :: x18 :: x19 :: x20 :: x21 :: x22 :: some (vl z) :: none :: r) st σ Q) : Ok sh M pc (x0 :: x1 :: x2 :: x3 :: x4 :: x5 :: x6 :: x7 :: x8 :: x9 :: x10 :: x11 :: x12 :: x13 :: x14 :: x15 :: x16 :: x17 :: x18 :: x19 :: x20 :: x21 :: x22 :: y :: y2 :: r) (vl z :: st) σ Q :=
  og_len fun h => og_lstore (k := 23) i hd hn (by rw [← h]; simp) (by show Ok sh M pc' (x0 :: x1 :: x2 :: x3 :: x4 :: x5 :: x6 :: x7 :: x8 :: x9 :: x10 :: x11 :: x12 :: x13 :: x14 :: x15 :: x16 :: x17 :: x18 :: x19 :: x20 :: x21 :: eClr x22 :: some (vl z) :: none :: r) st σ Q; rw [eClr_id hp]; exact k)
end E7
/-! what holds of the class between calls -/
def iTs (σ : eS) : Prop := ∀ t, tA t → iT σ t ∧ mT σ t
def iCh (σ : eS) : Prop := ∀ k : Int, 0 ≤ k → k < 8 → 0 ≤ σ 17 k ∧ σ 17 k ≤ 7
def iMi (σ : eS) : Prop := (0 ≤ σ 22 5 ∧ σ 22 5 ≤ 64 ∧ 0 ≤ σ 22 4 ∧ σ 22 4 ≤ 8 ∧ 0 ≤ σ 22 6 ∧ σ 22 6 ≤ 799999992 ∧ σ 22 3 ≤ 8) ∧ (∀ k : Int, 0 ≤ k → k < σ 22 5 → 0 ≤ σ 23 k) ∧ (∀ k : Int, 0 ≤ k → k < 512 → 0 ≤ σ 24 k ∧ σ 24 k ≤ 7) ∧ sm (fun k => σ 23 k) (σ 22 5).toNat ≤ σ 22 6
def iSh (σ : eS) : Prop := 0 ≤ σ 46 1 ∧ σ 46 1 ≤ 1216
def iSu (σ : eS) : Prop := ∀ k : Int, 0 ≤ k → k < 64 → 0 ≤ σ 15 k
/-- the searches: no mark is ahead of the counter -/
def iSe (σ : eS) : Prop := 0 ≤ σ 16 3 ∧ ∀ T : Int, 0 ≤ T → T < 256 → σ 19 T ≤ σ 16 3
theorem iSe_cg {σ τ : eS} (h : iSe σ) (e : τ 16 3 = σ 16 3) (e2 : ∀ k, τ 19 k = σ 19 k) : iSe τ := by
  unfold iSe
  simp only [e, e2]
  exact h
/-- at most N searches were made -/
def mkS (N : Int) (σ σ' : eS) : Prop := iSe σ → σ 16 3 + N ≤ 2147483647 → iSe σ' ∧ σ 16 3 ≤ σ' 16 3 ∧ σ' 16 3 ≤ σ 16 3 + N
theorem mkS_cg {N : Int} {σ τ : eS} (hN : 0 ≤ N) (e : τ 16 3 = σ 16 3) (e2 : ∀ k, τ 19 k = σ 19 k) : mkS N σ τ := fun h _ => ⟨iSe_cg h e e2, by omega, by omega⟩
theorem mkS_fr {N : Int} {P : Nat → Int → Prop} {σ τ : eS} (hN : 0 ≤ N) (f : fr P σ τ) (h1 : ¬ P 16 3) (h2 : ∀ k, ¬ P 19 k) : mkS N σ τ := mkS_cg hN (f _ _ h1) (fun k => f _ _ (h2 k))
theorem mkS.tr {a b : Int} {σ τ υ : eS} (h : mkS a σ τ) (g : mkS b τ υ) (ha : 0 ≤ a) (hb : 0 ≤ b) : mkS (a + b) σ υ := fun i l => by
  obtain ⟨i1, l1, l2⟩ := h i (by omega)
  obtain ⟨j1, k1, k2⟩ := g i1 (by omega)
  exact ⟨j1, by omega, by omega⟩
theorem mkS.mono {a b : Int} {σ τ : eS} (h : mkS a σ τ) (hab : a ≤ b) : mkS b σ τ := fun i l => by
  obtain ⟨i1, l1, l2⟩ := h i (by omega)
  exact ⟨i1, l1, by omega⟩
def IA (σ : eS) : Prop := tL σ ∧ iTs σ ∧ iCh σ ∧ iMi σ ∧ iSh σ ∧ iSu σ
/-- the tape stays -/
def tpS (σ σ' : eS) : Prop := (∀ k, σ' 10 k = σ 10 k) ∧ ∀ k, σ' 11 k = σ 11 k
/-- the tables stay -/
def tbS (σ σ' : eS) : Prop := ∀ (c : Nat) (k : Int), 2 ≤ c → c ≤ 9 → (c ≤ 5 → k ≤ 3 ∨ 4 ≤ k) → σ' c k = σ c k
/-- but for what was found and kept: both, what was sought, what was rounded -/
def tbV (σ σ' : eS) : Prop := ∀ (c : Nat) (k : Int), 2 ≤ c → c ≤ 9 → (c ≤ 5 → k ≤ 3) → σ' c k = σ c k
def tbW (σ σ' : eS) : Prop := ∀ (c : Nat) (k : Int), 2 ≤ c → c ≤ 9 → (c ≤ 5 → k ≤ 5) → σ' c k = σ c k
def tbR (σ σ' : eS) : Prop := ∀ (c : Nat) (k : Int), 2 ≤ c → c ≤ 9 → (c ≤ 5 → k ≤ 3 ∨ 6 ≤ k) → σ' c k = σ c k
theorem tbS.v {σ σ' : eS} (h : tbS σ σ') : tbV σ σ' := fun c k a b _ => h c k a b (fun _ => by omega)
theorem tbW.v {σ σ' : eS} (h : tbW σ σ') : tbV σ σ' := fun c k a b d => h c k a b (fun q => by have := d q; omega)
theorem tbR.v {σ σ' : eS} (h : tbR σ σ') : tbV σ σ' := fun c k a b d => h c k a b (fun q => Or.inl (d q))
/-- the parts kept, what was shown, and few searches -/
def miS (σ σ' : eS) : Prop := ∀ (c : Nat) (k : Int), 22 ≤ c → c ≤ 24 → σ' c k = σ c k
def swS (σ σ' : eS) : Prop := ∀ (c : Nat) (k : Int), 46 ≤ c → c ≤ 47 → σ' c k = σ c k
def otS (σ σ' : eS) : Prop := miS σ σ' ∧ swS σ σ' ∧ mkS 20000 σ σ'
theorem otS_rf (σ : eS) : otS σ σ := ⟨fun _ _ _ _ => rfl, fun _ _ _ _ => rfl, mkS_cg (by decide) rfl (fun _ => rfl)⟩
theorem otS_fr {P : Nat → Int → Prop} {σ τ : eS} (f : fr P σ τ) (h : ∀ c k, 22 ≤ c ∧ c ≤ 24 ∨ 46 ≤ c ∧ c ≤ 47 ∨ c = 16 ∧ k = 3 ∨ c = 19 → ¬ P c k) : otS σ τ := ⟨fun c k a b => f c k (h c k (by omega)), fun c k a b => f c k (h c k (by omega)), mkS_fr (by decide) f (h _ _ (by omega)) (fun k => h _ _ (by omega))⟩
def QA0 (σ σ' : eS) : Prop := IA σ' ∧ tpS σ σ' ∧ otS σ σ'
def QA (σ σ' : eS) : Prop := IA σ' ∧ tpS σ σ' ∧ tbS σ σ' ∧ otS σ σ'
def QAk (σ σ' : eS) : Prop := IA σ' ∧ tpS σ σ' ∧ tbW σ σ' ∧ otS σ σ'
def QAr (σ σ' : eS) : Prop := IA σ' ∧ tpS σ σ' ∧ tbR σ σ' ∧ otS σ σ'
theorem QA.k {σ σ' : eS} (h : QA σ σ') : QAk σ σ' := ⟨h.1, h.2.1, fun c k a b _ => h.2.2.1 c k a b (fun _ => by omega), h.2.2.2⟩
theorem QA.r {σ σ' : eS} (h : QA σ σ') : QAr σ σ' := ⟨h.1, h.2.1, fun c k a b _ => h.2.2.1 c k a b (fun _ => by omega), h.2.2.2⟩
theorem QA.q0 {σ σ' : eS} (h : QA σ σ') : QA0 σ σ' := ⟨h.1, h.2.1, h.2.2.2⟩
theorem iTs_cg {σ τ : eS} (h : iTs σ) (e : ∀ c k, 2 ≤ c → c ≤ 9 → (c ≤ 5 → k ≤ 3) → τ c k = σ c k) : iTs τ := fun t ht => by
  have n := tA_10 ht
  obtain ⟨h1, h2⟩ := h t ht
  exact ⟨(iT_cg h1 (e _ _ (by omega) (by omega) (by omega)) (e _ _ (by omega) (by omega) (by omega)) (fun k => e _ _ (by omega) (by omega) (by omega))).1, mT_cg h2 (e _ _ (by omega) (by omega) (by omega)) (e _ _ (by omega) (by omega) (by omega)) (fun k => e _ _ (by omega) (by omega) (by omega))⟩
theorem iTs_set {σ τ : eS} {t : Nat} (ht : tA t) (h : iTs σ) (e : ∀ c k, 2 ≤ c → c ≤ 9 → c ≠ t → c ≠ t + 4 → τ c k = σ c k) (h1 : iT τ t) (h2 : mT τ t) : iTs τ := fun u hu => by
  by_cases q : u = t
  · subst q; exact ⟨h1, h2⟩
  · have n := tA_10 ht
    have m := tA_10 hu
    obtain ⟨g1, g2⟩ := h u hu
    exact ⟨(iT_cg g1 (e _ _ (by omega) (by omega) (by omega) (by omega)) (e _ _ (by omega) (by omega) (by omega) (by omega)) (fun k => e _ _ (by omega) (by omega) (by omega) (by omega))).1, mT_cg g2 (e _ _ (by omega) (by omega) (by omega) (by omega)) (e _ _ (by omega) (by omega) (by omega) (by omega)) (fun k => e _ _ (by omega) (by omega) (by omega) (by omega))⟩
theorem iCh_cg {σ τ : eS} (h : iCh σ) (e : ∀ k, τ 17 k = σ 17 k) : iCh τ := fun k a b => by rw [e]; exact h k a b
theorem iMi_cg {σ τ : eS} (h : iMi σ) (e : ∀ c k, 22 ≤ c → c ≤ 24 → τ c k = σ c k) : iMi τ := by
  have e2 : ∀ k, τ 22 k = σ 22 k := fun k => e _ _ (by omega) (by omega)
  have e3 : τ 23 = σ 23 := by funext k; exact e _ _ (by omega) (by omega)
  have e4 : τ 24 = σ 24 := by funext k; exact e _ _ (by omega) (by omega)
  unfold iMi
  simp only [e2, e3, e4]
  exact h
theorem iSh_cg {σ τ : eS} (h : iSh σ) (e : ∀ k, τ 46 k = σ 46 k) : iSh τ := by
  unfold iSh
  rw [e]
  exact h
theorem iSu_cg {σ τ : eS} (h : iSu σ) (e : ∀ k, τ 15 k = σ 15 k) : iSu τ := fun k a b => by rw [e]; exact h k a b
/-- a region that none of it speaks of -/
theorem QA_cg {σ τ : eS} (h : IA σ) (e : ∀ c k, (2 ≤ c ∧ c ≤ 9 ∧ (c ≤ 5 → k ≤ 3 ∨ 4 ≤ k)) ∨ c = 10 ∨ c = 11 ∨ c = 15 ∨ c = 16 ∨ c = 17 ∨ c = 19 ∨ (22 ≤ c ∧ c ≤ 24) ∨ c = 46 ∨ c = 47 → τ c k = σ c k) : QA σ τ := by
  have e3 := e 10 3 (by omega)
  refine ⟨⟨?_, iTs_cg h.2.1 (fun c k a b _ => e _ _ (Or.inl ⟨a, b, fun _ => by omega⟩)), iCh_cg h.2.2.1 (fun k => e _ _ (by omega)), iMi_cg h.2.2.2.1 (fun c k a b => e _ _ (by omega)), iSh_cg h.2.2.2.2.1 (fun k => e _ _ (by omega)), iSu_cg h.2.2.2.2.2 (fun k => e _ _ (by omega))⟩, ⟨fun k => e _ _ (by omega), fun k => e _ _ (by omega)⟩, fun c k a b d => e _ _ (Or.inl ⟨a, b, d⟩), fun c k a b => e _ _ (by omega), fun c k a b => e _ _ (by omega), mkS_cg (by decide) (e _ _ (by omega)) (fun k => e _ _ (by omega))⟩
  unfold tL
  rw [e3]
  exact h.1
theorem QA_rf {σ : eS} (h : IA σ) : QA σ σ := ⟨h, ⟨fun _ => rfl, fun _ => rfl⟩, fun _ _ _ _ _ => rfl, otS_rf _⟩
theorem s_Ev_table {σ : eS} {s : Int} (h : IA σ) : MtI shA M_Ev_table [vr 0, vi s] σ (fun σ' _ => IA σ' ∧ σ' 10 3 = 0) := by
  refine Mt.of okM_Ev_table (Nat.le_of_ble_eq_true rfl) (fun hk hg => ?_)
  refine ok_aload_n 0 rfl rfl rfl (ok_iload_n 1 rfl rfl rfl (ok_callVR (M' := M_Ev_slotAt) (as := [_]) 2 rfl rfl ml_X11_86 (s_Ev_slotAt) rfl rfl (Nat.le_of_ble_eq_true rfl) ⟨Nat.le_of_ble_eq_true rfl, Nat.le_of_ble_eq_true rfl⟩ rfl (Nat.le_of_ble_eq_true rfl) (fun σ' z hz => ?_)))
  obtain ⟨hs_, hz⟩ := hz
  rw [hs_]; clear hs_ σ'
  rcases hz with ⟨q, q2⟩ | ⟨q1, q2, q⟩
  · subst q
    refine ok_ast2 3 rfl rfl rfl (ok_aload_n 4 rfl rfl rfl (ok_ifnonnullN 5 rfl rfl (ok_aload_n 6 rfl rfl rfl (ok_getR 7 rfl rfl fl_X11_18 rfl rfl (ok_callVV (M' := M_Tp_drop) (as := []) 8 rfl rfl ml_X11_90 (s_Tp_drop) rfl rfl (Nat.le_of_ble_eq_true rfl) ⟨Nat.le_of_ble_eq_true rfl, Nat.le_of_ble_eq_true rfl⟩ rfl (Nat.le_of_ble_eq_true rfl) (fun τ f => ?_))))))
    refine ok_bipush 9 rfl rfl (by decide) (by decide) (ok_iret 10 rfl rfl rfl ?_)
    refine ⟨_, rfl, ⟨⟨by omega, by omega⟩, iTs_cg h.2.1 (fun c k a b d => f.1 c k (by omega)), iCh_cg h.2.2.1 (fun k => f.1 _ k (by omega)), iMi_cg h.2.2.2.1 (fun c k a b => f.1 c k (by omega)), iSh_cg h.2.2.2.2.1 (fun k => f.1 _ k (by omega)), iSu_cg h.2.2.2.2.2 (fun k => f.1 _ k (by omega))⟩, f.2⟩
  · subst q
    have ht := sl_tA ⟨q1, q2⟩
    have n := tA_10 ht
    refine ok_ast2 3 rfl rfl rfl (ok_aload_n 4 rfl rfl rfl (ok_ifnonnull 5 20 rfl rfl rfl (ok_aload_n 11 rfl rfl rfl (ok_getR 12 rfl rfl fl_X11_18 rfl rfl (ok_aload_n 13 rfl rfl rfl (ok_callVI (M' := M_Tp_readInto) (as := [_]) 14 rfl rfl ml_X11_93 (s_Tp_readInto ht h.1 (h.2.1 _ ht).1 (h.2.1 _ ht).2) rfl rfl (Nat.le_of_ble_eq_true rfl) ⟨Nat.le_of_ble_eq_true rfl, Nat.le_of_ble_eq_true rfl⟩ rfl (Nat.le_of_ble_eq_true rfl) (fun τ z f => ?_)))))))
    refine ok_iret 15 rfl rfl rfl ?_
    refine ⟨_, rfl, ⟨⟨by omega, by omega⟩, iTs_set ht h.2.1 (fun c k a b d1 d2 => f.1 c k (by simp only [rgRI]; omega)) f.2.1 f.2.2.1, iCh_cg h.2.2.1 (fun k => f.1 _ k (by simp only [rgRI]; omega)), iMi_cg h.2.2.2.1 (fun c k a b => f.1 c k (by simp only [rgRI]; omega)), iSh_cg h.2.2.2.2.1 (fun k => f.1 _ k (by simp only [rgRI]; omega)), iSu_cg h.2.2.2.2.2 (fun k => f.1 _ k (by simp only [rgRI]; omega))⟩, f.2.2.2⟩
theorem s_Ev_fault {σ : eS} {w : Int} : MtI shA M_Ev_fault [vr 0, vi w] σ (fun σ' z => σ' = σ ∧ z = if w = 0 then σ 10 4 else if w = 1 then σ 10 5 else -1) := by
  refine Mt.of okM_Ev_fault (Nat.le_of_ble_eq_true rfl) (fun hk hg => ?_)
  refine ok_iload_n 0 rfl rfl rfl (ok_if_ne 1 12 rfl rfl rfl (fun h1 => ?_) (fun h1 => ?_))
  · refine ok_iload_n 6 rfl rfl rfl (ok_iconst 7 rfl rfl (by decide) (ok_icmp_ne 8 27 rfl rfl rfl (fun h14 => ?_) (fun h14 => ?_)))
    · refine ok_iconst 13 rfl rfl (by decide) (ok_iret 14 rfl rfl rfl ?_)
      refine ⟨_, rfl, rfl, ?_⟩
      first | rw [if_pos (by omega)] | rw [if_neg (by omega), if_pos (by omega)] | rw [if_neg (by omega), if_neg (by omega)]
    · refine ok_aload_n 9 rfl rfl rfl (ok_getR 10 rfl rfl fl_X11_18 rfl rfl (ok_getI 11 rfl rfl fl_X11_100 rfl rfl (Or.inl rfl) (ok_goto 12 28 rfl rfl rfl (ok_iret 14 rfl rfl rfl ?_))))
      refine ⟨_, rfl, rfl, ?_⟩
      first | rw [if_pos (by omega)] | rw [if_neg (by omega), if_pos (by omega)] | rw [if_neg (by omega), if_neg (by omega)]
  · refine ok_aload_n 2 rfl rfl rfl (ok_getR 3 rfl rfl fl_X11_18 rfl rfl (ok_getI 4 rfl rfl fl_X11_97 rfl rfl (Or.inl rfl) (ok_iret 5 rfl rfl rfl ?_)))
    refine ⟨_, rfl, rfl, ?_⟩
    first | rw [if_pos (by omega)] | rw [if_neg (by omega), if_pos (by omega)] | rw [if_neg (by omega), if_neg (by omega)]
def celA (σ : eS) (s i j : Int) : Prop := 0 ≤ s ∧ s < 4 ∧ 0 ≤ i ∧ i < σ (s.toNat + 2) 1 ∧ 0 ≤ j ∧ j < σ (s.toNat + 2) 1
theorem s_Ev_cell {σ : eS} {s i j : Int} (h : IA σ) : MtI shA M_Ev_cell [vr 0, vi s, vi i, vi j] σ (fun σ' z => σ' = σ ∧ ((celA σ s i j ∧ z = cT σ (s.toNat + 2) i j) ∨ (¬ celA σ s i j ∧ z = -1))) := by
  refine Mt.of okM_Ev_cell (Nat.le_of_ble_eq_true rfl) (fun hk hg => ?_)
  refine ok_aload_n 0 rfl rfl rfl (ok_iload_n 1 rfl rfl rfl (ok_callVR (M' := M_Ev_slotAt) (as := [_]) 2 rfl rfl ml_X11_86 (s_Ev_slotAt) rfl rfl (Nat.le_of_ble_eq_true rfl) ⟨Nat.le_of_ble_eq_true rfl, Nat.le_of_ble_eq_true rfl⟩ rfl (Nat.le_of_ble_eq_true rfl) (fun σ' z hz => ?_)))
  obtain ⟨hs_, hz⟩ := hz
  rw [hs_]; clear hs_ σ'
  rcases hz with ⟨q, q2⟩ | ⟨q1, q2, q⟩
  · subst q
    refine ok_ast4 3 rfl rfl rfl (ok_aload 4 rfl rfl rfl (ok_ifnullN 5 30 rfl rfl rfl (ok_iconst 14 rfl rfl (by decide) (ok_iret 15 rfl rfl rfl ?_))))
    exact ⟨_, rfl, rfl, Or.inr ⟨fun w => q2 ⟨w.1, w.2.1⟩, rfl⟩⟩
  · subst q
    have ht := sl_tA ⟨q1, q2⟩
    have hT := (h.2.1 _ ht).1
    have hn := hT.2.1
    refine ok_ast4 3 rfl rfl rfl (ok_aload 4 rfl rfl rfl (ok_ifnull 5 rfl rfl (ok_aload 6 rfl rfl rfl (ok_iload_n 7 rfl rfl rfl (ok_callVI (M' := M_Ta_has) (as := [_]) 8 rfl rfl ml_X11_129 (s_Ta_has ht) (sT ht) rfl (Nat.le_of_ble_eq_true rfl) ⟨Nat.le_of_ble_eq_true rfl, Nat.le_of_ble_eq_true rfl⟩ rfl (Nat.le_of_ble_eq_true rfl) (fun σ' z1 x1 => ?_))))))
    obtain ⟨hs_, x1⟩ := x1
    rw [hs_]; clear hs_ σ'
    refine ok_if_eq 9 30 rfl rfl rfl (fun h18 => ?_) (fun h18 => ?_)
    · refine ok_iconst 14 rfl rfl (by decide) (ok_iret 15 rfl rfl rfl ?_)
      first | exact ⟨_, rfl, rfl, Or.inl ⟨⟨q1, q2, by omega, by omega, by omega, by omega⟩, rfl⟩⟩ | exact ⟨_, rfl, rfl, Or.inr ⟨fun w => by obtain ⟨w1, w2, w3, w4, w5, w6⟩ := w; omega, rfl⟩⟩
    · refine ok_aload 10 rfl rfl rfl (ok_iload_n 11 rfl rfl rfl (ok_callVI (M' := M_Ta_has) (as := [_]) 12 rfl rfl ml_X11_129 (s_Ta_has ht) (sT ht) rfl (Nat.le_of_ble_eq_true rfl) ⟨Nat.le_of_ble_eq_true rfl, Nat.le_of_ble_eq_true rfl⟩ rfl (Nat.le_of_ble_eq_true rfl) (fun σ' z2 x2 => ?_)))
      obtain ⟨hs_, x2⟩ := x2
      rw [hs_]; clear hs_ σ'
      refine ok_if_ne 13 32 rfl rfl rfl (fun h27 => ?_) (fun h27 => ?_)
      · refine ok_aload 16 rfl rfl rfl (ok_getR 17 rfl rfl fl_X11_133 (sT ht) rfl (ok_iload_n 18 rfl rfl rfl (ok_bipush 19 rfl rfl (by decide) (by decide) (ok_imul 20 rfl rfl (by first | omega | (simp [up_if]; omega) | (simp [up_if] at *; omega)) (ok_iload_n 21 rfl rfl rfl (ok_iadd 22 rfl rfl (by first | omega | (simp [up_if]; omega) | (simp [up_if] at *; omega)) (ok_iald 23 rfl rfl (sC ht) (by first | omega | (simp [up_if]; omega) | (simp [up_if] at *; omega)) (ok_iret 24 rfl rfl rfl ?_))))))))
        first | exact ⟨_, rfl, rfl, Or.inl ⟨⟨q1, q2, by omega, by omega, by omega, by omega⟩, rfl⟩⟩ | exact ⟨_, rfl, rfl, Or.inr ⟨fun w => by obtain ⟨w1, w2, w3, w4, w5, w6⟩ := w; omega, rfl⟩⟩
      · refine ok_iconst 14 rfl rfl (by decide) (ok_iret 15 rfl rfl rfl ?_)
        first | exact ⟨_, rfl, rfl, Or.inl ⟨⟨q1, q2, by omega, by omega, by omega, by omega⟩, rfl⟩⟩ | exact ⟨_, rfl, rfl, Or.inr ⟨fun w => by obtain ⟨w1, w2, w3, w4, w5, w6⟩ := w; omega, rfl⟩⟩
def tabA (σ : eS) (s : Int) : Prop := 0 ≤ s ∧ s < 4 ∧ σ (s.toNat + 2) 1 ≠ 0
theorem s_Ev_uneven {σ : eS} {s : Int} (h : IA σ) : MtI shA M_Ev_uneven [vr 0, vi s] σ (fun σ' z => σ' = σ ∧ ((¬ tabA σ s ∧ z = -1) ∨ (tabA σ s ∧ unev (rowT σ (s.toNat + 2)) (colT σ (s.toNat + 2)) (σ (s.toNat + 2) 1) z))) := by
  refine Mt.of okM_Ev_uneven (Nat.le_of_ble_eq_true rfl) (fun hk hg => ?_)
  refine ok_aload_n 0 rfl rfl rfl (ok_iload_n 1 rfl rfl rfl (ok_callVR (M' := M_Ev_filledSlot) (as := [_]) 2 rfl rfl ml_X11_137 (s_Ev_filledSlot) rfl rfl (Nat.le_of_ble_eq_true rfl) ⟨Nat.le_of_ble_eq_true rfl, Nat.le_of_ble_eq_true rfl⟩ rfl (Nat.le_of_ble_eq_true rfl) (fun σ' z hz => ?_)))
  obtain ⟨hs_, hz⟩ := hz
  rw [hs_]; clear hs_ σ'
  rcases hz with ⟨q, q0⟩ | ⟨q1, q2, q, q3⟩
  · subst q
    refine ok_ast2 3 rfl rfl rfl (ok_aload_n 4 rfl rfl rfl (ok_ifnonnullN 5 rfl rfl (ok_iconst 6 rfl rfl (by decide) (ok_goto 7 18 rfl rfl rfl (ok_iret 10 rfl rfl rfl ?_)))))
    exact ⟨_, rfl, rfl, Or.inl ⟨q0, rfl⟩⟩
  · subst q
    have ht := sl_tA ⟨q1, q2⟩
    have hT := (h.2.1 _ ht).1
    refine ok_ast2 3 rfl rfl rfl (ok_aload_n 4 rfl rfl rfl (ok_ifnonnull 5 14 rfl rfl rfl (ok_aload_n 8 rfl rfl rfl (ok_callVI (M' := M_Ta_firstUneven) (as := []) 9 rfl rfl ml_X11_140 (s_Ta_firstUneven ht hT) (sT ht) rfl (Nat.le_of_ble_eq_true rfl) ⟨Nat.le_of_ble_eq_true rfl, Nat.le_of_ble_eq_true rfl⟩ rfl (Nat.le_of_ble_eq_true rfl) (fun σ' z1 x1 => ?_)))))
    obtain ⟨hs_, x1⟩ := x1
    rw [hs_]; clear hs_ σ'
    refine ok_iret 10 rfl rfl rfl ?_
    exact ⟨_, rfl, rfl, Or.inr ⟨⟨q1, q2, q3⟩, x1⟩⟩
theorem s_Ev_look {σ : eS} {s w : Int} (h : IA σ) : MtI shA M_Ev_look [vr 0, vi s, vi w] σ (fun σ' _ => σ' = σ ∧ True) := by
  refine Mt.of okM_Ev_look (Nat.le_of_ble_eq_true rfl) (fun hk hg => ?_)
  refine ok_aload_n 0 rfl rfl rfl (ok_iload_n 1 rfl rfl rfl (ok_callVR (M' := M_Ev_slotAt) (as := [_]) 2 rfl rfl ml_X11_86 (s_Ev_slotAt) rfl rfl (Nat.le_of_ble_eq_true rfl) ⟨Nat.le_of_ble_eq_true rfl, Nat.le_of_ble_eq_true rfl⟩ rfl (Nat.le_of_ble_eq_true rfl) (fun σ' z hz => ?_)))
  obtain ⟨hs_, hz⟩ := hz
  rw [hs_]; clear hs_ σ'
  rcases hz with ⟨q, q2⟩ | ⟨q1, q2, q⟩
  · subst q
    refine ok_ast3 3 rfl rfl rfl (ok_aload_n 4 rfl rfl rfl (ok_ifnonnullN 5 rfl rfl (ok_bipush 6 rfl rfl (by decide) (by decide) (ok_iret 7 rfl rfl rfl ?_))))
    exact ⟨_, rfl, rfl, trivial⟩
  · subst q
    have ht := sl_tA ⟨q1, q2⟩
    have hT := (h.2.1 _ ht).1
    refine ok_ast3 3 rfl rfl rfl (ok_aload_n 4 rfl rfl rfl (ok_ifnonnull 5 13 rfl rfl rfl (ok_iload_n 8 rfl rfl rfl ?_)))
    rcases (by omega : w = 0 ∨ w = 1 ∨ w = 2 ∨ w = 3 ∨ w = 4 ∨ w = 5 ∨ (w < 0 ∨ 5 < w)) with q_ | q_ | q_ | q_ | q_ | q_ | q_
    · subst q_
      refine ok_tin 9 (len := 38) 52 rfl rfl (by decide) (by decide) rfl rfl ?_
      refine ok_aload_n 10 rfl rfl rfl (ok_getI 11 rfl rfl fl_X11_103 (sT ht) rfl (Or.inl rfl) (ok_iret 12 rfl rfl rfl ?_))
      exact ⟨_, rfl, rfl, trivial⟩
    · subst q_
      refine ok_tin 9 (len := 38) 57 rfl rfl (by decide) (by decide) rfl rfl ?_
      refine ok_aload_n 13 rfl rfl rfl (ok_getI 14 rfl rfl fl_X11_103 (sT ht) rfl (Or.inl rfl) (ok_if_ne 15 68 rfl rfl rfl (fun h61 => ?_) (fun h61 => ?_)))
      · refine ok_aload_n 18 rfl rfl rfl (ok_getI 19 rfl rfl fl_X11_106 (sT ht) rfl (Or.inl rfl) (ok_iret 20 rfl rfl rfl ?_))
        exact ⟨_, rfl, rfl, trivial⟩
      · refine ok_iconst 16 rfl rfl (by decide) (ok_goto 17 72 rfl rfl rfl (ok_iret 20 rfl rfl rfl ?_))
        exact ⟨_, rfl, rfl, trivial⟩
    · subst q_
      refine ok_tin 9 (len := 38) 73 rfl rfl (by decide) (by decide) rfl rfl ?_
      refine ok_aload_n 21 rfl rfl rfl (ok_getI 22 rfl rfl fl_X11_109 (sT ht) rfl (Or.inl rfl) (ok_iret 23 rfl rfl rfl ?_))
      exact ⟨_, rfl, rfl, trivial⟩
    · subst q_
      refine ok_tin 9 (len := 38) 78 rfl rfl (by decide) (by decide) rfl rfl ?_
      refine ok_aload_n 24 rfl rfl rfl (ok_callVI (M' := M_Ta_countAbove0) (as := []) 25 rfl rfl ml_X11_112 (s_Ta_countAbove0 ht hT) (sT ht) rfl (Nat.le_of_ble_eq_true rfl) ⟨Nat.le_of_ble_eq_true rfl, Nat.le_of_ble_eq_true rfl⟩ rfl (Nat.le_of_ble_eq_true rfl) (fun σ' z1 x1 => ?_))
      obtain ⟨hs_, x1⟩ := x1
      rw [hs_]; clear hs_ σ'
      refine ok_iret 26 rfl rfl rfl ?_
      exact ⟨_, rfl, rfl, trivial⟩
    · subst q_
      refine ok_tin 9 (len := 38) 83 rfl rfl (by decide) (by decide) rfl rfl ?_
      refine ok_aload_n 27 rfl rfl rfl (ok_callVI (M' := M_Ta_greatestCell) (as := []) 28 rfl rfl ml_X11_116 (s_Ta_greatestCell ht hT) (sT ht) rfl (Nat.le_of_ble_eq_true rfl) ⟨Nat.le_of_ble_eq_true rfl, Nat.le_of_ble_eq_true rfl⟩ rfl (Nat.le_of_ble_eq_true rfl) (fun σ' z1 x1 => ?_))
      obtain ⟨hs_, x1⟩ := x1
      rw [hs_]; clear hs_ σ'
      refine ok_iret 29 rfl rfl rfl ?_
      exact ⟨_, rfl, rfl, trivial⟩
    · subst q_
      refine ok_tin 9 (len := 38) 88 rfl rfl (by decide) (by decide) rfl rfl ?_
      refine ok_aload_n 30 rfl rfl rfl (ok_iconst 31 rfl rfl (by decide) (ok_callVL (M' := M_Ta_joinedBy) (as := [_]) 32 rfl rfl ml_X11_119 (s_Ta_joinedBy ht hT) (sT ht) rfl (Nat.le_of_ble_eq_true rfl) ⟨Nat.le_of_ble_eq_true rfl, Nat.le_of_ble_eq_true rfl⟩ rfl (Nat.le_of_ble_eq_true rfl) (fun σ' z1 x1 => ?_)))
      obtain ⟨hs_, x1⟩ := x1
      rw [hs_]; clear hs_ σ'
      refine ok_aload_n 33 rfl rfl rfl (ok_getI 34 rfl rfl fl_X11_103 (sT ht) rfl (Or.inl rfl) (ok_callSI (M' := M_Jo_countGroups) (as := [_, _]) 35 rfl rfl ml_X11_123 (s_Jo_countGroups hT.2.1) ⟨Nat.le_of_ble_eq_true rfl, Nat.le_of_ble_eq_true rfl⟩ rfl (Nat.le_of_ble_eq_true rfl) (fun σ' z2 x2 => ?_)))
      obtain ⟨hs_, x2⟩ := x2
      rw [hs_]; clear hs_ σ'
      refine ok_iret 36 rfl rfl rfl ?_
      exact ⟨_, rfl, rfl, trivial⟩
    · refine ok_tout 9 (len := 38) 101 rfl rfl q_ rfl ?_
      refine ok_bipush 37 rfl rfl (by decide) (by decide) (ok_iret 38 rfl rfl rfl ?_)
      exact ⟨_, rfl, rfl, trivial⟩
theorem s_Ev_mixing {σ : eS} {s : Int} (h : IA σ) : MtI shA M_Ev_mixing [vr 0, vi s] σ (fun σ' _ => σ' = σ ∧ True) := by
  refine Mt.of okM_Ev_mixing (Nat.le_of_ble_eq_true rfl) (fun hk hg => ?_)
  refine ok_aload_n 0 rfl rfl rfl (ok_iload_n 1 rfl rfl rfl (ok_callVR (M' := M_Ev_filledSlot) (as := [_]) 2 rfl rfl ml_X11_137 (s_Ev_filledSlot) rfl rfl (Nat.le_of_ble_eq_true rfl) ⟨Nat.le_of_ble_eq_true rfl, Nat.le_of_ble_eq_true rfl⟩ rfl (Nat.le_of_ble_eq_true rfl) (fun σ' z hz => ?_)))
  obtain ⟨hs_, hz⟩ := hz
  rw [hs_]; clear hs_ σ'
  rcases hz with ⟨q, q0⟩ | ⟨q1, q2, q, q3⟩
  · subst q
    refine ok_ast2 3 rfl rfl rfl (ok_aload_n 4 rfl rfl rfl (ok_ifnonnullN 5 rfl rfl (ok_iconst 6 rfl rfl (by decide) (ok_goto 7 31 rfl rfl rfl (ok_iret 17 rfl rfl rfl ?_)))))
    exact ⟨_, rfl, rfl, trivial⟩
  · subst q
    have ht := sl_tA ⟨q1, q2⟩
    have hT := (h.2.1 _ ht).1
    refine ok_ast2 3 rfl rfl rfl (ok_aload_n 4 rfl rfl rfl (ok_ifnonnull 5 14 rfl rfl rfl (ok_aload_n 8 rfl rfl rfl (ok_iconst 9 rfl rfl (by decide) (ok_callVL (M' := M_Ta_joinedBy) (as := [_]) 10 rfl rfl ml_X11_119 (s_Ta_joinedBy ht hT) (sT ht) rfl (Nat.le_of_ble_eq_true rfl) ⟨Nat.le_of_ble_eq_true rfl, Nat.le_of_ble_eq_true rfl⟩ rfl (Nat.le_of_ble_eq_true rfl) (fun σ' z1 x1 => ?_))))))
    obtain ⟨hs_, x1⟩ := x1
    rw [hs_]; clear hs_ σ'
    refine ok_aload_n 11 rfl rfl rfl (ok_iconst 12 rfl rfl (by decide) (ok_callVL (M' := M_Ta_joinedBy) (as := [_]) 13 rfl rfl ml_X11_119 (s_Ta_joinedBy ht hT) (sT ht) rfl (Nat.le_of_ble_eq_true rfl) ⟨Nat.le_of_ble_eq_true rfl, Nat.le_of_ble_eq_true rfl⟩ rfl (Nat.le_of_ble_eq_true rfl) (fun σ' z2 x2 => ?_)))
    obtain ⟨hs_, x2⟩ := x2
    rw [hs_]; clear hs_ σ'
    refine ok_aload_n 14 rfl rfl rfl (ok_getI 15 rfl rfl fl_X11_103 (sT ht) rfl (Or.inl rfl) (ok_callSI (M' := M_Jo_leastFullPower) (as := [_, _, _]) 16 rfl rfl ml_X11_279 (s_Jo_leastFullPower hT.2.1) ⟨Nat.le_of_ble_eq_true rfl, Nat.le_of_ble_eq_true rfl⟩ rfl (Nat.le_of_ble_eq_true rfl) (fun σ' z3 x3 => ?_)))
    obtain ⟨hs_, x3⟩ := x3
    rw [hs_]; clear hs_ σ'
    refine ok_iret 17 rfl rfl rfl ?_
    exact ⟨_, rfl, rfl, trivial⟩
theorem s_Ev_kin {σ : eS} {s r : Int} (h : IA σ) : MtI shA M_Ev_kin [vr 0, vi s, vi r] σ (fun σ' _ => σ' = σ ∧ True) := by
  refine Mt.of okM_Ev_kin (Nat.le_of_ble_eq_true rfl) (fun hk hg => ?_)
  refine ok_aload_n 0 rfl rfl rfl (ok_iload_n 1 rfl rfl rfl (ok_callVR (M' := M_Ev_slotAt) (as := [_]) 2 rfl rfl ml_X11_86 (s_Ev_slotAt) rfl rfl (Nat.le_of_ble_eq_true rfl) ⟨Nat.le_of_ble_eq_true rfl, Nat.le_of_ble_eq_true rfl⟩ rfl (Nat.le_of_ble_eq_true rfl) (fun σ' z hz => ?_)))
  obtain ⟨hs_, hz⟩ := hz
  rw [hs_]; clear hs_ σ'
  rcases hz with ⟨q, q2⟩ | ⟨q1, q2, q⟩
  · subst q
    refine ok_ast3 3 rfl rfl rfl (ok_aload_n 4 rfl rfl rfl (ok_ifnullN 5 18 rfl rfl rfl (ok_iconst 10 rfl rfl (by decide) (ok_goto 11 35 rfl rfl rfl (ok_iret 19 rfl rfl rfl ?_)))))
    exact ⟨_, rfl, rfl, trivial⟩
  · subst q
    have ht := sl_tA ⟨q1, q2⟩
    have hT := (h.2.1 _ ht).1
    refine ok_ast3 3 rfl rfl rfl (ok_aload_n 4 rfl rfl rfl (ok_ifnull 5 rfl rfl (ok_aload_n 6 rfl rfl rfl (ok_iload_n 7 rfl rfl rfl (ok_callVI (M' := M_Ta_has) (as := [_]) 8 rfl rfl ml_X11_129 (s_Ta_has ht) (sT ht) rfl (Nat.le_of_ble_eq_true rfl) ⟨Nat.le_of_ble_eq_true rfl, Nat.le_of_ble_eq_true rfl⟩ rfl (Nat.le_of_ble_eq_true rfl) (fun σ' z1 x1 => ?_))))))
    obtain ⟨hs_, x1⟩ := x1
    rw [hs_]; clear hs_ σ'
    refine ok_if_ne 9 22 rfl rfl rfl (fun h15 => ?_) (fun h15 => ?_)
    · refine ok_aload_n 12 rfl rfl rfl (ok_iconst 13 rfl rfl (by decide) (ok_callVL (M' := M_Ta_joinedBy) (as := [_]) 14 rfl rfl ml_X11_119 (s_Ta_joinedBy ht hT) (sT ht) rfl (Nat.le_of_ble_eq_true rfl) ⟨Nat.le_of_ble_eq_true rfl, Nat.le_of_ble_eq_true rfl⟩ rfl (Nat.le_of_ble_eq_true rfl) (fun σ' z2 x2 => ?_)))
      obtain ⟨hs_, x2⟩ := x2
      rw [hs_]; clear hs_ σ'
      refine ok_iload_n 15 rfl rfl rfl (ok_aload_n 16 rfl rfl rfl (ok_getI 17 rfl rfl fl_X11_103 (sT ht) rfl (Or.inl rfl) (ok_callSI (M' := M_Jo_kinOf) (as := [_, _, _]) 18 rfl rfl ml_X11_283 (s_Jo_kinOf hT.2.1) ⟨Nat.le_of_ble_eq_true rfl, Nat.le_of_ble_eq_true rfl⟩ rfl (Nat.le_of_ble_eq_true rfl) (fun σ' z3 x3 => ?_))))
      obtain ⟨hs_, x3⟩ := x3
      rw [hs_]; clear hs_ σ'
      refine ok_iret 19 rfl rfl rfl ?_
      exact ⟨_, rfl, rfl, trivial⟩
    · refine ok_iconst 10 rfl rfl (by decide) (ok_goto 11 35 rfl rfl rfl (ok_iret 19 rfl rfl rfl ?_))
      exact ⟨_, rfl, rfl, trivial⟩
theorem s_Ev_isCell {σ : eS} {x : Int} : MtI shA M_Ev_isCell [vi x] σ (fun σ' z => σ' = σ ∧ ((z = 1 ∧ 0 ≤ x ∧ x ≤ 99999999) ∨ (z = 0 ∧ ¬ (0 ≤ x ∧ x ≤ 99999999)))) := by
  refine Mt.of okM_Ev_isCell (Nat.le_of_ble_eq_true rfl) (fun hk hg => ?_)
  refine ok_iload_n 0 rfl rfl rfl (ok_if_lt 1 15 rfl rfl rfl (fun h1 => ?_) (fun h1 => ?_))
  · refine ok_iconst 7 rfl rfl (by decide) (ok_zret 8 rfl rfl rfl (by first | omega | (simp [up_if]; omega) | (simp [up_if] at *; omega)) ?_)
    exact ⟨_, rfl, rfl, by omega⟩
  · refine ok_iload_n 2 rfl rfl rfl (ok_ldcw 3 (99999999) rfl rfl kc_X11_335 (by decide) (ok_icmp_gt 4 15 rfl rfl rfl (fun h8 => ?_) (fun h8 => ?_)))
    · refine ok_iconst 7 rfl rfl (by decide) (ok_zret 8 rfl rfl rfl (by first | omega | (simp [up_if]; omega) | (simp [up_if] at *; omega)) ?_)
      exact ⟨_, rfl, rfl, by omega⟩
    · refine ok_iconst 5 rfl rfl (by decide) (ok_goto 6 16 rfl rfl rfl (ok_zret 8 rfl rfl rfl (by first | omega | (simp [up_if]; omega) | (simp [up_if] at *; omega)) ?_))
      exact ⟨_, rfl, rfl, by omega⟩
theorem s_Ev_isRule {σ : eS} {x : Int} : MtI shA M_Ev_isRule [vi x] σ (fun σ' z => σ' = σ ∧ ((z = 1 ∧ 0 ≤ x ∧ x ≤ 3) ∨ (z = 0 ∧ ¬ (0 ≤ x ∧ x ≤ 3)))) := by
  refine Mt.of okM_Ev_isRule (Nat.le_of_ble_eq_true rfl) (fun hk hg => ?_)
  refine ok_iload_n 0 rfl rfl rfl (ok_if_lt 1 13 rfl rfl rfl (fun h1 => ?_) (fun h1 => ?_))
  · refine ok_iconst 7 rfl rfl (by decide) (ok_zret 8 rfl rfl rfl (by first | omega | (simp [up_if]; omega) | (simp [up_if] at *; omega)) ?_)
    exact ⟨_, rfl, rfl, by omega⟩
  · refine ok_iload_n 2 rfl rfl rfl (ok_iconst 3 rfl rfl (by decide) (ok_icmp_ge 4 13 rfl rfl rfl (fun h6 => ?_) (fun h6 => ?_)))
    · refine ok_iconst 7 rfl rfl (by decide) (ok_zret 8 rfl rfl rfl (by first | omega | (simp [up_if]; omega) | (simp [up_if] at *; omega)) ?_)
      exact ⟨_, rfl, rfl, by omega⟩
    · refine ok_iconst 5 rfl rfl (by decide) (ok_goto 6 14 rfl rfl rfl (ok_zret 8 rfl rfl rfl (by first | omega | (simp [up_if]; omega) | (simp [up_if] at *; omega)) ?_))
      exact ⟨_, rfl, rfl, by omega⟩
theorem s_Ev_isShare {σ : eS} {x y : Int} : MtI shA M_Ev_isShare [vi x, vi y] σ (fun σ' z => σ' = σ ∧ ((z = 1 ∧ 0 ≤ x ∧ x ≤ 9999 ∧ 1 ≤ y ∧ y ≤ 9999) ∨ (z = 0 ∧ ¬ (0 ≤ x ∧ x ≤ 9999 ∧ 1 ≤ y ∧ y ≤ 9999)))) := by
  refine Mt.of okM_Ev_isShare (Nat.le_of_ble_eq_true rfl) (fun hk hg => ?_)
  refine ok_iload_n 0 rfl rfl rfl (ok_if_lt 1 27 rfl rfl rfl (fun h1 => ?_) (fun h1 => ?_))
  · refine ok_iconst 13 rfl rfl (by decide) (ok_zret 14 rfl rfl rfl (by first | omega | (simp [up_if]; omega) | (simp [up_if] at *; omega)) ?_)
    exact ⟨_, rfl, rfl, by omega⟩
  · refine ok_iload_n 2 rfl rfl rfl (ok_sipush 3 rfl rfl (by decide) (by decide) (ok_icmp_gt 4 27 rfl rfl rfl (fun h8 => ?_) (fun h8 => ?_)))
    · refine ok_iconst 13 rfl rfl (by decide) (ok_zret 14 rfl rfl rfl (by first | omega | (simp [up_if]; omega) | (simp [up_if] at *; omega)) ?_)
      exact ⟨_, rfl, rfl, by omega⟩
    · refine ok_iload_n 5 rfl rfl rfl (ok_iconst 6 rfl rfl (by decide) (ok_icmp_lt 7 27 rfl rfl rfl (fun h13 => ?_) (fun h13 => ?_)))
      · refine ok_iconst 13 rfl rfl (by decide) (ok_zret 14 rfl rfl rfl (by first | omega | (simp [up_if]; omega) | (simp [up_if] at *; omega)) ?_)
        exact ⟨_, rfl, rfl, by omega⟩
      · refine ok_iload_n 8 rfl rfl rfl (ok_sipush 9 rfl rfl (by decide) (by decide) (ok_icmp_gt 10 27 rfl rfl rfl (fun h20 => ?_) (fun h20 => ?_)))
        · refine ok_iconst 13 rfl rfl (by decide) (ok_zret 14 rfl rfl rfl (by first | omega | (simp [up_if]; omega) | (simp [up_if] at *; omega)) ?_)
          exact ⟨_, rfl, rfl, by omega⟩
        · refine ok_iconst 11 rfl rfl (by decide) (ok_goto 12 28 rfl rfl rfl (ok_zret 14 rfl rfl rfl (by first | omega | (simp [up_if]; omega) | (simp [up_if] at *; omega)) ?_))
          exact ⟨_, rfl, rfl, by omega⟩
theorem s_Ev_lack {σ : eS} {s m w : Int} (h : IA σ) : MtI shA M_Ev_lack [vr 0, vi s, vi m, vi w] σ (fun σ' _ => σ' = σ ∧ True) := by
  refine Mt.of okM_Ev_lack (Nat.le_of_ble_eq_true rfl) (fun hk hg => ?_)
  refine ok_aload_n 0 rfl rfl rfl (ok_iload_n 1 rfl rfl rfl (ok_callVR (M' := M_Ev_filledSlot) (as := [_]) 2 rfl rfl ml_X11_137 (s_Ev_filledSlot) rfl rfl (Nat.le_of_ble_eq_true rfl) ⟨Nat.le_of_ble_eq_true rfl, Nat.le_of_ble_eq_true rfl⟩ rfl (Nat.le_of_ble_eq_true rfl) (fun σ' z hz => ?_)))
  obtain ⟨hs_, hz⟩ := hz
  rw [hs_]; clear hs_ σ'
  rcases hz with ⟨q, q0⟩ | ⟨q1, q2, q, q3⟩
  · subst q
    refine ok_ast4 3 rfl rfl rfl (ok_aload 4 rfl rfl rfl (ok_ifnullN 5 28 rfl rfl rfl (ok_iconst 14 rfl rfl (by decide) (ok_iret 15 rfl rfl rfl ?_))))
    exact ⟨_, rfl, rfl, trivial⟩
  · subst q
    have ht := sl_tA ⟨q1, q2⟩
    have hT := (h.2.1 _ ht).1
    refine ok_ast4 3 rfl rfl rfl (ok_aload 4 rfl rfl rfl (ok_ifnull 5 rfl rfl (ok_iload_n 6 rfl rfl rfl (ok_callSI (M' := M_Ev_isCell) (as := [_]) 7 rfl rfl ml_X11_208 (s_Ev_isCell) ⟨Nat.le_of_ble_eq_true rfl, Nat.le_of_ble_eq_true rfl⟩ rfl (Nat.le_of_ble_eq_true rfl) (fun σ' z0 x0 => ?_)))))
    obtain ⟨hs_, x0⟩ := x0
    rw [hs_]; clear hs_ σ'
    refine ok_if_eq 8 28 rfl rfl rfl (fun h16 => ?_) (fun h16 => ?_)
    · refine ok_iconst 14 rfl rfl (by decide) (ok_iret 15 rfl rfl rfl ?_)
      exact ⟨_, rfl, rfl, trivial⟩
    · refine ok_iload_n 9 rfl rfl rfl (ok_if_lt 10 28 rfl rfl rfl (fun h20 => ?_) (fun h20 => ?_))
      · refine ok_iconst 14 rfl rfl (by decide) (ok_iret 15 rfl rfl rfl ?_)
        exact ⟨_, rfl, rfl, trivial⟩
      · refine ok_iload_n 11 rfl rfl rfl (ok_iconst 12 rfl rfl (by decide) (ok_icmp_le 13 30 rfl rfl rfl (fun h25 => ?_) (fun h25 => ?_)))
        · refine ok_aload 16 rfl rfl rfl (ok_iload_n 17 rfl rfl rfl (ok_callVL (M' := M_Ta_joinedBy) (as := [_]) 18 rfl rfl ml_X11_119 (s_Ta_joinedBy ht hT) (sT ht) rfl (Nat.le_of_ble_eq_true rfl) ⟨Nat.le_of_ble_eq_true rfl, Nat.le_of_ble_eq_true rfl⟩ rfl (Nat.le_of_ble_eq_true rfl) (fun σ' z1 x1 => ?_)))
          obtain ⟨hs_, x1⟩ := x1
          rw [hs_]; clear hs_ σ'
          refine ok_lst5 19 rfl rfl rfl (ok_lload 20 rfl rfl rfl (ok_aload 21 rfl rfl rfl (ok_getI 22 rfl rfl fl_X11_103 (sT ht) rfl (Or.inl rfl) (ok_callSI (M' := M_Jo_rowsMostLacking) (as := [_, _]) 23 rfl rfl ml_X11_211 (s_Jo_rowsMostLacking ⟨hT.1, hT.2.1⟩) ⟨Nat.le_of_ble_eq_true rfl, Nat.le_of_ble_eq_true rfl⟩ rfl (Nat.le_of_ble_eq_true rfl) (fun σ' z2 x2 => ?_)))))
          obtain ⟨hs_, x2⟩ := x2
          rw [hs_]; clear hs_ σ'
          refine ok_ist7 24 rfl rfl rfl (ok_lload 25 rfl rfl rfl (ok_iload 26 rfl rfl rfl (ok_aload 27 rfl rfl rfl (ok_getI 28 rfl rfl fl_X11_103 (sT ht) rfl (Or.inl rfl) (ok_callSI (M' := M_Jo_columnsOf) (as := [_, _, _]) 29 rfl rfl ml_X11_214 (s_Jo_columnsOf hT.2.1) ⟨Nat.le_of_ble_eq_true rfl, Nat.le_of_ble_eq_true rfl⟩ rfl (Nat.le_of_ble_eq_true rfl) (fun σ' z3 x3 => ?_))))))
          obtain ⟨hs_, x3⟩ := x3
          rw [hs_]; clear hs_ σ'
          refine ok_ist8 30 rfl rfl rfl (ok_iload_n 31 rfl rfl rfl (ok_if_ne 32 80 rfl rfl rfl (fun h65 => ?_) (fun h65 => ?_)))
          · refine ok_iload_n 39 rfl rfl rfl (ok_iconst 40 rfl rfl (by decide) (ok_icmp_ne 41 90 rfl rfl rfl (fun h82 => ?_) (fun h82 => ?_)))
            · refine ok_iload 44 rfl rfl rfl (ok_iret 45 rfl rfl rfl ?_)
              exact ⟨_, rfl, rfl, trivial⟩
            · refine ok_iload 42 rfl rfl rfl (ok_goto 43 92 rfl rfl rfl (ok_iret 45 rfl rfl rfl ?_))
              exact ⟨_, rfl, rfl, trivial⟩
          · refine ok_iload 33 rfl rfl rfl (ok_callSI (M' := M_Ji_bitCount) (as := [_]) 34 rfl rfl ml_X11_218 (s_Ji_bitCount) ⟨Nat.le_of_ble_eq_true rfl, Nat.le_of_ble_eq_true rfl⟩ rfl (Nat.le_of_ble_eq_true rfl) (fun σ' z hz => ?_))
            rw [hz.1, hz.2]
            clear hz z σ'
            refine ok_iload 35 rfl rfl rfl (ok_callSI (M' := M_Ji_bitCount) (as := [_]) 36 rfl rfl ml_X11_218 (s_Ji_bitCount) ⟨Nat.le_of_ble_eq_true rfl, Nat.le_of_ble_eq_true rfl⟩ rfl (Nat.le_of_ble_eq_true rfl) (fun σ' z hz => ?_))
            rw [hz.1, hz.2]
            clear hz z σ'
            refine ok_isubW 37 rfl rfl (ok_iret 38 rfl rfl rfl ?_)
            exact ⟨_, rfl, rfl, trivial⟩
        · refine ok_iconst 14 rfl rfl (by decide) (ok_iret 15 rfl rfl rfl ?_)
          exact ⟨_, rfl, rfl, trivial⟩
theorem s_Ev_kept {σ : eS} {w : Int} : MtI shA M_Ev_kept [vr 0, vi w] σ (fun σ' z => σ' = σ ∧ (w = 4 → z = σ 10 3)) := by
  refine Mt.of okM_Ev_kept (Nat.le_of_ble_eq_true rfl) (fun hk hg => ?_)
  refine ok_iload_n 0 rfl rfl rfl ?_
  rcases (by omega : w = 0 ∨ w = 1 ∨ w = 2 ∨ w = 3 ∨ w = 4 ∨ (w < 0 ∨ 4 < w)) with q_ | q_ | q_ | q_ | q_ | q_
  · subst q_
    refine ok_tin 1 (len := 35) 36 rfl rfl (by decide) (by decide) rfl rfl ?_
    refine ok_aload_n 2 rfl rfl rfl (ok_getR 3 rfl rfl fl_X11_48 rfl rfl (ok_getI 4 rfl rfl fl_X11_315 rfl rfl (Or.inl rfl) (ok_iret 5 rfl rfl rfl ?_)))
    exact ⟨_, rfl, rfl, by first | (intro _; rfl) | (intro q; exact absurd q (by decide)) | (intro q; omega)⟩
  · subst q_
    refine ok_tin 1 (len := 35) 44 rfl rfl (by decide) (by decide) rfl rfl ?_
    refine ok_aload_n 6 rfl rfl rfl (ok_getR 7 rfl rfl fl_X11_48 rfl rfl (ok_getI 8 rfl rfl fl_X11_318 rfl rfl (Or.inl rfl) (ok_iret 9 rfl rfl rfl ?_)))
    exact ⟨_, rfl, rfl, by first | (intro _; rfl) | (intro q; exact absurd q (by decide)) | (intro q; omega)⟩
  · subst q_
    refine ok_tin 1 (len := 35) 52 rfl rfl (by decide) (by decide) rfl rfl ?_
    refine ok_aload_n 10 rfl rfl rfl (ok_getR 11 rfl rfl fl_X11_48 rfl rfl (ok_getI 12 rfl rfl fl_X11_321 rfl rfl (Or.inl rfl) (ok_iret 13 rfl rfl rfl ?_)))
    exact ⟨_, rfl, rfl, by first | (intro _; rfl) | (intro q; exact absurd q (by decide)) | (intro q; omega)⟩
  · subst q_
    refine ok_tin 1 (len := 35) 60 rfl rfl (by decide) (by decide) rfl rfl ?_
    refine ok_aload_n 14 rfl rfl rfl (ok_getR 15 rfl rfl fl_X11_48 rfl rfl (ok_getI 16 rfl rfl fl_X11_324 rfl rfl (Or.inl rfl) (ok_iret 17 rfl rfl rfl ?_)))
    exact ⟨_, rfl, rfl, by first | (intro _; rfl) | (intro q; exact absurd q (by decide)) | (intro q; omega)⟩
  · subst q_
    refine ok_tin 1 (len := 35) 68 rfl rfl (by decide) (by decide) rfl rfl ?_
    refine ok_aload_n 18 rfl rfl rfl (ok_getR 19 rfl rfl fl_X11_18 rfl rfl (ok_getI 20 rfl rfl fl_X11_82 rfl rfl (Or.inl rfl) (ok_iret 21 rfl rfl rfl ?_)))
    exact ⟨_, rfl, rfl, by first | (intro _; rfl) | (intro q; exact absurd q (by decide)) | (intro q; omega)⟩
  · refine ok_tout 1 (len := 35) 76 rfl rfl q_ rfl ?_
    refine ok_iconst 22 rfl rfl (by decide) (ok_iret 23 rfl rfl rfl ?_)
    exact ⟨_, rfl, rfl, by first | (intro _; rfl) | (intro q; exact absurd q (by decide)) | (intro q; omega)⟩
theorem s_Ev_out {σ : eS} {i : Int} (h : IA σ) : MtI shA M_Ev_out [vr 0, vi i] σ (fun σ' _ => σ' = σ ∧ True) := by
  refine Mt.of okM_Ev_out (Nat.le_of_ble_eq_true rfl) (fun hk hg => ?_)
  have h1 := h.2.2.2.2.1.1
  have h2 := h.2.2.2.2.1.2
  refine ok_iload_n 0 rfl rfl rfl (ok_if_lt 1 15 rfl rfl rfl (fun h1 => ?_) (fun h1 => ?_))
  · refine ok_iconst 7 rfl rfl (by decide) (ok_goto 8 28 rfl rfl rfl (ok_iret 14 rfl rfl rfl ?_))
    exact ⟨_, rfl, rfl, trivial⟩
  · refine ok_iload_n 2 rfl rfl rfl (ok_aload_n 3 rfl rfl rfl (ok_getR 4 rfl rfl fl_X11_69 rfl rfl (ok_getI 5 rfl rfl fl_X11_290 rfl rfl (Or.inl rfl) (ok_icmp_lt 6 19 rfl rfl rfl (fun h12 => ?_) (fun h12 => ?_)))))
    · refine ok_aload_n 9 rfl rfl rfl (ok_getR 10 rfl rfl fl_X11_69 rfl rfl (ok_getR 11 rfl rfl fl_X11_291 rfl rfl (ok_iload_n 12 rfl rfl rfl (ok_iald 13 rfl rfl rfl (by first | omega | (simp [up_if]; omega) | (simp [up_if] at *; omega)) (ok_iret 14 rfl rfl rfl ?_)))))
      exact ⟨_, rfl, rfl, trivial⟩
    · refine ok_iconst 7 rfl rfl (by decide) (ok_goto 8 28 rfl rfl rfl (ok_iret 14 rfl rfl rfl ?_))
      exact ⟨_, rfl, rfl, trivial⟩
def likeA (σ : eS) (s r w : Int) : Prop := 0 ≤ s ∧ s < 4 ∧ 0 ≤ r ∧ r < 4 ∧ 0 ≤ w ∧ w < 4 ∧ σ (s.toNat + 2) 1 ≠ 0 ∧ σ (s.toNat + 2) 1 = σ (r.toNat + 2) 1
theorem s_Ev_areLike {σ : eS} {s r w : Int} : MtI shA M_Ev_areLike [vr 0, vi s, vi r, vi w] σ (fun σ' z => σ' = σ ∧ ((z = 0 ∧ ¬ likeA σ s r w) ∨ (z = 1 ∧ likeA σ s r w))) := by
  refine Mt.of okM_Ev_areLike (Nat.le_of_ble_eq_true rfl) (fun hk hg => ?_)
  refine ok_aload_n 0 rfl rfl rfl (ok_iload_n 1 rfl rfl rfl (ok_callVR (M' := M_Ev_filledSlot) (as := [_]) 2 rfl rfl ml_X11_137 (s_Ev_filledSlot) rfl rfl (Nat.le_of_ble_eq_true rfl) ⟨Nat.le_of_ble_eq_true rfl, Nat.le_of_ble_eq_true rfl⟩ rfl (Nat.le_of_ble_eq_true rfl) (fun σ' z1 x1 => ?_)))
  obtain ⟨hs_, x1⟩ := x1
  rw [hs_]; clear hs_ σ'
  refine ok_ast4 3 rfl rfl rfl (ok_aload_n 4 rfl rfl rfl (ok_iload_n 5 rfl rfl rfl (ok_callVR (M' := M_Ev_filledSlot) (as := [_]) 6 rfl rfl ml_X11_137 (s_Ev_filledSlot) rfl rfl (Nat.le_of_ble_eq_true rfl) ⟨Nat.le_of_ble_eq_true rfl, Nat.le_of_ble_eq_true rfl⟩ rfl (Nat.le_of_ble_eq_true rfl) (fun σ' z2 x2 => ?_))))
  obtain ⟨hs_, x2⟩ := x2
  rw [hs_]; clear hs_ σ'
  rcases x1 with ⟨q, q0⟩ | ⟨q1, q2, q, q3⟩
  · subst q
    refine ok_ast5 7 rfl rfl rfl (ok_aload 8 rfl rfl rfl (ok_ifnullN 9 49 rfl rfl rfl (ok_iconst 23 rfl rfl (by decide) (ok_zret 24 rfl rfl rfl (by first | omega | (simp [up_if]; omega) | (simp [up_if] at *; omega)) ?_))))
    exact ⟨_, rfl, rfl, Or.inl ⟨rfl, fun w => q0 ⟨w.1, w.2.1, w.2.2.2.2.2.2.1⟩⟩⟩
  · subst q
    have ht := sl_tA ⟨q1, q2⟩
    rcases x2 with ⟨q, r0⟩ | ⟨r1, r2, q, r3⟩
    · subst q
      refine ok_ast5 7 rfl rfl rfl (ok_aload 8 rfl rfl rfl (ok_ifnull 9 rfl rfl (ok_aload 10 rfl rfl rfl (ok_ifnullN 11 49 rfl rfl rfl (ok_iconst 23 rfl rfl (by decide) (ok_zret 24 rfl rfl rfl (by first | omega | (simp [up_if]; omega) | (simp [up_if] at *; omega)) ?_))))))
      exact ⟨_, rfl, rfl, Or.inl ⟨rfl, fun w => r0 ⟨w.2.2.1, w.2.2.2.1, by show σ (r.toNat + 2) 1 ≠ 0; rw [← w.2.2.2.2.2.2.2]; exact w.2.2.2.2.2.2.1⟩⟩⟩
    · subst q
      have hu := sl_tA ⟨r1, r2⟩
      refine ok_ast5 7 rfl rfl rfl (ok_aload 8 rfl rfl rfl (ok_ifnull 9 rfl rfl (ok_aload 10 rfl rfl rfl (ok_ifnull 11 rfl rfl (ok_aload 12 rfl rfl rfl (ok_getI 13 rfl rfl fl_X11_103 (sT ht) rfl (Or.inl rfl) (ok_aload 14 rfl rfl rfl (ok_getI 15 rfl rfl fl_X11_103 (sT hu) rfl (Or.inl rfl) (ok_icmp_ne 16 49 rfl rfl rfl (fun h34 => ?_) (fun h34 => ?_))))))))))
      · refine ok_iconst 23 rfl rfl (by decide) (ok_zret 24 rfl rfl rfl (by first | omega | (simp [up_if]; omega) | (simp [up_if] at *; omega)) ?_)
        exact ⟨_, rfl, rfl, Or.inl ⟨rfl, fun w => h34 w.2.2.2.2.2.2.2⟩⟩
      · refine ok_aload_n 17 rfl rfl rfl (ok_iload_n 18 rfl rfl rfl (ok_callVR (M' := M_Ev_slotAt) (as := [_]) 19 rfl rfl ml_X11_86 (s_Ev_slotAt) rfl rfl (Nat.le_of_ble_eq_true rfl) ⟨Nat.le_of_ble_eq_true rfl, Nat.le_of_ble_eq_true rfl⟩ rfl (Nat.le_of_ble_eq_true rfl) (fun σ' z3 x3 => ?_)))
        obtain ⟨hs_, x3⟩ := x3
        rw [hs_]; clear hs_ σ'
        rcases x3 with ⟨q, q2⟩ | ⟨w1, w2, q⟩
        · subst q
          refine ok_ifnullN 20 49 rfl rfl rfl (ok_iconst 23 rfl rfl (by decide) (ok_zret 24 rfl rfl rfl (by first | omega | (simp [up_if]; omega) | (simp [up_if] at *; omega)) ?_))
          exact ⟨_, rfl, rfl, Or.inl ⟨rfl, fun w => q2 ⟨w.2.2.2.2.1, w.2.2.2.2.2.1⟩⟩⟩
        · subst q
          refine ok_ifnull 20 rfl rfl (ok_iconst 21 rfl rfl (by decide) (ok_goto 22 50 rfl rfl rfl (ok_zret 24 rfl rfl rfl (by first | omega | (simp [up_if]; omega) | (simp [up_if] at *; omega)) ?_)))
          exact ⟨_, rfl, rfl, Or.inr ⟨rfl, q1, q2, r1, r2, w1, w2, q3, h34⟩⟩
end
