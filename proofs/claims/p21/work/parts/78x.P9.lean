/-- the next piece, exactly: where it begins; the end, a number, a sign -/
def LX (σ σ' : eS) : Prop := σ' 0 12 = sk (σ 5) (σ 0 6) (σ 0 13) ∧ ((¬ sk (σ 5) (σ 0 6) (σ 0 13) < σ 0 6 ∧ σ' 0 11 = 0 ∧ σ' 0 13 = sk (σ 5) (σ 0 6) (σ 0 13)) ∨ (dgA (σ 5) (σ 0 6) (sk (σ 5) (σ 0 6) (σ 0 13)) ∧ σ' 0 11 = 2 ∧ σ' 0 13 = de (σ 5) (σ 0 6) (sk (σ 5) (σ 0 6) (σ 0 13)) ∧ (de (σ 5) (σ 0 6) (sk (σ 5) (σ 0 6) (σ 0 13)) - sk (σ 5) (σ 0 6) (σ 0 13) ≤ 6 → σ' 0 14 = vaD (σ 5) (sk (σ 5) (σ 0 6) (σ 0 13)) (de (σ 5) (σ 0 6) (sk (σ 5) (σ 0 6) (σ 0 13))))) ∨ (sk (σ 5) (σ 0 6) (σ 0 13) < σ 0 6 ∧ ¬ dgA (σ 5) (σ 0 6) (sk (σ 5) (σ 0 6) (σ 0 13)) ∧ σ' 0 11 = 3 ∧ σ' 0 15 = σ 5 (sk (σ 5) (σ 0 6) (σ 0 13)) ∧ σ' 0 13 = sk (σ 5) (σ 0 6) (σ 0 13) + 1))
theorem t_Mo_next {σ : eS} (h : P0 σ) (hby : ∀ k : Int, 0 ≤ k → k < σ 0 6 → 0 ≤ σ 5 k) : MtV shB M_Mo_next [vr 0] σ (fun σ' => lex σ σ' ∧ LX σ σ') := by
  refine Mt.of okM_Mo_next (Nat.le_of_ble_eq_true rfl) (fun hk hg => ?_)
  obtain ⟨p1, p2, p3⟩ := h
  refine lpO (fun _ : eS => [some (vr 0), none]) (fun τ => τ) (fun τ => fr (fun c k => c = 0 ∧ k = 13) σ τ ∧ σ 0 13 ≤ τ 0 13 ∧ τ 0 13 ≤ σ 0 6 ∧ ∀ j, σ 0 13 ≤ j → j < τ 0 13 → blA (σ 5) (σ 0 6) j) (fun τ => (600 - τ 0 13).toNat) ?_ σ ⟨fr.rf, by omega, by omega, fun j a b => by omega⟩
  rintro τ ⟨f, h1, h2, hbl⟩ ih
  have f6 : τ 0 6 = σ 0 6 := f 0 6 (by omega)
  have f5 : ∀ k, τ 5 k = σ 5 k := fun k => f 5 k (by omega)
  have sq : τ 0 13 < σ 0 6 → seeB τ (τ 0 13) = σ 5 (τ 0 13) := fun q => by unfold seeB; rw [if_pos (by omega), f5]
  have sn : ¬ τ 0 13 < σ 0 6 → seeB τ (τ 0 13) = -1 := fun q => by unfold seeB; rw [if_neg (by omega)]
  refine ok_aload_n 0 rfl rfl rfl (ok_aload_n 1 rfl rfl rfl (ok_getI 2 rfl rfl fl_X12_132 rfl rfl (Or.inl rfl) (ok_callVI (M' := M_Mo_see) (as := [_]) 3 rfl rfl ml_X12_135 (s_Mo_see (by omega) (by omega)) rfl rfl (Nat.le_of_ble_eq_true rfl) ⟨Nat.le_of_ble_eq_true rfl, Nat.le_of_ble_eq_true rfl⟩ rfl (Nat.le_of_ble_eq_true rfl) (fun σ' z hz => ?_))))
  rw [hz.1, hz.2]
  clear hz z σ'
  refine ok_bipush 4 rfl rfl (by decide) (by decide) (ok_icmp_eq 5 26 rfl rfl rfl (fun h10 => ?_) (fun h10 => ?_))
  · have hl : τ 0 13 < τ 0 6 := seeB_lt (by omega)
    refine ok_aload_n 12 rfl rfl rfl (ok_dup 13 rfl rfl rfl (ok_getI 14 rfl rfl fl_X12_132 rfl rfl (Or.inl rfl) (ok_iconst 15 rfl rfl (by decide) (ok_iadd 16 rfl rfl (by first | omega | (simp [up_if]; omega) | (simp [up_if] at *; omega)) (ok_putI 17 rfl rfl fl_X12_132 rfl rfl rfl rfl (ok_goto 18 0 rfl rfl rfl ?_))))))
    refine ih _ ⟨fr_up f ⟨rfl, rfl⟩, by rw [up_same]; omega, by rw [up_same]; omega, fun j a b => ?_⟩ (by rw [up_same]; omega)
    rw [up_same] at b
    rcases (by omega : j < τ 0 13 ∨ j = τ 0 13) with q | q
    · exact hbl j a q
    · rw [q]
      have := sq (by omega)
      exact ⟨by omega, by omega⟩
  · refine ok_aload_n 6 rfl rfl rfl (ok_aload_n 7 rfl rfl rfl (ok_getI 8 rfl rfl fl_X12_132 rfl rfl (Or.inl rfl) (ok_callVI (M' := M_Mo_see) (as := [_]) 9 rfl rfl ml_X12_135 (s_Mo_see (by omega) (by omega)) rfl rfl (Nat.le_of_ble_eq_true rfl) ⟨Nat.le_of_ble_eq_true rfl, Nat.le_of_ble_eq_true rfl⟩ rfl (Nat.le_of_ble_eq_true rfl) (fun σ' z hz => ?_))))
    rw [hz.1, hz.2]
    clear hz z σ'
    refine ok_bipush 10 rfl rfl (by decide) (by decide) (ok_icmp_ne 11 39 rfl rfl rfl (fun h23 => ?_) (fun h23 => ?_))
    · have hsk : sk (σ 5) (σ 0 6) (σ 0 13) = τ 0 13 := sk_un h1 hbl (fun q => by have := sq q.1; have := q.2; omega)
      obtain ⟨τ1, e1⟩ : ∃ x, x = up (up (up τ 0 12 (τ 0 13)) 0 14 0) 0 15 0 := ⟨_, rfl⟩
      have g1 : fr (fun c k => c = 0 ∧ 11 ≤ k ∧ k ≤ 15) σ τ1 := by
        rw [e1]
        exact fr_up (fr_up (fr_up (f.mono (fun c k q => by omega)) (by omega)) (by omega)) (by omega)
      have g12 : τ1 0 12 = τ 0 13 := by rw [e1]; simp [up_if]
      have g13 : τ1 0 13 = τ 0 13 := by rw [e1]; simp [up_if]
      have g14 : τ1 0 14 = 0 := by rw [e1]; simp [up_if]
      have g6 : τ1 0 6 = σ 0 6 := by rw [e1]; simp [up_if, f6]
      refine ok_aload_n 19 rfl rfl rfl (ok_aload_n 20 rfl rfl rfl (ok_getI 21 rfl rfl fl_X12_132 rfl rfl (Or.inl rfl) (ok_putI 22 rfl rfl fl_X12_138 rfl rfl rfl rfl (ok_aload_n 23 rfl rfl rfl (ok_aload_n 24 rfl rfl rfl (ok_getI 25 rfl rfl fl_X12_132 rfl rfl (Or.inl rfl) (ok_callVI (M' := M_Mo_see) (as := [_]) 26 rfl rfl ml_X12_135 (s_Mo_see (by simp [up_if]; omega) (by simp [up_if]; omega)) rfl rfl (Nat.le_of_ble_eq_true rfl) ⟨Nat.le_of_ble_eq_true rfl, Nat.le_of_ble_eq_true rfl⟩ rfl (Nat.le_of_ble_eq_true rfl) (fun σ' z hz => ?_))))))))
      obtain ⟨hs_, hz⟩ := hz
      rw [hs_]; clear hs_ σ'
      refine ok_ist1 27 rfl rfl rfl (ok_aload_n 28 rfl rfl rfl (ok_iconst 29 rfl rfl (by decide) (ok_putI 30 rfl rfl fl_X12_141 rfl rfl rfl rfl (ok_aload_n 31 rfl rfl rfl (ok_iconst 32 rfl rfl (by decide) (ok_putI 33 rfl rfl fl_X12_144 rfl rfl rfl rfl ?_))))))
      rw [← e1]
      refine ok_iload_n 34 rfl rfl rfl (ok_iconst 35 rfl rfl (by decide) (ok_icmp_ne 36 79 rfl rfl rfl (fun h68 => ?_) (fun h68 => ?_)))
      · refine ok_iload_n 41 rfl rfl rfl (ok_i2l 42 rfl rfl (ok_ldc2 43 (48) rfl rfl kc_X12_150 (by decide) (ok_ldc2 44 (57) rfl rfl kc_X12_152 (by decide) (ok_callSI (M' := M_Mo_isIn) (as := [_, _, _]) 45 rfl rfl ml_X12_99 (s_Mo_isIn) ⟨Nat.le_of_ble_eq_true rfl, Nat.le_of_ble_eq_true rfl⟩ rfl (Nat.le_of_ble_eq_true rfl) (fun σ' w hw => ?_)))))
        obtain ⟨hs_, hw⟩ := hw
        rw [hs_]; clear hs_ σ'
        refine ok_if_eq 46 169 rfl rfl rfl (fun h90 => ?_) (fun h90 => ?_)
        · have hq : z = seeB τ (τ 0 13) := by rw [hz]; simp [seeB, up_if]
          have hl : τ 0 13 < τ 0 6 := seeB_lt (by omega)
          have hnd : ¬ (48 ≤ z ∧ z ≤ 57) := fun q => by rw [if_pos q] at hw; omega
          have s5 := sq (by omega)
          refine ok_aload_n 86 rfl rfl rfl (ok_iconst 87 rfl rfl (by decide) (ok_putI 88 rfl rfl fl_X12_147 rfl rfl rfl rfl (ok_aload_n 89 rfl rfl rfl (ok_iload_n 90 rfl rfl rfl (ok_putI 91 rfl rfl fl_X12_144 rfl rfl rfl rfl (ok_aload_n 92 rfl rfl rfl (ok_dup 93 rfl rfl rfl (ok_getI 94 rfl rfl fl_X12_132 rfl rfl (Or.inl rfl) (ok_iconst 95 rfl rfl (by decide) (ok_iadd 96 rfl rfl (by first | omega | (simp [up_if]; omega) | (simp [up_if] at *; omega)) (ok_putI 97 rfl rfl fl_X12_132 rfl rfl rfl rfl (ok_vret 98 rfl rfl rfl ?_))))))))))))
          refine ⟨rfl, ⟨fr_up (fr_up (fr_up g1 (by omega)) (by omega)) (by omega), by simp [up_if]; omega, by simp [up_if]; omega, by simp [up_if]; omega, by simp [up_if], by simp [up_if]; omega, by simp [up_if]; omega, by simp [up_if]; omega⟩, ?_⟩
          unfold LX
          rw [hsk]
          refine ⟨by simp [up_if, g12], Or.inr (Or.inr ⟨by omega, fun q => hnd (by have := q.2; omega), by simp [up_if], ?_, ?_⟩)⟩
          · simp [up_if]; omega
          · simp [up_if, g13]
        · refine ok_aload_n 47 rfl rfl rfl (ok_iconst 48 rfl rfl (by decide) (ok_putI 49 rfl rfl fl_X12_147 rfl rfl rfl rfl ?_))
          have hd : 48 ≤ z ∧ z ≤ 57 := by
            by_cases q : 48 ≤ z ∧ z ≤ 57
            · exact q
            · rw [if_neg q] at hw; omega
          have hz13 : z = seeB (up τ1 0 11 2) (τ 0 13) := by
            rw [hz, e1]; simp [seeB, up_if]
          refine lpO (fun _ : eS => [some (vr 0), some (vi z)]) (fun τ => τ) (fun ρ => fr (fun c k => c = 0 ∧ 11 ≤ k ∧ k ≤ 15) σ ρ ∧ ρ 0 11 = 2 ∧ ρ 0 12 = τ 0 13 ∧ (τ 0 13 < ρ 0 13 ∨ (ρ 0 13 = τ 0 13 ∧ 48 ≤ seeB ρ (ρ 0 13) ∧ seeB ρ (ρ 0 13) ≤ 57)) ∧ ρ 0 13 ≤ σ 0 6 ∧ 0 ≤ ρ 0 14 ∧ ρ 0 14 ≤ p10 (ρ 0 13 - ρ 0 12) ∧ (∀ j, τ 0 13 ≤ j → j < ρ 0 13 → dgA (σ 5) (σ 0 6) j) ∧ (ρ 0 13 - τ 0 13 ≤ 6 → ρ 0 14 = vaN (σ 5) (τ 0 13) (ρ 0 13 - τ 0 13).toNat)) (fun ρ => (600 - ρ 0 13).toNat) ?_ (up τ1 0 11 2) ⟨fr_up g1 (by omega), by simp [up_if], by simp [up_if]; omega, Or.inr ⟨by simp [up_if]; omega, by rw [up_nk _ _ _ _ (by decide), g13, ← hz13]; exact hd⟩, by simp [up_if]; omega, by simp [up_if]; omega, by simp [up_if, g12, g13, g14, p10], fun j a b => by rw [up_nk _ _ _ _ (by decide), g13] at b; omega, fun _ => by rw [up_nk _ _ _ _ (by decide), g14, up_nk _ _ _ _ (by decide), g13, Int.sub_self]; rfl⟩
          rintro ρ ⟨r1, r2, r3, r4, r5, r6, r7, r8, r9⟩ ihh
          have z5 : ρ 0 13 < σ 0 6 → seeB ρ (ρ 0 13) = σ 5 (ρ 0 13) := fun q => by unfold seeB; rw [if_pos (by have := r1 0 6 (by omega); omega)]; exact r1 5 _ (by omega)
          have nx : 48 ≤ seeB ρ (ρ 0 13) ∧ seeB ρ (ρ 0 13) ≤ 57 → ρ 0 13 < σ 0 6 → ∀ j, τ 0 13 ≤ j → j < ρ 0 13 + 1 → dgA (σ 5) (σ 0 6) j := fun a c j x y => by
            rcases (by omega : j < ρ 0 13 ∨ j = ρ 0 13) with q | q
            · exact r8 j x q
            · rw [q]; have := z5 c; exact ⟨c, by omega⟩
          have r0 : ρ 0 6 = σ 0 6 := r1 0 6 (by omega)
          have rp := p10_le (ρ 0 13 - ρ 0 12)
          refine ok_aload_n 50 rfl rfl rfl (ok_aload_n 51 rfl rfl rfl (ok_getI 52 rfl rfl fl_X12_132 rfl rfl (Or.inl rfl) (ok_callVI (M' := M_Mo_see) (as := [_]) 53 rfl rfl ml_X12_135 (s_Mo_see (by omega) (by omega)) rfl rfl (Nat.le_of_ble_eq_true rfl) ⟨Nat.le_of_ble_eq_true rfl, Nat.le_of_ble_eq_true rfl⟩ rfl (Nat.le_of_ble_eq_true rfl) (fun σ' z hz => ?_))))
          rw [hz.1, hz.2]
          clear hz z σ'
          refine ok_i2l 54 rfl rfl (ok_ldc2 55 (48) rfl rfl kc_X12_150 (by decide) (ok_ldc2 56 (57) rfl rfl kc_X12_152 (by decide) (ok_callSI (M' := M_Mo_isIn) (as := [_, _, _]) 57 rfl rfl ml_X12_99 (s_Mo_isIn) ⟨Nat.le_of_ble_eq_true rfl, Nat.le_of_ble_eq_true rfl⟩ rfl (Nat.le_of_ble_eq_true rfl) (fun σ' w hw => ?_))))
          obtain ⟨hs_, hw⟩ := hw
          rw [hs_]; clear hs_ σ'
          refine ok_if_eq 58 189 rfl rfl rfl (fun h116 => ?_) (fun h116 => ?_)
          · refine ok_vret 98 rfl rfl rfl ?_
            have hn : ¬ (48 ≤ seeB ρ (ρ 0 13) ∧ seeB ρ (ρ 0 13) ≤ 57) := fun q => by rw [if_pos q] at hw; omega
            have ht : τ 0 13 < ρ 0 13 := by omega
            have hdq := r8 (τ 0 13) (Int.le_refl _) ht
            have hde : de (σ 5) (σ 0 6) (τ 0 13) = ρ 0 13 := de_un (by omega) r8 (fun q => hn (by have := z5 q.1; have := q.2; omega))
            refine ⟨rfl, ⟨r1, by omega, by omega, by omega, by omega, fun _ => by omega, by omega, by omega⟩, ?_⟩
            unfold LX
            rw [hsk, hde]
            exact ⟨r3, Or.inr (Or.inl ⟨hdq, r2, rfl, r9⟩)⟩
          · have hd : 48 ≤ seeB ρ (ρ 0 13) ∧ seeB ρ (ρ 0 13) ≤ 57 := by
              by_cases q : 48 ≤ seeB ρ (ρ 0 13) ∧ seeB ρ (ρ 0 13) ≤ 57
              · exact q
              · rw [if_neg q] at hw; omega
            have hl : ρ 0 13 < ρ 0 6 := seeB_lt (by omega)
            refine ok_aload_n 59 rfl rfl rfl (ok_getI 60 rfl rfl fl_X12_132 rfl rfl (Or.inl rfl) (ok_aload_n 61 rfl rfl rfl (ok_getI 62 rfl rfl fl_X12_138 rfl rfl (Or.inl rfl) (ok_isub 63 rfl rfl (by first | omega | (simp [up_if]; omega) | (simp [up_if] at *; omega)) (ok_bipush 64 rfl rfl (by decide) (by decide) (ok_icmp_ge 65 156 rfl rfl rfl (fun h130 => ?_) (fun h130 => ?_)))))))
            · refine ok_aload_n 79 rfl rfl rfl (ok_dup 80 rfl rfl rfl (ok_getI 81 rfl rfl fl_X12_132 rfl rfl (Or.inl rfl) (ok_iconst 82 rfl rfl (by decide) (ok_iadd 83 rfl rfl (by first | omega | (simp [up_if]; omega) | (simp [up_if] at *; omega)) (ok_putI 84 rfl rfl fl_X12_132 rfl rfl rfl rfl (ok_goto 85 98 rfl rfl rfl ?_))))))
              refine ihh _ ⟨fr_up r1 (by omega), by simp [up_if]; omega, by simp [up_if]; omega, Or.inl (by rw [up_same]; omega), by rw [up_same]; omega, by simp [up_if]; omega, ?_, by rw [up_same]; exact nx hd (by omega), fun q => by rw [up_same] at q; omega⟩ (by rw [up_same]; omega)
              rw [up_same, up_nk _ _ _ _ (by decide), up_nk _ _ _ _ (by decide), p10_m (by omega)]
              rw [p10_m (by omega)] at r7
              exact r7
            · refine ok_aload_n 66 rfl rfl rfl (ok_bipush 67 rfl rfl (by decide) (by decide) (ok_aload_n 68 rfl rfl rfl (ok_getI 69 rfl rfl fl_X12_141 rfl rfl (Or.inl rfl) (ok_imul 70 rfl rfl (by first | omega | (simp [up_if]; omega) | (simp [up_if] at *; omega)) (ok_aload_n 71 rfl rfl rfl (ok_aload_n 72 rfl rfl rfl (ok_getI 73 rfl rfl fl_X12_132 rfl rfl (Or.inl rfl) (ok_callVI (M' := M_Mo_see) (as := [_]) 74 rfl rfl ml_X12_135 (s_Mo_see (by omega) (by omega)) rfl rfl (Nat.le_of_ble_eq_true rfl) ⟨Nat.le_of_ble_eq_true rfl, Nat.le_of_ble_eq_true rfl⟩ rfl (Nat.le_of_ble_eq_true rfl) (fun σ' z hz => ?_)))))))))
              rw [hz.1, hz.2]
              clear hz z σ'
              refine ok_iadd 75 rfl rfl (by first | omega | (simp [up_if]; omega) | (simp [up_if] at *; omega)) (ok_bipush 76 rfl rfl (by decide) (by decide) (ok_isub 77 rfl rfl (by first | omega | (simp [up_if]; omega) | (simp [up_if] at *; omega)) (ok_putI 78 rfl rfl fl_X12_141 rfl rfl rfl rfl (ok_aload_n 79 rfl rfl rfl (ok_dup 80 rfl rfl rfl (ok_getI 81 rfl rfl fl_X12_132 rfl rfl (Or.inl rfl) (ok_iconst 82 rfl rfl (by decide) (ok_iadd 83 rfl rfl (by first | omega | (simp [up_if]; omega) | (simp [up_if] at *; omega)) (ok_putI 84 rfl rfl fl_X12_132 rfl rfl rfl rfl (ok_goto 85 98 rfl rfl rfl ?_))))))))))
              have hp := p10_s (d := ρ 0 13 - ρ 0 12) (x := ρ 0 14) (c := seeB ρ (ρ 0 13) - 48) (by omega) (by omega) r7 (by omega)
              refine ihh _ ⟨fr_up (fr_up r1 (by omega)) (by omega), by simp [up_if]; omega, by simp [up_if]; omega, Or.inl (by simp [up_if]; omega), by simp [up_if]; omega, by simp [up_if]; omega, ?_, by rw [up_same]; exact nx hd (by omega), fun q => ?_⟩ (by simp [up_if]; omega)
              · have e : ρ 0 13 + 1 - ρ 0 12 = ρ 0 13 - ρ 0 12 + 1 := by omega
                simp [up_if, e]
                omega
              · rw [up_same, up_nk _ _ _ _ (by decide), up_same, up_nk _ _ _ _ (by decide : (13 : Int) ≠ 14), show ρ 0 13 + 1 - τ 0 13 = (ρ 0 13 - τ 0 13) + 1 by omega, vaN_s (by omega), ← r9 (by omega), show τ 0 13 + (ρ 0 13 - τ 0 13) = ρ 0 13 by omega, ← z5 (by omega)]
                omega
      · have hq : z = seeB τ (τ 0 13) := by rw [hz]; simp [seeB, up_if]
        refine ok_aload_n 37 rfl rfl rfl (ok_iconst 38 rfl rfl (by decide) (ok_putI 39 rfl rfl fl_X12_147 rfl rfl rfl rfl (ok_goto 40 189 rfl rfl rfl (ok_vret 98 rfl rfl rfl ?_))))
        refine ⟨rfl, ⟨fr_up g1 (by omega), by simp [up_if]; omega, by simp [up_if]; omega, by simp [up_if]; omega, by simp [up_if], by simp [up_if], by simp [up_if]; omega, by simp [up_if]; omega⟩, ?_⟩
        have hl : ¬ τ 0 13 < σ 0 6 := fun q => by have := sq q; have := hby (τ 0 13) (by omega) q; omega
        unfold LX
        rw [hsk]
        exact ⟨by rw [up_nk _ _ _ _ (by decide), g12], Or.inl ⟨hl, up_same _ _ _ _, by rw [up_nk _ _ _ _ (by decide), g13]⟩⟩
    · have hl : τ 0 13 < τ 0 6 := seeB_lt (by omega)
      refine ok_aload_n 12 rfl rfl rfl (ok_dup 13 rfl rfl rfl (ok_getI 14 rfl rfl fl_X12_132 rfl rfl (Or.inl rfl) (ok_iconst 15 rfl rfl (by decide) (ok_iadd 16 rfl rfl (by first | omega | (simp [up_if]; omega) | (simp [up_if] at *; omega)) (ok_putI 17 rfl rfl fl_X12_132 rfl rfl rfl rfl (ok_goto 18 0 rfl rfl rfl ?_))))))
      refine ih _ ⟨fr_up f ⟨rfl, rfl⟩, by rw [up_same]; omega, by rw [up_same]; omega, fun j a b => ?_⟩ (by rw [up_same]; omega)
      rw [up_same] at b
      rcases (by omega : j < τ 0 13 ∨ j = τ 0 13) with q | q
      · exact hbl j a q
      · rw [q]
        have := sq (by omega)
        exact ⟨by omega, by omega⟩
