theorem s_Mo_fails {σ : eS} {k : Int} (hk0 : k ≠ 0) : MtI shB M_Mo_fails [vr 0, vi k] σ (fun σ' z => z = 0 ∧ fr (fun c k => c = 0 ∧ (k = 9 ∨ k = 10)) σ σ' ∧ σ' 0 9 ≠ 0) := by
  refine Mt.of okM_Mo_fails (Nat.le_of_ble_eq_true rfl) (fun hk hg => ?_)
  refine ok_aload_n 0 rfl rfl rfl (ok_getI 1 rfl rfl fl_X12_154 rfl rfl (Or.inl rfl) (ok_if_ne 2 20 rfl rfl rfl (fun h4 => ?_) (fun h4 => ?_)))
  · refine ok_iconst 10 rfl rfl (by decide) (ok_zret 11 rfl rfl rfl (by first | omega | (simp [up_if]; omega) | (simp [up_if] at *; omega)) ?_)
    exact ⟨_, rfl, rfl, fr.rf, h4⟩
  · refine ok_aload_n 3 rfl rfl rfl (ok_iload_n 4 rfl rfl rfl (ok_putI 5 rfl rfl fl_X12_154 rfl rfl rfl rfl (ok_aload_n 6 rfl rfl rfl (ok_aload_n 7 rfl rfl rfl (ok_getI 8 rfl rfl fl_X12_138 rfl rfl (Or.inl rfl) (ok_putI 9 rfl rfl fl_X12_157 rfl rfl rfl rfl (ok_iconst 10 rfl rfl (by decide) (ok_zret 11 rfl rfl rfl (by first | omega | (simp [up_if]; omega) | (simp [up_if] at *; omega)) ?_))))))))
    exact ⟨_, rfl, rfl, fr_up (fr_up fr.rf (by omega)) (by omega), by simp [up_if]; exact hk0⟩
def Pz (σ : eS) : Prop := 0 ≤ σ 0 12 ∧ σ 0 12 ≤ σ 0 13 ∧ σ 0 13 ≤ σ 0 6 ∧ σ 0 6 ≤ 600 ∧ (σ 0 11 = 0 ∨ σ 0 11 = 2 ∨ σ 0 11 = 3) ∧ (σ 0 11 ≠ 0 → σ 0 12 < σ 0 13) ∧ 0 ≤ σ 0 14 ∧ σ 0 14 ≤ 999999
theorem Pz.of {σ σ' : eS} (h : P0 σ) (hl : lex σ σ') : Pz σ' := by
  obtain ⟨h1, h2, h3⟩ := h
  obtain ⟨f, l1, l2, l3, l4, l5, l6⟩ := hl
  have f6 := f 0 6 (by omega)
  exact ⟨by omega, by omega, by omega, by omega, l4, l5, l6⟩
theorem Pz.P0 {σ : eS} (h : Pz σ) : P0 σ := ⟨by have := h.1; have := h.2.1; omega, h.2.2.1, h.2.2.2.1⟩
theorem Pz.fr {σ σ' : eS} (h : Pz σ) (f : fr (fun c k => c ≠ 0 ∨ (k < 6 ∨ (6 < k ∧ k < 11) ∨ 15 < k)) σ σ') : Pz σ' := by
  unfold Pz
  rw [f 0 12 (by omega), f 0 13 (by omega), f 0 6 (by omega), f 0 11 (by omega), f 0 14 (by omega)]
  exact h
def numB (σ : eS) : Prop := σ 0 11 = 2 ∧ σ 0 13 - σ 0 12 ≤ 6
theorem s_Mo_isNumber {σ : eS} (h : Pz σ) : MtI shB M_Mo_isNumber [vr 0] σ (fun σ' z => σ' = σ ∧ ((z = 1 ∧ numB σ) ∨ (z = 0 ∧ ¬ numB σ))) := by
  refine Mt.of okM_Mo_isNumber (Nat.le_of_ble_eq_true rfl) (fun hk hg => ?_)
  obtain ⟨h1, h2, h3, h4, -⟩ := h
  refine ok_aload_n 0 rfl rfl rfl (ok_getI 1 rfl rfl fl_X12_147 rfl rfl (Or.inl rfl) (ok_iconst 2 rfl rfl (by decide) (ok_icmp_ne 3 26 rfl rfl rfl (fun h5 => ?_) (fun h5 => ?_))))
  · refine ok_iconst 13 rfl rfl (by decide) (ok_zret 14 rfl rfl rfl (by first | omega | (simp [up_if]; omega) | (simp [up_if] at *; omega)) ?_)
    exact ⟨_, rfl, rfl, by unfold numB; omega⟩
  · refine ok_aload_n 4 rfl rfl rfl (ok_getI 5 rfl rfl fl_X12_132 rfl rfl (Or.inl rfl) (ok_aload_n 6 rfl rfl rfl (ok_getI 7 rfl rfl fl_X12_138 rfl rfl (Or.inl rfl) (ok_isub 8 rfl rfl (by first | omega | (simp [up_if]; omega) | (simp [up_if] at *; omega)) (ok_bipush 9 rfl rfl (by decide) (by decide) (ok_icmp_gt 10 26 rfl rfl rfl (fun h19 => ?_) (fun h19 => ?_)))))))
    · refine ok_iconst 13 rfl rfl (by decide) (ok_zret 14 rfl rfl rfl (by first | omega | (simp [up_if]; omega) | (simp [up_if] at *; omega)) ?_)
      exact ⟨_, rfl, rfl, by unfold numB; omega⟩
    · refine ok_iconst 11 rfl rfl (by decide) (ok_goto 12 27 rfl rfl rfl (ok_zret 14 rfl rfl rfl (by first | omega | (simp [up_if]; omega) | (simp [up_if] at *; omega)) ?_))
      exact ⟨_, rfl, rfl, by unfold numB; omega⟩
def uOk (σ : eS) (k : Int) : Prop := 1 ≤ σ 7 k ∧ σ 7 k ≤ 999999 ∧ 0 ≤ σ 6 k ∧ σ 6 k ≤ 999999
abbrev rgF : Nat → Int → Prop := fun c k => (c = 0 ∧ 9 ≤ k ∧ k ≤ 15) ∨ c = 6 ∨ c = 7
def QrF (σ : eS) (k : Int) (σ' : eS) (z : Int) : Prop := fr rgF σ σ' ∧ Pz σ' ∧ ((z = 0 ∧ σ' 0 9 ≠ 0) ∨ (z = 1 ∧ σ 0 12 < σ' 0 12 ∧ σ' 0 9 = σ 0 9 ∧ k < 8 ∧ (0 < σ 0 18 → k ≠ σ 0 19) ∧ uOk σ' (8 * σ 0 18 + k) ∧ ∀ j, j ≠ 8 * σ 0 18 + k → σ' 6 j = σ 6 j ∧ σ' 7 j = σ 7 j))
theorem s_Mo_readFraction {σ : eS} {k : Int} (h : Pz σ) (hk0 : 0 ≤ k ∧ k ≤ 8) (hr : 0 ≤ σ 0 18 ∧ σ 0 18 ≤ 7) : MtI shB M_Mo_readFraction [vr 0, vi k] σ (QrF σ k) := by
  refine Mt.of okM_Mo_readFraction (Nat.le_of_ble_eq_true rfl) (fun hk hg => ?_)
  have hfail : ∀ (τ σ' : eS) (z : Int), fr rgF σ τ → Pz τ → z = 0 ∧ fr (fun c k => c = 0 ∧ (k = 9 ∨ k = 10)) τ σ' ∧ σ' 0 9 ≠ 0 → QrF σ k σ' z := fun τ σ' z f0 p0 hz =>
    ⟨f0.tr (hz.2.1.mono (fun c k q => by simp only [rgF]; omega)), p0.fr (hz.2.1.mono (fun c k q => by omega)), Or.inl ⟨hz.1, hz.2.2⟩⟩
  obtain ⟨h1, h2, h3, h4, h5, h6, h7, h8⟩ := id h
  refine ok_aload_n 0 rfl rfl rfl (ok_callVI (M' := M_Mo_isNumber) (as := []) 1 rfl rfl ml_X12_160 (s_Mo_isNumber h) rfl rfl (Nat.le_of_ble_eq_true rfl) ⟨Nat.le_of_ble_eq_true rfl, Nat.le_of_ble_eq_true rfl⟩ rfl (Nat.le_of_ble_eq_true rfl) (fun σ' z hz => ?_))
  obtain ⟨hs_, hz⟩ := hz
  rw [hs_]; clear hs_ σ'
  refine ok_if_ne 2 13 rfl rfl rfl (fun h4 => ?_) (fun h4 => ?_)
  · refine ok_iload_n 7 rfl rfl rfl (ok_bipush 8 rfl rfl (by decide) (by decide) (ok_icmp_ne 9 25 rfl rfl rfl (fun h16 => ?_) (fun h16 => ?_)))
    · refine ok_aload_n 14 rfl rfl rfl (ok_getI 15 rfl rfl fl_X12_167 rfl rfl (Or.inl rfl) (ok_if_le 16 46 rfl rfl rfl (fun h29 => ?_) (fun h29 => ?_)))
      · have hn : numB σ := by
          rcases hz with q | q
          · exact q.2
          · omega
        have hw : 0 < σ 0 18 → k ≠ σ 0 19 := by omega
        clear z hz h4 
        refine ok_bipush 25 rfl rfl (by decide) (by decide) (ok_aload_n 26 rfl rfl rfl (ok_getI 27 rfl rfl fl_X12_167 rfl rfl (Or.inl rfl) (ok_imul 28 rfl rfl (by first | omega | (have q1 := f2 0 18; have q2 := f2 0 19; omega)) (ok_iload_n 29 rfl rfl rfl (ok_iadd 30 rfl rfl (by first | omega | (have q1 := f2 0 18; have q2 := f2 0 19; omega)) (ok_ist2 31 rfl rfl rfl (ok_aload_n 32 rfl rfl rfl (ok_getR 33 rfl rfl fl_X12_30 rfl rfl (ok_iload_n 34 rfl rfl rfl (ok_aload_n 35 rfl rfl rfl (ok_getI 36 rfl rfl fl_X12_141 rfl rfl (Or.inl rfl) (ok_iast 37 rfl rfl rfl (by first | omega | (have q1 := f2 0 18; have q2 := f2 0 19; omega)) (ok_aload_n 38 rfl rfl rfl (ok_getR 39 rfl rfl fl_X12_33 rfl rfl (ok_iload_n 40 rfl rfl rfl (ok_iconst 41 rfl rfl (by decide) (ok_iast 42 rfl rfl rfl (by first | omega | (have q1 := f2 0 18; have q2 := f2 0 19; omega)) ?_)))))))))))))))))
        obtain ⟨τ, e1⟩ : ∃ x, x = up (up σ 6 (8 * σ 0 18 + k) (σ 0 14)) 7 (8 * σ 0 18 + k) 1 := ⟨_, rfl⟩
        have f1 : fr rgF σ τ := by rw [e1]; exact fr_up (fr_up fr.rf (by simp [rgF])) (by simp [rgF])
        have pt : Pz τ := h.fr (by rw [e1]; exact fr_up (fr_up fr.rf (by omega)) (by omega))
        have u1 : uOk τ (8 * σ 0 18 + k) := by rw [e1]; unfold uOk; simp [up_if]; omega
        have o1 : ∀ j, j ≠ 8 * σ 0 18 + k → τ 6 j = σ 6 j ∧ τ 7 j = σ 7 j := fun j hj => by rw [e1]; simp [up_if, hj]
        have t12 : τ 0 12 = σ 0 12 := by rw [e1]; simp [up_if]
        have t13 : τ 0 13 = σ 0 13 := by rw [e1]; simp [up_if]
        have t9 : τ 0 9 = σ 0 9 := by rw [e1]; simp [up_if]
        clear h
        first | (simp only [up_ne _ _ _ _ (show (0 : Nat) ≠ 6 by decide)]; rw [← e1]) | rw [← e1]
        clear e1
        refine ok_aload_n 43 rfl rfl rfl (ok_callVV (M' := M_Mo_next) (as := []) 44 rfl rfl ml_X12_173 (s_Mo_next pt.P0) rfl rfl (Nat.le_of_ble_eq_true rfl) ⟨Nat.le_of_ble_eq_true rfl, Nat.le_of_ble_eq_true rfl⟩ rfl (Nat.le_of_ble_eq_true rfl) (fun τ1 hl => ?_))
        have p1 := Pz.of pt.P0 hl
        have f2 : fr rgF σ τ1 := f1.tr (hl.1.mono (fun c k q => by simp only [rgF]; omega))
        have l9 := hl.1 0 9 (by omega)
        have l12 := hl.2.1
        have l7 : ∀ j, τ1 7 j = τ 7 j := fun j => hl.1 7 j (by omega)
        have l6 : ∀ j, τ1 6 j = τ 6 j := fun j => hl.1 6 j (by omega)
        have hfrom : σ 0 12 < σ 0 13 := h6 (by have := hn.1; omega)
        refine ok_aload_n 45 rfl rfl rfl (ok_getI 46 rfl rfl fl_X12_147 rfl rfl (Or.inl rfl) (ok_iconst 47 rfl rfl (by decide) (ok_icmp_ne 48 94 rfl rfl rfl (fun h82 => ?_) (fun h82 => ?_))))
        · refine ok_iconst 53 rfl rfl (by decide) (ok_zret 54 rfl rfl rfl (by first | omega | (simp [up_if]; omega) | (simp [up_if] at *; omega)) ?_)
          refine ⟨_, rfl, f2, p1, Or.inr ⟨rfl, by omega, by omega, by omega, hw, ?_, fun j hj => ?_⟩⟩
          · unfold uOk; rw [l7, l6]; exact u1
          · rw [l7, l6]; exact o1 j hj
        · refine ok_aload_n 49 rfl rfl rfl (ok_getI 50 rfl rfl fl_X12_144 rfl rfl (Or.inl rfl) (ok_bipush 51 rfl rfl (by decide) (by decide) (ok_icmp_eq 52 96 rfl rfl rfl (fun h91 => ?_) (fun h91 => ?_))))
          · refine ok_aload_n 55 rfl rfl rfl (ok_callVV (M' := M_Mo_next) (as := []) 56 rfl rfl ml_X12_173 (s_Mo_next p1.P0) rfl rfl (Nat.le_of_ble_eq_true rfl) ⟨Nat.le_of_ble_eq_true rfl, Nat.le_of_ble_eq_true rfl⟩ rfl (Nat.le_of_ble_eq_true rfl) (fun τ2 hl2 => ?_))
            have p2 := Pz.of p1.P0 hl2
            have f3 : fr rgF σ τ2 := f2.tr (hl2.1.mono (fun c k q => by simp only [rgF]; omega))
            have m9 := hl2.1 0 9 (by omega)
            have m7 : ∀ j, τ2 7 j = τ1 7 j := fun j => hl2.1 7 j (by omega)
            have m6 : ∀ j, τ2 6 j = τ1 6 j := fun j => hl2.1 6 j (by omega)
            have m12 := hl2.2.1
            have k12 := p1.2.1
            have q14 : 0 ≤ τ2 0 14 ∧ τ2 0 14 ≤ 999999 := hl2.2.2.2.2.2.2
            refine ok_aload_n 57 rfl rfl rfl (ok_callVI (M' := M_Mo_isNumber) (as := []) 58 rfl rfl ml_X12_160 (s_Mo_isNumber p2) rfl rfl (Nat.le_of_ble_eq_true rfl) ⟨Nat.le_of_ble_eq_true rfl, Nat.le_of_ble_eq_true rfl⟩ rfl (Nat.le_of_ble_eq_true rfl) (fun σ' z hz => ?_))
            obtain ⟨hs_, hz⟩ := hz
            rw [hs_]; clear hs_ σ'
            refine ok_if_ne 59 113 rfl rfl rfl (fun h104 => ?_) (fun h104 => ?_)
            · refine ok_aload_n 64 rfl rfl rfl (ok_getI 65 rfl rfl fl_X12_141 rfl rfl (Or.inl rfl) (ok_if_ne 66 126 rfl rfl rfl (fun h117 => ?_) (fun h117 => ?_)))
              · refine ok_aload_n 71 rfl rfl rfl (ok_getR 72 rfl rfl fl_X12_33 rfl rfl (ok_iload_n 73 rfl rfl rfl (ok_aload_n 74 rfl rfl rfl (ok_getI 75 rfl rfl fl_X12_141 rfl rfl (Or.inl rfl) (ok_iast 76 rfl rfl rfl (by first | omega | (have q1 := f2 0 18; have q2 := f2 0 19; omega)) ?_)))))
                obtain ⟨τ3, e3⟩ : ∃ x, x = up τ2 7 (8 * σ 0 18 + k) (τ2 0 14) := ⟨_, rfl⟩
                have p3 : Pz τ3 := p2.fr (by rw [e3]; exact fr_up fr.rf (by omega))
                have f4 : fr rgF σ τ3 := by rw [e3]; exact fr_up f3 (by simp [rgF])
                have u3 : uOk τ3 (8 * σ 0 18 + k) := by
                  rw [e3]; unfold uOk; simp [up_if]; rw [m6, l6]; have := u1; unfold uOk at this; omega
                have o3 : ∀ j, j ≠ 8 * σ 0 18 + k → τ3 6 j = σ 6 j ∧ τ3 7 j = σ 7 j := fun j hj => by
                  rw [e3]; simp [up_if, hj]; rw [m6, m7, l6, l7]; exact o1 j hj
                have t39 : τ3 0 9 = τ2 0 9 := by rw [e3]; simp [up_if]
                have t313 : τ3 0 13 = τ2 0 13 := by rw [e3]; simp [up_if]
                rw [← e3]
                refine ok_aload_n 77 rfl rfl rfl (ok_callVV (M' := M_Mo_next) (as := []) 78 rfl rfl ml_X12_173 (s_Mo_next p3.P0) rfl rfl (Nat.le_of_ble_eq_true rfl) ⟨Nat.le_of_ble_eq_true rfl, Nat.le_of_ble_eq_true rfl⟩ rfl (Nat.le_of_ble_eq_true rfl) (fun τ4 hl4 => ?_))
                have p4 := Pz.of p3.P0 hl4
                have n9 := hl4.1 0 9 (by omega)
                have n12 := hl4.2.1
                have k22 := p2.2.1
                refine ok_iconst 79 rfl rfl (by decide) (ok_zret 80 rfl rfl rfl (by first | omega | (simp [up_if]; omega) | (simp [up_if] at *; omega)) ?_)
                refine ⟨_, rfl, f4.tr (hl4.1.mono (fun c k q => by simp only [rgF]; omega)), p4, Or.inr ⟨rfl, by omega, by omega, by omega, hw, ?_, fun j hj => ?_⟩⟩
                · unfold uOk; rw [hl4.1 7 _ (by omega), hl4.1 6 _ (by omega)]; exact u3
                · rw [hl4.1 7 _ (by omega), hl4.1 6 _ (by omega)]; exact o3 j hj
              · refine ok_aload_n 67 rfl rfl rfl (ok_iconst 68 rfl rfl (by decide) (ok_callVI (M' := M_Mo_fails) (as := [_]) 69 rfl rfl ml_X12_164 (s_Mo_fails (by decide)) rfl rfl (Nat.le_of_ble_eq_true rfl) ⟨Nat.le_of_ble_eq_true rfl, Nat.le_of_ble_eq_true rfl⟩ rfl (Nat.le_of_ble_eq_true rfl) (fun σ' z hz => ?_)))
                have hq := hfail τ2 σ' z f3 p2 hz
                refine ok_zret 70 rfl rfl rfl (by have := hz.1; omega) ?_
                exact ⟨_, rfl, hq⟩
            · refine ok_aload_n 60 rfl rfl rfl (ok_iconst 61 rfl rfl (by decide) (ok_callVI (M' := M_Mo_fails) (as := [_]) 62 rfl rfl ml_X12_164 (s_Mo_fails (by decide)) rfl rfl (Nat.le_of_ble_eq_true rfl) ⟨Nat.le_of_ble_eq_true rfl, Nat.le_of_ble_eq_true rfl⟩ rfl (Nat.le_of_ble_eq_true rfl) (fun σ' z hz => ?_)))
              have hq := hfail τ2 σ' z f3 p2 hz
              refine ok_zret 63 rfl rfl rfl (by have := hz.1; omega) ?_
              exact ⟨_, rfl, hq⟩
          · refine ok_iconst 53 rfl rfl (by decide) (ok_zret 54 rfl rfl rfl (by first | omega | (simp [up_if]; omega) | (simp [up_if] at *; omega)) ?_)
            refine ⟨_, rfl, f2, p1, Or.inr ⟨rfl, by omega, by omega, by omega, hw, ?_, fun j hj => ?_⟩⟩
            · unfold uOk; rw [l7, l6]; exact u1
            · rw [l7, l6]; exact o1 j hj
      · refine ok_iload_n 17 rfl rfl rfl (ok_aload_n 18 rfl rfl rfl (ok_getI 19 rfl rfl fl_X12_170 rfl rfl (Or.inl rfl) (ok_icmp_ne 20 46 rfl rfl rfl (fun h37 => ?_) (fun h37 => ?_))))
        · have hn : numB σ := by
            rcases hz with q | q
            · exact q.2
            · omega
          have hw : 0 < σ 0 18 → k ≠ σ 0 19 := by omega
          clear z hz h4 
          refine ok_bipush 25 rfl rfl (by decide) (by decide) (ok_aload_n 26 rfl rfl rfl (ok_getI 27 rfl rfl fl_X12_167 rfl rfl (Or.inl rfl) (ok_imul 28 rfl rfl (by first | omega | (have q1 := f2 0 18; have q2 := f2 0 19; omega)) (ok_iload_n 29 rfl rfl rfl (ok_iadd 30 rfl rfl (by first | omega | (have q1 := f2 0 18; have q2 := f2 0 19; omega)) (ok_ist2 31 rfl rfl rfl (ok_aload_n 32 rfl rfl rfl (ok_getR 33 rfl rfl fl_X12_30 rfl rfl (ok_iload_n 34 rfl rfl rfl (ok_aload_n 35 rfl rfl rfl (ok_getI 36 rfl rfl fl_X12_141 rfl rfl (Or.inl rfl) (ok_iast 37 rfl rfl rfl (by first | omega | (have q1 := f2 0 18; have q2 := f2 0 19; omega)) (ok_aload_n 38 rfl rfl rfl (ok_getR 39 rfl rfl fl_X12_33 rfl rfl (ok_iload_n 40 rfl rfl rfl (ok_iconst 41 rfl rfl (by decide) (ok_iast 42 rfl rfl rfl (by first | omega | (have q1 := f2 0 18; have q2 := f2 0 19; omega)) ?_)))))))))))))))))
          obtain ⟨τ, e1⟩ : ∃ x, x = up (up σ 6 (8 * σ 0 18 + k) (σ 0 14)) 7 (8 * σ 0 18 + k) 1 := ⟨_, rfl⟩
          have f1 : fr rgF σ τ := by rw [e1]; exact fr_up (fr_up fr.rf (by simp [rgF])) (by simp [rgF])
          have pt : Pz τ := h.fr (by rw [e1]; exact fr_up (fr_up fr.rf (by omega)) (by omega))
          have u1 : uOk τ (8 * σ 0 18 + k) := by rw [e1]; unfold uOk; simp [up_if]; omega
          have o1 : ∀ j, j ≠ 8 * σ 0 18 + k → τ 6 j = σ 6 j ∧ τ 7 j = σ 7 j := fun j hj => by rw [e1]; simp [up_if, hj]
          have t12 : τ 0 12 = σ 0 12 := by rw [e1]; simp [up_if]
          have t13 : τ 0 13 = σ 0 13 := by rw [e1]; simp [up_if]
          have t9 : τ 0 9 = σ 0 9 := by rw [e1]; simp [up_if]
          clear h
          first | (simp only [up_ne _ _ _ _ (show (0 : Nat) ≠ 6 by decide)]; rw [← e1]) | rw [← e1]
          clear e1
          refine ok_aload_n 43 rfl rfl rfl (ok_callVV (M' := M_Mo_next) (as := []) 44 rfl rfl ml_X12_173 (s_Mo_next pt.P0) rfl rfl (Nat.le_of_ble_eq_true rfl) ⟨Nat.le_of_ble_eq_true rfl, Nat.le_of_ble_eq_true rfl⟩ rfl (Nat.le_of_ble_eq_true rfl) (fun τ1 hl => ?_))
          have p1 := Pz.of pt.P0 hl
          have f2 : fr rgF σ τ1 := f1.tr (hl.1.mono (fun c k q => by simp only [rgF]; omega))
          have l9 := hl.1 0 9 (by omega)
          have l12 := hl.2.1
          have l7 : ∀ j, τ1 7 j = τ 7 j := fun j => hl.1 7 j (by omega)
          have l6 : ∀ j, τ1 6 j = τ 6 j := fun j => hl.1 6 j (by omega)
          have hfrom : σ 0 12 < σ 0 13 := h6 (by have := hn.1; omega)
          refine ok_aload_n 45 rfl rfl rfl (ok_getI 46 rfl rfl fl_X12_147 rfl rfl (Or.inl rfl) (ok_iconst 47 rfl rfl (by decide) (ok_icmp_ne 48 94 rfl rfl rfl (fun h82 => ?_) (fun h82 => ?_))))
          · refine ok_iconst 53 rfl rfl (by decide) (ok_zret 54 rfl rfl rfl (by first | omega | (simp [up_if]; omega) | (simp [up_if] at *; omega)) ?_)
            refine ⟨_, rfl, f2, p1, Or.inr ⟨rfl, by omega, by omega, by omega, hw, ?_, fun j hj => ?_⟩⟩
            · unfold uOk; rw [l7, l6]; exact u1
            · rw [l7, l6]; exact o1 j hj
          · refine ok_aload_n 49 rfl rfl rfl (ok_getI 50 rfl rfl fl_X12_144 rfl rfl (Or.inl rfl) (ok_bipush 51 rfl rfl (by decide) (by decide) (ok_icmp_eq 52 96 rfl rfl rfl (fun h91 => ?_) (fun h91 => ?_))))
            · refine ok_aload_n 55 rfl rfl rfl (ok_callVV (M' := M_Mo_next) (as := []) 56 rfl rfl ml_X12_173 (s_Mo_next p1.P0) rfl rfl (Nat.le_of_ble_eq_true rfl) ⟨Nat.le_of_ble_eq_true rfl, Nat.le_of_ble_eq_true rfl⟩ rfl (Nat.le_of_ble_eq_true rfl) (fun τ2 hl2 => ?_))
              have p2 := Pz.of p1.P0 hl2
              have f3 : fr rgF σ τ2 := f2.tr (hl2.1.mono (fun c k q => by simp only [rgF]; omega))
              have m9 := hl2.1 0 9 (by omega)
              have m7 : ∀ j, τ2 7 j = τ1 7 j := fun j => hl2.1 7 j (by omega)
              have m6 : ∀ j, τ2 6 j = τ1 6 j := fun j => hl2.1 6 j (by omega)
              have m12 := hl2.2.1
              have k12 := p1.2.1
              have q14 : 0 ≤ τ2 0 14 ∧ τ2 0 14 ≤ 999999 := hl2.2.2.2.2.2.2
              refine ok_aload_n 57 rfl rfl rfl (ok_callVI (M' := M_Mo_isNumber) (as := []) 58 rfl rfl ml_X12_160 (s_Mo_isNumber p2) rfl rfl (Nat.le_of_ble_eq_true rfl) ⟨Nat.le_of_ble_eq_true rfl, Nat.le_of_ble_eq_true rfl⟩ rfl (Nat.le_of_ble_eq_true rfl) (fun σ' z hz => ?_))
              obtain ⟨hs_, hz⟩ := hz
              rw [hs_]; clear hs_ σ'
              refine ok_if_ne 59 113 rfl rfl rfl (fun h104 => ?_) (fun h104 => ?_)
              · refine ok_aload_n 64 rfl rfl rfl (ok_getI 65 rfl rfl fl_X12_141 rfl rfl (Or.inl rfl) (ok_if_ne 66 126 rfl rfl rfl (fun h117 => ?_) (fun h117 => ?_)))
                · refine ok_aload_n 71 rfl rfl rfl (ok_getR 72 rfl rfl fl_X12_33 rfl rfl (ok_iload_n 73 rfl rfl rfl (ok_aload_n 74 rfl rfl rfl (ok_getI 75 rfl rfl fl_X12_141 rfl rfl (Or.inl rfl) (ok_iast 76 rfl rfl rfl (by first | omega | (have q1 := f2 0 18; have q2 := f2 0 19; omega)) ?_)))))
                  obtain ⟨τ3, e3⟩ : ∃ x, x = up τ2 7 (8 * σ 0 18 + k) (τ2 0 14) := ⟨_, rfl⟩
                  have p3 : Pz τ3 := p2.fr (by rw [e3]; exact fr_up fr.rf (by omega))
                  have f4 : fr rgF σ τ3 := by rw [e3]; exact fr_up f3 (by simp [rgF])
                  have u3 : uOk τ3 (8 * σ 0 18 + k) := by
                    rw [e3]; unfold uOk; simp [up_if]; rw [m6, l6]; have := u1; unfold uOk at this; omega
                  have o3 : ∀ j, j ≠ 8 * σ 0 18 + k → τ3 6 j = σ 6 j ∧ τ3 7 j = σ 7 j := fun j hj => by
                    rw [e3]; simp [up_if, hj]; rw [m6, m7, l6, l7]; exact o1 j hj
                  have t39 : τ3 0 9 = τ2 0 9 := by rw [e3]; simp [up_if]
                  have t313 : τ3 0 13 = τ2 0 13 := by rw [e3]; simp [up_if]
                  rw [← e3]
                  refine ok_aload_n 77 rfl rfl rfl (ok_callVV (M' := M_Mo_next) (as := []) 78 rfl rfl ml_X12_173 (s_Mo_next p3.P0) rfl rfl (Nat.le_of_ble_eq_true rfl) ⟨Nat.le_of_ble_eq_true rfl, Nat.le_of_ble_eq_true rfl⟩ rfl (Nat.le_of_ble_eq_true rfl) (fun τ4 hl4 => ?_))
                  have p4 := Pz.of p3.P0 hl4
                  have n9 := hl4.1 0 9 (by omega)
                  have n12 := hl4.2.1
                  have k22 := p2.2.1
                  refine ok_iconst 79 rfl rfl (by decide) (ok_zret 80 rfl rfl rfl (by first | omega | (simp [up_if]; omega) | (simp [up_if] at *; omega)) ?_)
                  refine ⟨_, rfl, f4.tr (hl4.1.mono (fun c k q => by simp only [rgF]; omega)), p4, Or.inr ⟨rfl, by omega, by omega, by omega, hw, ?_, fun j hj => ?_⟩⟩
                  · unfold uOk; rw [hl4.1 7 _ (by omega), hl4.1 6 _ (by omega)]; exact u3
                  · rw [hl4.1 7 _ (by omega), hl4.1 6 _ (by omega)]; exact o3 j hj
                · refine ok_aload_n 67 rfl rfl rfl (ok_iconst 68 rfl rfl (by decide) (ok_callVI (M' := M_Mo_fails) (as := [_]) 69 rfl rfl ml_X12_164 (s_Mo_fails (by decide)) rfl rfl (Nat.le_of_ble_eq_true rfl) ⟨Nat.le_of_ble_eq_true rfl, Nat.le_of_ble_eq_true rfl⟩ rfl (Nat.le_of_ble_eq_true rfl) (fun σ' z hz => ?_)))
                  have hq := hfail τ2 σ' z f3 p2 hz
                  refine ok_zret 70 rfl rfl rfl (by have := hz.1; omega) ?_
                  exact ⟨_, rfl, hq⟩
              · refine ok_aload_n 60 rfl rfl rfl (ok_iconst 61 rfl rfl (by decide) (ok_callVI (M' := M_Mo_fails) (as := [_]) 62 rfl rfl ml_X12_164 (s_Mo_fails (by decide)) rfl rfl (Nat.le_of_ble_eq_true rfl) ⟨Nat.le_of_ble_eq_true rfl, Nat.le_of_ble_eq_true rfl⟩ rfl (Nat.le_of_ble_eq_true rfl) (fun σ' z hz => ?_)))
                have hq := hfail τ2 σ' z f3 p2 hz
                refine ok_zret 63 rfl rfl rfl (by have := hz.1; omega) ?_
                exact ⟨_, rfl, hq⟩
            · refine ok_iconst 53 rfl rfl (by decide) (ok_zret 54 rfl rfl rfl (by first | omega | (simp [up_if]; omega) | (simp [up_if] at *; omega)) ?_)
              refine ⟨_, rfl, f2, p1, Or.inr ⟨rfl, by omega, by omega, by omega, hw, ?_, fun j hj => ?_⟩⟩
              · unfold uOk; rw [l7, l6]; exact u1
              · rw [l7, l6]; exact o1 j hj
        · refine ok_aload_n 21 rfl rfl rfl (ok_iconst 22 rfl rfl (by decide) (ok_callVI (M' := M_Mo_fails) (as := [_]) 23 rfl rfl ml_X12_164 (s_Mo_fails (by decide)) rfl rfl (Nat.le_of_ble_eq_true rfl) ⟨Nat.le_of_ble_eq_true rfl, Nat.le_of_ble_eq_true rfl⟩ rfl (Nat.le_of_ble_eq_true rfl) (fun σ' z hz => ?_)))
          have hq := hfail σ σ' z fr.rf h hz
          refine ok_zret 24 rfl rfl rfl (by have := hz.1; omega) ?_
          exact ⟨_, rfl, hq⟩
    · refine ok_aload_n 10 rfl rfl rfl (ok_iconst 11 rfl rfl (by decide) (ok_callVI (M' := M_Mo_fails) (as := [_]) 12 rfl rfl ml_X12_164 (s_Mo_fails (by decide)) rfl rfl (Nat.le_of_ble_eq_true rfl) ⟨Nat.le_of_ble_eq_true rfl, Nat.le_of_ble_eq_true rfl⟩ rfl (Nat.le_of_ble_eq_true rfl) (fun σ' z hz => ?_)))
      have hq := hfail σ σ' z fr.rf h hz
      refine ok_zret 13 rfl rfl rfl (by have := hz.1; omega) ?_
      exact ⟨_, rfl, hq⟩
  · refine ok_aload_n 3 rfl rfl rfl (ok_iconst 4 rfl rfl (by decide) (ok_callVI (M' := M_Mo_fails) (as := [_]) 5 rfl rfl ml_X12_164 (s_Mo_fails (by decide)) rfl rfl (Nat.le_of_ble_eq_true rfl) ⟨Nat.le_of_ble_eq_true rfl, Nat.le_of_ble_eq_true rfl⟩ rfl (Nat.le_of_ble_eq_true rfl) (fun σ' z hz => ?_)))
    have hq := hfail σ σ' z fr.rf h hz
    refine ok_zret 6 rfl rfl rfl (by have := hz.1; omega) ?_
    exact ⟨_, rfl, hq⟩
