theorem iB1.fr {σ τ : eS} (h : iB1 σ) (f : ∀ (c : Nat) (k : Int), (c = 1 ∨ c = 2 ∨ c = 3 ∨ c = 4) → τ c k = σ c k) : iB1 τ :=
  ⟨fun t a b => by rw [f 1 t (by omega), f 2 t (by omega)]; exact h.1 t a b, fun k a b => by rw [f 3 k (by omega)]; exact h.2.1 k a b, fun k a b => by rw [f 4 k (by omega)]; exact h.2.2 k a b⟩
abbrev rgT : Nat → Int → Prop := fun c k => (c = 0 ∧ (k = 4 ∨ (6 ≤ k ∧ k ≤ 19))) ∨ c = 1 ∨ c = 2 ∨ c = 3 ∨ c = 4 ∨ c = 6 ∨ c = 7
def QT (σ : eS) (σ' : eS) (z : Int) : Prop := fr rgT σ σ' ∧ iB1 σ' ∧ σ' 0 6 = 0
theorem s_Mo_table {σ : eS} {s : Int} (hB : iB1 σ) (h6 : 0 ≤ σ 0 6 ∧ σ 0 6 ≤ 600) : MtI shB M_Mo_table [vr 0, vi s] σ (QT σ) := by
  refine Mt.of okM_Mo_table (Nat.le_of_ble_eq_true rfl) (fun hk hg => ?_)
  have tail : ∀ (τ : eS) (b : Int) (x : Option eV), fr rgT σ τ → iB1 τ → Ok shB M_Mo_table 132 [some (vr 0), some (vi s), some (vi b), x] [] τ (fun σ' v => ∃ z, v = some (vi z) ∧ QT σ σ' z) := by
    intro τ b x f hb
    refine ok_aload_n 69 rfl rfl rfl (ok_iconst 70 rfl rfl (by decide) (ok_putI 71 rfl rfl fl_X12_125 rfl rfl rfl rfl (ok_aload_n 72 rfl rfl rfl (ok_aload_n 73 rfl rfl rfl (ok_getI 74 rfl rfl fl_X12_154 rfl rfl (Or.inl rfl) (ok_putI 75 rfl rfl fl_X12_189 rfl rfl rfl rfl (ok_aload_n 76 rfl rfl rfl (ok_aload_n 77 rfl rfl rfl (ok_getI 78 rfl rfl fl_X12_157 rfl rfl (Or.inl rfl) (ok_putI 79 rfl rfl fl_X12_26 rfl rfl rfl rfl (ok_iload_n 80 rfl rfl rfl (ok_if_ne 81 162 rfl rfl rfl (fun h154 => ?_) (fun h154 => ?_)))))))))))))
    · refine ok_aload_n 84 rfl rfl rfl (ok_getI 85 rfl rfl fl_X12_154 rfl rfl (Or.inl rfl) (ok_if_eq 86 173 rfl rfl rfl (fun h166 => ?_) (fun h166 => ?_)))
      · refine ok_aload_n 89 rfl rfl rfl (ok_getI 90 rfl rfl fl_X12_167 rfl rfl (Or.inl rfl) (ok_iret 91 rfl rfl rfl ?_))
        exact ⟨_, rfl, fr_up (fr_up (fr_up f (by simp [rgT])) (by simp [rgT])) (by simp [rgT]), hb.fr (fun c k q => by rw [up_ne _ _ _ _ (by omega), up_ne _ _ _ _ (by omega), up_ne _ _ _ _ (by omega)]), by simp [up_if]⟩
      · refine ok_iconst 87 rfl rfl (by decide) (ok_goto 88 177 rfl rfl rfl (ok_iret 91 rfl rfl rfl ?_))
        exact ⟨_, rfl, fr_up (fr_up (fr_up f (by simp [rgT])) (by simp [rgT])) (by simp [rgT]), hb.fr (fun c k q => by rw [up_ne _ _ _ _ (by omega), up_ne _ _ _ _ (by omega), up_ne _ _ _ _ (by omega)]), by simp [up_if]⟩
    · refine ok_bipush 82 rfl rfl (by decide) (by decide) (ok_goto 83 177 rfl rfl rfl (ok_iret 91 rfl rfl rfl ?_))
      exact ⟨_, rfl, fr_up (fr_up (fr_up f (by simp [rgT])) (by simp [rgT])) (by simp [rgT]), hb.fr (fun c k q => by rw [up_ne _ _ _ _ (by omega), up_ne _ _ _ _ (by omega), up_ne _ _ _ _ (by omega)]), by simp [up_if]⟩
  obtain ⟨τ0, e0⟩ : ∃ x, x = up (up (up (up (up σ 0 18 0) 0 19 0) 0 13 0) 0 9 0) 0 10 (-1) := ⟨_, rfl⟩
  have f0 : fr rgT σ τ0 := by rw [e0]; exact fr_up (fr_up (fr_up (fr_up (fr_up fr.rf (by simp [rgT])) (by simp [rgT])) (by simp [rgT])) (by simp [rgT])) (by simp [rgT])
  have b0 : iB1 τ0 := hB.fr (fun c k q => by rw [e0]; simp only [up_if]; repeat rw [if_neg (by omega)])
  have a18 : τ0 0 18 = 0 := by rw [e0]; simp [up_if]
  have a19 : τ0 0 19 = 0 := by rw [e0]; simp [up_if]
  have a13 : τ0 0 13 = 0 := by rw [e0]; simp [up_if]
  have a9 : τ0 0 9 = 0 := by rw [e0]; simp [up_if]
  have a6 : τ0 0 6 = σ 0 6 := by rw [e0]; simp [up_if]
  have p0 : P0 τ0 := ⟨by omega, by omega, by omega⟩
  have start : ∀ (τ1 : eS), lex τ0 τ1 → fr rgT σ τ1 ∧ iB1 τ1 ∧ Pz τ1 ∧ τ1 0 9 = 0 ∧ RR τ1 := fun τ1 hl =>
    ⟨f0.tr (hl.1.mono (fun c k q => by simp only [rgT]; omega)), b0.fr (fun c k q => hl.1 c k (by omega)), Pz.of p0 hl, by rw [hl.1 0 9 (by omega)]; exact a9, by rw [hl.1 0 18 (by omega)]; omega, by rw [hl.1 0 18 (by omega)]; omega, by rw [hl.1 0 19 (by omega)]; omega, by rw [hl.1 0 19 (by omega)]; omega, fun i j q1 q2 q3 q4 => by rw [hl.1 0 18 (by omega)] at q2; omega⟩
  by_cases hs : 0 ≤ s ∧ s < 4
  · have after : ∀ (τ : eS), fr rgT σ τ → iB1 τ → (τ 0 9 ≠ 0 ∨ RR τ) → Ok shB M_Mo_table 78 [some (vr 0), some (vi s), some (vi 1), some (vi 0)] [] τ (fun σ' v => ∃ z, v = some (vi z) ∧ QT σ σ' z) := by
      intro τ f hb hx
      refine ok_iload_n 42 rfl rfl rfl (ok_if_eq 43 106 rfl rfl rfl (fun h79 => ?_) (fun h79 => ?_))
      · omega
      · refine ok_aload_n 44 rfl rfl rfl (ok_getI 45 rfl rfl fl_X12_154 rfl rfl (Or.inl rfl) (ok_if_ne 46 106 rfl rfl rfl (fun h86 => ?_) (fun h86 => ?_)))
        · refine ok_iload_n 56 rfl rfl rfl (ok_if_eq 57 132 rfl rfl rfl (fun h107 => ?_) (fun h107 => ?_))
          · omega
          · refine ok_aload_n 58 rfl rfl rfl (ok_getI 59 rfl rfl fl_X12_154 rfl rfl (Or.inl rfl) (ok_if_ne 60 132 rfl rfl rfl (fun h114 => ?_) (fun h114 => ?_)))
            · exact tail _ _ _ f hb
            · have hrr : RR τ := by
                rcases hx with q | q
                · omega
                · exact q
              have hw : τ 0 18 = τ 0 19 := by omega
              refine ok_aload_n 61 rfl rfl rfl (ok_iload_n 62 rfl rfl rfl (ok_callVI (M' := M_Mo_isOver) (as := [_]) 63 rfl rfl ml_X12_186 (s_Mo_isOver hb hs ⟨hrr.1, hrr.2.1⟩ (by have := hrr.2.2.2.2; rw [← hw] at this; exact this)) rfl rfl (Nat.le_of_ble_eq_true rfl) ⟨Nat.le_of_ble_eq_true rfl, Nat.le_of_ble_eq_true rfl⟩ rfl (Nat.le_of_ble_eq_true rfl) (fun τ1 z hz => ?_)))
              obtain ⟨q1, q2, q3⟩ := hz
              have g1 : fr rgT σ τ1 := f.tr (q1.mono (fun c k q => by simp only [rgO] at q; simp only [rgT]; omega))
              have hb1 := q2
              refine ok_if_ne 64 132 rfl rfl rfl (fun h122 => ?_) (fun h122 => ?_)
              · first | exact tail _ _ _ g2 hb2 | exact tail _ _ _ g1 hb1
              · refine ok_aload_n 65 rfl rfl rfl (ok_bipush 66 rfl rfl (by decide) (by decide) (ok_callVI (M' := M_Mo_fails) (as := [_]) 67 rfl rfl ml_X12_164 (s_Mo_fails (by decide)) rfl rfl (Nat.le_of_ble_eq_true rfl) ⟨Nat.le_of_ble_eq_true rfl, Nat.le_of_ble_eq_true rfl⟩ rfl (Nat.le_of_ble_eq_true rfl) (fun σ' z hz => ?_)))
                obtain ⟨-, y1, y2⟩ := hz
                have g2 : fr rgT σ σ' := g1.tr (y1.mono (fun c k q => by simp only [rgT]; omega))
                have hb2 : iB1 σ' := hb1.fr (fun c k q => y1 c k (by omega))
                refine ok_pop 68 rfl rfl rfl ?_
                first | exact tail _ _ _ g2 hb2 | exact tail _ _ _ g1 hb1
        · refine ok_aload_n 47 rfl rfl rfl (ok_getI 48 rfl rfl fl_X12_167 rfl rfl (Or.inl rfl) (ok_aload_n 49 rfl rfl rfl (ok_getI 50 rfl rfl fl_X12_170 rfl rfl (Or.inl rfl) (ok_icmp_eq 51 106 rfl rfl rfl (fun h97 => ?_) (fun h97 => ?_)))))
          · refine ok_iload_n 56 rfl rfl rfl (ok_if_eq 57 132 rfl rfl rfl (fun h107 => ?_) (fun h107 => ?_))
            · omega
            · refine ok_aload_n 58 rfl rfl rfl (ok_getI 59 rfl rfl fl_X12_154 rfl rfl (Or.inl rfl) (ok_if_ne 60 132 rfl rfl rfl (fun h114 => ?_) (fun h114 => ?_)))
              · exact tail _ _ _ f hb
              · have hrr : RR τ := by
                  rcases hx with q | q
                  · omega
                  · exact q
                have hw : τ 0 18 = τ 0 19 := by omega
                refine ok_aload_n 61 rfl rfl rfl (ok_iload_n 62 rfl rfl rfl (ok_callVI (M' := M_Mo_isOver) (as := [_]) 63 rfl rfl ml_X12_186 (s_Mo_isOver hb hs ⟨hrr.1, hrr.2.1⟩ (by have := hrr.2.2.2.2; rw [← hw] at this; exact this)) rfl rfl (Nat.le_of_ble_eq_true rfl) ⟨Nat.le_of_ble_eq_true rfl, Nat.le_of_ble_eq_true rfl⟩ rfl (Nat.le_of_ble_eq_true rfl) (fun τ1 z hz => ?_)))
                obtain ⟨q1, q2, q3⟩ := hz
                have g1 : fr rgT σ τ1 := f.tr (q1.mono (fun c k q => by simp only [rgO] at q; simp only [rgT]; omega))
                have hb1 := q2
                refine ok_if_ne 64 132 rfl rfl rfl (fun h122 => ?_) (fun h122 => ?_)
                · first | exact tail _ _ _ g2 hb2 | exact tail _ _ _ g1 hb1
                · refine ok_aload_n 65 rfl rfl rfl (ok_bipush 66 rfl rfl (by decide) (by decide) (ok_callVI (M' := M_Mo_fails) (as := [_]) 67 rfl rfl ml_X12_164 (s_Mo_fails (by decide)) rfl rfl (Nat.le_of_ble_eq_true rfl) ⟨Nat.le_of_ble_eq_true rfl, Nat.le_of_ble_eq_true rfl⟩ rfl (Nat.le_of_ble_eq_true rfl) (fun σ' z hz => ?_)))
                  obtain ⟨-, y1, y2⟩ := hz
                  have g2 : fr rgT σ σ' := g1.tr (y1.mono (fun c k q => by simp only [rgT]; omega))
                  have hb2 : iB1 σ' := hb1.fr (fun c k q => y1 c k (by omega))
                  refine ok_pop 68 rfl rfl rfl ?_
                  first | exact tail _ _ _ g2 hb2 | exact tail _ _ _ g1 hb1
          · refine ok_aload_n 52 rfl rfl rfl (ok_iconst 53 rfl rfl (by decide) (ok_callVI (M' := M_Mo_fails) (as := [_]) 54 rfl rfl ml_X12_164 (s_Mo_fails (by decide)) rfl rfl (Nat.le_of_ble_eq_true rfl) ⟨Nat.le_of_ble_eq_true rfl, Nat.le_of_ble_eq_true rfl⟩ rfl (Nat.le_of_ble_eq_true rfl) (fun σ' z hz => ?_)))
            obtain ⟨-, q1, q2⟩ := hz
            have g : fr rgT σ σ' := f.tr (q1.mono (fun c k q => by simp only [rgT]; omega))
            have hb' : iB1 σ' := hb.fr (fun c k q => q1 c k (by omega))
            refine ok_pop 55 rfl rfl rfl (ok_iload_n 56 rfl rfl rfl (ok_if_eq 57 132 rfl rfl rfl (fun h107 => ?_) (fun h107 => ?_)))
            · omega
            · refine ok_aload_n 58 rfl rfl rfl (ok_getI 59 rfl rfl fl_X12_154 rfl rfl (Or.inl rfl) (ok_if_ne 60 132 rfl rfl rfl (fun h114 => ?_) (fun h114 => ?_)))
              · exact tail _ _ _ g hb'
              · exact absurd h114 q2
    have loop : ∀ (m : Int) (τ : eS), (m = 0 ∨ m = 1) → fr rgT σ τ → iB1 τ → Pz τ → (m = 1 → RR τ ∧ τ 0 9 = 0 ∧ τ 0 11 ≠ 0) → (m = 0 → (τ 0 9 ≠ 0 ∨ RR τ)) → Ok shB M_Mo_table 51 [some (vr 0), some (vi s), some (vi 1), some (vi m)] [] τ (fun σ' v => ∃ z, v = some (vi z) ∧ QT σ σ' z) := by
      intro m τ h1 h2 h3 h4 h5 h6
      refine lpO2 (fun (m : Int) (_ : eS) => [some (vr 0), some (vi s), some (vi 1), some (vi m)]) (fun _ τ => τ) (fun m τ => (m = 0 ∨ m = 1) ∧ fr rgT σ τ ∧ iB1 τ ∧ Pz τ ∧ (m = 1 → RR τ ∧ τ 0 9 = 0 ∧ τ 0 11 ≠ 0) ∧ (m = 0 → (τ 0 9 ≠ 0 ∨ RR τ))) (fun m τ => if m = 0 then 0 else (700 - τ 0 12).toNat + 1) ?_ m τ ⟨h1, h2, h3, h4, h5, h6⟩
      clear h1 h2 h3 h4 h5 h6 m τ
      rintro m τ ⟨h1, h2, h3, h4, h5, h6⟩ ih
      refine ok_iload_n 29 rfl rfl rfl (ok_if_eq 30 78 rfl rfl rfl (fun h52 => ?_) (fun h52 => ?_))
      · rw [show m = 0 by omega]
        exact after τ h2 h3 (h6 (by omega))
      · have hm : m = 1 := by omega
        subst hm
        obtain ⟨k1, k2, k3⟩ := h5 rfl
        refine ok_aload_n 31 rfl rfl rfl (ok_callVI (M' := M_Mo_readRow) (as := []) 32 rfl rfl ml_X12_183 (s_Mo_readRow h4 k1) rfl rfl (Nat.le_of_ble_eq_true rfl) ⟨Nat.le_of_ble_eq_true rfl, Nat.le_of_ble_eq_true rfl⟩ rfl (Nat.le_of_ble_eq_true rfl) (fun τ1 z hz => ?_))
        obtain ⟨z1, z2, z3⟩ := hz
        have g1 : fr rgT σ τ1 := h2.tr (z1.mono (fun c k q => by simp only [rgR] at q; simp only [rgT]; omega))
        have hb1 : iB1 τ1 := h3.fr (fun c k q => z1 c k (by simp only [rgR]; omega))
        have l1 := h4.1
        have l2 := z2.2.1
        have l3 := z2.2.2.1
        have l4 := z2.2.2.2.1
        refine ok_if_eq 33 73 rfl rfl rfl (fun h59 => ?_) (fun h59 => ?_)
        · refine ok_iconst 39 rfl rfl (by decide) (ok_ist3 40 rfl rfl rfl (ok_goto 41 51 rfl rfl rfl ?_))
          refine ih _ τ1 ⟨by omega, g1, hb1, z2, fun q => ?_, fun q => ?_⟩ (by
            rcases z3 with ⟨y1, y2⟩ | ⟨y1, y2, y3, y4⟩
            · first | omega | (simp; done)
            · first | (rw [if_neg (by decide), if_neg (by decide)]; omega) | (simp; done))
          · rcases z3 with ⟨y1, y2⟩ | ⟨y1, y2, y3, y4⟩
            · omega
            · exact ⟨y3, by omega, by omega⟩
          · rcases z3 with ⟨y1, y2⟩ | ⟨y1, y2, y3, y4⟩
            · exact Or.inl y2
            · exact Or.inr y3
        · refine ok_aload_n 34 rfl rfl rfl (ok_getI 35 rfl rfl fl_X12_147 rfl rfl (Or.inl rfl) (ok_if_eq 36 73 rfl rfl rfl (fun h66 => ?_) (fun h66 => ?_)))
          · refine ok_iconst 39 rfl rfl (by decide) (ok_ist3 40 rfl rfl rfl (ok_goto 41 51 rfl rfl rfl ?_))
            refine ih _ τ1 ⟨by omega, g1, hb1, z2, fun q => ?_, fun q => ?_⟩ (by
              rcases z3 with ⟨y1, y2⟩ | ⟨y1, y2, y3, y4⟩
              · first | omega | (simp; done)
              · first | (rw [if_neg (by decide), if_neg (by decide)]; omega) | (simp; done))
            · rcases z3 with ⟨y1, y2⟩ | ⟨y1, y2, y3, y4⟩
              · omega
              · exact ⟨y3, by omega, by omega⟩
            · rcases z3 with ⟨y1, y2⟩ | ⟨y1, y2, y3, y4⟩
              · exact Or.inl y2
              · exact Or.inr y3
          · refine ok_iconst 37 rfl rfl (by decide) (ok_goto 38 74 rfl rfl rfl (ok_ist3 40 rfl rfl rfl (ok_goto 41 51 rfl rfl rfl ?_)))
            refine ih _ τ1 ⟨by omega, g1, hb1, z2, fun q => ?_, fun q => ?_⟩ (by
              rcases z3 with ⟨y1, y2⟩ | ⟨y1, y2, y3, y4⟩
              · first | omega | (simp; done)
              · first | (rw [if_neg (by decide), if_neg (by decide)]; omega) | (simp; done))
            · rcases z3 with ⟨y1, y2⟩ | ⟨y1, y2, y3, y4⟩
              · omega
              · exact ⟨y3, by omega, by omega⟩
            · rcases z3 with ⟨y1, y2⟩ | ⟨y1, y2, y3, y4⟩
              · exact Or.inl y2
              · exact Or.inr y3
    refine ok_aload_n 0 rfl rfl rfl (ok_iconst 1 rfl rfl (by decide) (ok_putI 2 rfl rfl fl_X12_167 rfl rfl rfl rfl (ok_aload_n 3 rfl rfl rfl (ok_iconst 4 rfl rfl (by decide) (ok_putI 5 rfl rfl fl_X12_170 rfl rfl rfl rfl (ok_aload_n 6 rfl rfl rfl (ok_iconst 7 rfl rfl (by decide) (ok_putI 8 rfl rfl fl_X12_132 rfl rfl rfl rfl (ok_aload_n 9 rfl rfl rfl (ok_iconst 10 rfl rfl (by decide) (ok_putI 11 rfl rfl fl_X12_154 rfl rfl rfl rfl (ok_aload_n 12 rfl rfl rfl (ok_iconst 13 rfl rfl (by decide) (ok_putI 14 rfl rfl fl_X12_157 rfl rfl rfl rfl ?_))))))))))))))
    rw [← e0]
    refine ok_aload_n 15 rfl rfl rfl (ok_callVV (M' := M_Mo_next) (as := []) 16 rfl rfl ml_X12_173 (s_Mo_next p0) rfl rfl (Nat.le_of_ble_eq_true rfl) ⟨Nat.le_of_ble_eq_true rfl, Nat.le_of_ble_eq_true rfl⟩ rfl (Nat.le_of_ble_eq_true rfl) (fun τ1 hl => ?_))
    obtain ⟨s1, s2, s3, s4, s5⟩ := start τ1 hl
    refine ok_iload_n 17 rfl rfl rfl (ok_callSI (M' := M_Mo_isSlot) (as := [_]) 18 rfl rfl ml_X12_103 (s_Mo_isSlot_y hs) ⟨Nat.le_of_ble_eq_true rfl, Nat.le_of_ble_eq_true rfl⟩ rfl (Nat.le_of_ble_eq_true rfl) (fun σ' z hz => ?_))
    rw [hz.1, hz.2]
    clear hz z σ'
    refine ok_ist2 19 rfl rfl rfl (ok_iload_n 20 rfl rfl rfl (ok_if_eq 21 49 rfl rfl rfl (fun h35 => ?_) (fun h35 => ?_)))
    · omega
    · refine ok_aload_n 22 rfl rfl rfl (ok_getI 23 rfl rfl fl_X12_147 rfl rfl (Or.inl rfl) (ok_if_eq 24 49 rfl rfl rfl (fun h42 => ?_) (fun h42 => ?_)))
      · refine ok_iconst 27 rfl rfl (by decide) (ok_ist3 28 rfl rfl rfl ?_)
        exact loop _ τ1 (by omega) s1 s2 s3 (fun q => ⟨s5, s4, by omega⟩) (fun _ => Or.inr s5)
      · refine ok_iconst 25 rfl rfl (by decide) (ok_goto 26 50 rfl rfl rfl (ok_ist3 28 rfl rfl rfl ?_))
        exact loop _ τ1 (by omega) s1 s2 s3 (fun q => ⟨s5, s4, by omega⟩) (fun _ => Or.inr s5)
  · refine ok_aload_n 0 rfl rfl rfl (ok_iconst 1 rfl rfl (by decide) (ok_putI 2 rfl rfl fl_X12_167 rfl rfl rfl rfl (ok_aload_n 3 rfl rfl rfl (ok_iconst 4 rfl rfl (by decide) (ok_putI 5 rfl rfl fl_X12_170 rfl rfl rfl rfl (ok_aload_n 6 rfl rfl rfl (ok_iconst 7 rfl rfl (by decide) (ok_putI 8 rfl rfl fl_X12_132 rfl rfl rfl rfl (ok_aload_n 9 rfl rfl rfl (ok_iconst 10 rfl rfl (by decide) (ok_putI 11 rfl rfl fl_X12_154 rfl rfl rfl rfl (ok_aload_n 12 rfl rfl rfl (ok_iconst 13 rfl rfl (by decide) (ok_putI 14 rfl rfl fl_X12_157 rfl rfl rfl rfl ?_))))))))))))))
    rw [← e0]
    refine ok_aload_n 15 rfl rfl rfl (ok_callVV (M' := M_Mo_next) (as := []) 16 rfl rfl ml_X12_173 (s_Mo_next p0) rfl rfl (Nat.le_of_ble_eq_true rfl) ⟨Nat.le_of_ble_eq_true rfl, Nat.le_of_ble_eq_true rfl⟩ rfl (Nat.le_of_ble_eq_true rfl) (fun τ1 hl => ?_))
    obtain ⟨s1, s2, s3, s4, s5⟩ := start τ1 hl
    refine ok_iload_n 17 rfl rfl rfl (ok_callSI (M' := M_Mo_isSlot) (as := [_]) 18 rfl rfl ml_X12_103 (s_Mo_isSlot_n hs) ⟨Nat.le_of_ble_eq_true rfl, Nat.le_of_ble_eq_true rfl⟩ rfl (Nat.le_of_ble_eq_true rfl) (fun σ' z hz => ?_))
    rw [hz.1, hz.2]
    clear hz z σ'
    refine ok_ist2 19 rfl rfl rfl (ok_iload_n 20 rfl rfl rfl (ok_if_eq 21 49 rfl rfl rfl (fun h35 => ?_) (fun h35 => ?_)))
    · refine ok_iconst 27 rfl rfl (by decide) (ok_ist3 28 rfl rfl rfl (ok_iload_n 29 rfl rfl rfl (ok_if_eq 30 78 rfl rfl rfl (fun h52 => ?_) (fun h52 => ?_))))
      · refine ok_iload_n 42 rfl rfl rfl (ok_if_eq 43 106 rfl rfl rfl (fun h79 => ?_) (fun h79 => ?_))
        · refine ok_iload_n 56 rfl rfl rfl (ok_if_eq 57 132 rfl rfl rfl (fun h107 => ?_) (fun h107 => ?_))
          · exact tail _ _ _ s1 s2
          · omega
        · omega
      · omega
    · omega
theorem s_Mo_fault {σ : eS} {w : Int} : MtI shB M_Mo_fault [vr 0, vi w] σ (fun σ' z => σ' = σ ∧ z = if w = 0 then σ 0 7 else if w = 1 then σ 0 8 else -1) := by
  refine Mt.of okM_Mo_fault (Nat.le_of_ble_eq_true rfl) (fun hk hg => ?_)
  refine ok_iload_n 0 rfl rfl rfl (ok_if_ne 1 11 rfl rfl rfl (fun h1 => ?_) (fun h1 => ?_))
  · refine ok_iload_n 5 rfl rfl rfl (ok_iconst 6 rfl rfl (by decide) (ok_icmp_ne 7 23 rfl rfl rfl (fun h13 => ?_) (fun h13 => ?_)))
    · refine ok_iconst 11 rfl rfl (by decide) (ok_iret 12 rfl rfl rfl ?_)
      refine ⟨_, rfl, rfl, ?_⟩
      first | rw [if_pos (by omega)] | rw [if_neg (by omega), if_pos (by omega)] | rw [if_neg (by omega), if_neg (by omega)]
    · refine ok_aload_n 8 rfl rfl rfl (ok_getI 9 rfl rfl fl_X12_26 rfl rfl (Or.inl rfl) (ok_goto 10 24 rfl rfl rfl (ok_iret 12 rfl rfl rfl ?_)))
      refine ⟨_, rfl, rfl, ?_⟩
      first | rw [if_pos (by omega)] | rw [if_neg (by omega), if_pos (by omega)] | rw [if_neg (by omega), if_neg (by omega)]
  · refine ok_aload_n 2 rfl rfl rfl (ok_getI 3 rfl rfl fl_X12_189 rfl rfl (Or.inl rfl) (ok_goto 4 24 rfl rfl rfl (ok_iret 12 rfl rfl rfl ?_)))
    refine ⟨_, rfl, rfl, ?_⟩
    first | rw [if_pos (by omega)] | rw [if_neg (by omega), if_pos (by omega)] | rw [if_neg (by omega), if_neg (by omega)]
