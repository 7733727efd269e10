abbrev rgR : Nat → Int → Prop := fun c k => (c = 0 ∧ 9 ≤ k ∧ k ≤ 19) ∨ c = 6 ∨ c = 7
/-- the rows read so far -/
def uRows (σ : eS) (r w : Int) : Prop := ∀ i j, 0 ≤ i → i < r → 0 ≤ j → j < w → uOk σ (8 * i + j)
def RR (σ : eS) : Prop := 0 ≤ σ 0 18 ∧ σ 0 18 ≤ 8 ∧ 0 ≤ σ 0 19 ∧ σ 0 19 ≤ 8 ∧ uRows σ (σ 0 18) (σ 0 19)
def QrR (σ : eS) (σ' : eS) (z : Int) : Prop := fr rgR σ σ' ∧ Pz σ' ∧ ((z = 0 ∧ σ' 0 9 ≠ 0) ∨ (z = 1 ∧ σ 0 12 < σ' 0 12 ∧ RR σ' ∧ σ' 0 9 = σ 0 9))
theorem s_Mo_readRow {σ : eS} (h : Pz σ) (hr : RR σ) : MtI shB M_Mo_readRow [vr 0] σ (QrR σ) := by
  refine Mt.of okM_Mo_readRow (Nat.le_of_ble_eq_true rfl) (fun hk hg => ?_)
  have hfail : ∀ (τ σ' : eS) (z : Int), fr rgR σ τ → Pz τ → z = 0 ∧ fr (fun c k => c = 0 ∧ (k = 9 ∨ k = 10)) τ σ' ∧ σ' 0 9 ≠ 0 → QrR σ σ' z := fun τ σ' z f0 p0 hz =>
    ⟨f0.tr (hz.2.1.mono (fun c k q => by simp only [rgR]; omega)), p0.fr (hz.2.1.mono (fun c k q => by omega)), Or.inl ⟨hz.1, hz.2.2⟩⟩
  obtain ⟨h1, h2, h3, h4, h5, h6, h7, h8⟩ := id h
  obtain ⟨r1, r2, r3, r4, r5⟩ := id hr
  have tail : σ 0 11 ≠ 0 → ∀ b : Int, Ok shB M_Mo_readRow 40 [some (vr 0), some (vi b), none] [] σ (fun σ' v => ∃ z, v = some (vi z) ∧ QrR σ σ' z) := by
    intro hs b
    have hlt := h6 hs
    refine ok_aload_n 21 rfl rfl rfl (ok_getI 22 rfl rfl fl_X12_167 rfl rfl (Or.inl rfl) (ok_bipush 23 rfl rfl (by decide) (by decide) (ok_icmp_ne 24 55 rfl rfl rfl (fun h46 => ?_) (fun h46 => ?_))))
    · refine ok_iconst 29 rfl rfl (by decide) (ok_ist2 30 rfl rfl rfl ?_)
      refine lpO (fun q : Int × eS => [some (vr 0), some (vi b), some (vi q.1)]) (fun q => q.2) (fun q => 0 ≤ q.1 ∧ q.1 ≤ 8 ∧ fr rgF σ q.2 ∧ Pz q.2 ∧ (0 < q.1 → σ 0 12 < q.2 0 12) ∧ q.2 0 9 = σ 0 9 ∧ σ 0 12 ≤ q.2 0 12 ∧ (∀ j, 0 ≤ j → j < q.1 → uOk q.2 (8 * σ 0 18 + j)) ∧ (0 < σ 0 18 → q.1 ≤ σ 0 19) ∧ (∀ j, j < 8 * σ 0 18 → q.2 6 j = σ 6 j ∧ q.2 7 j = σ 7 j)) (fun q => (700 - q.2 0 12).toNat) ?_ (0, σ) ⟨by omega, by omega, fr.rf, h, fun q => by omega, rfl, Int.le_refl _, fun j a b => by omega, fun _ => by omega, fun j _ => ⟨rfl, rfl⟩⟩
      rintro ⟨n, τ⟩ ⟨i1, i2, i3, i4, i5, i6, i7, i8, i9, i10⟩ ih
      dsimp only at i1 i2 i3 i4 i5 i6 i7 i8 i9 i10 ih ⊢
      have e18 : τ 0 18 = σ 0 18 := i3 0 18 (by simp only [rgF]; omega)
      have e19 : τ 0 19 = σ 0 19 := i3 0 19 (by simp only [rgF]; omega)
      have e6 : τ 0 6 = σ 0 6 := i3 0 6 (by simp only [rgF]; omega)
      have f1 : fr rgR σ τ := i3.mono (fun c k q => by simp only [rgF] at q; simp only [rgR]; omega)
      refine ok_aload_n 31 rfl rfl rfl (ok_getI 32 rfl rfl fl_X12_147 rfl rfl (Or.inl rfl) (ok_iconst 33 rfl rfl (by decide) (ok_icmp_ne 34 74 rfl rfl rfl (fun h62 => ?_) (fun h62 => ?_))))
      · refine ok_aload_n 39 rfl rfl rfl (ok_iload_n 40 rfl rfl rfl (ok_callVI (M' := M_Mo_readFraction) (as := [_]) 41 rfl rfl ml_X12_176 (s_Mo_readFraction i4 ⟨i1, i2⟩ ⟨by omega, by omega⟩) rfl rfl (Nat.le_of_ble_eq_true rfl) ⟨Nat.le_of_ble_eq_true rfl, Nat.le_of_ble_eq_true rfl⟩ rfl (Nat.le_of_ble_eq_true rfl) (fun τ1 z hz => ?_)))
        obtain ⟨z1, z2, z3⟩ := hz
        have p12 := i4.1
        have p24 := z2.2.1
        have p25 := z2.2.2.1
        have g6 : τ1 0 6 = τ 0 6 := z1 0 6 (by simp only [rgF]; omega)
        refine ok_if_ne 42 84 rfl rfl rfl (fun h79 => ?_) (fun h79 => ?_)
        · refine ok_inc2 45 rfl rfl rfl (by first | omega | (simp [up_if]; omega) | (simp [up_if] at *; omega)) (ok_goto 46 57 rfl rfl rfl ?_)
          rcases z3 with ⟨q, -⟩ | ⟨-, y1, y2, y3, y4, y5, y6⟩
          · omega
          rw [e18] at y4 y5 y6
          rw [e19] at y4
          refine ih (n + 1, τ1) ⟨by dsimp only; omega, by dsimp only; omega, i3.tr z1, z2, fun _ => by dsimp only; omega, by dsimp only; omega, by dsimp only; omega, lt_ext (fun j a c => ?_) y5, fun q => by have := i9 q; have := y4 q; dsimp only; omega, fun j hj => ?_⟩ (by dsimp only; omega)
          · have := y6 (8 * σ 0 18 + j) (by omega)
            unfold uOk
            dsimp only
            rw [this.1, this.2]
            exact i8 j a c
          · have := y6 j (by omega)
            dsimp only
            rw [this.1, this.2]
            exact i10 j hj
        · refine ok_iconst 43 rfl rfl (by decide) (ok_zret 44 rfl rfl rfl (by first | omega | (simp [up_if]; omega) | (simp [up_if] at *; omega)) ?_)
          refine ⟨_, rfl, f1.tr (z1.mono (fun c k q => by simp only [rgF] at q; simp only [rgR]; omega)), z2, Or.inl ⟨rfl, ?_⟩⟩
          omega
      · refine ok_aload_n 35 rfl rfl rfl (ok_getI 36 rfl rfl fl_X12_144 rfl rfl (Or.inl rfl) (ok_bipush 37 rfl rfl (by decide) (by decide) (ok_icmp_eq 38 90 rfl rfl rfl (fun h71 => ?_) (fun h71 => ?_))))
        · refine ok_aload_n 47 rfl rfl rfl (ok_getI 48 rfl rfl fl_X12_167 rfl rfl (Or.inl rfl) (ok_if_ne 49 105 rfl rfl rfl (fun h94 => ?_) (fun h94 => ?_)))
          · refine ok_iload_n 54 rfl rfl rfl (ok_aload_n 55 rfl rfl rfl (ok_getI 56 rfl rfl fl_X12_170 rfl rfl (Or.inl rfl) (ok_icmp_eq 57 119 rfl rfl rfl (fun h110 => ?_) (fun h110 => ?_))))
            · obtain ⟨ρ, er⟩ : ∃ x : eS, x = (if σ 0 18 = 0 then up τ 0 19 n else τ) := ⟨_, rfl⟩
              have fρ : fr rgR σ ρ := by
                rw [er]; split
                · exact fr_up f1 (by simp [rgR])
                · exact f1
              have pρ : Pz ρ := by
                rw [er]; split
                · exact i4.fr (fr_up fr.rf (by omega))
                · exact i4
              have w19 : ρ 0 19 = n := by
                rw [er]; split
                · simp [up_if]
                · omega
              have w18 : ρ 0 18 = σ 0 18 := by
                rw [er]; split
                · simp [up_if]; exact e18
                · exact e18
              have w9 : ρ 0 9 = σ 0 9 := by
                rw [er]; split
                · simp [up_if]; exact i6
                · exact i6
              have w12 : ρ 0 12 = τ 0 12 := by
                rw [er]; split
                · simp [up_if]
                · rfl
              have w13 : ρ 0 13 = τ 0 13 := by
                rw [er]; split
                · simp [up_if]
                · rfl
              have w67 : ∀ j, ρ 6 j = τ 6 j ∧ ρ 7 j = τ 7 j := fun j => by
                rw [er]; split
                · simp [up_if]
                · exact ⟨rfl, rfl⟩
              have uu : uRows ρ (σ 0 18 + 1) n := by
                intro i j a1 a2 a3 a4
                unfold uOk
                rw [(w67 _).1, (w67 _).2]
                by_cases q : i = σ 0 18
                · rw [q]; exact i8 j a3 a4
                · have := i10 (8 * i + j) (by omega)
                  rw [this.1, this.2]
                  exact r5 i j a1 (by omega) a3 (by have := i9 (by omega); omega)
              have t12 := i4.1
              have t13 : τ 0 12 < τ 0 13 := i4.2.2.2.2.2.1 (by omega)
              first | (have er' : up τ 0 19 n = ρ := by rw [er, if_pos (by omega)]
                       rw [er']) | (have er' : τ = ρ := by rw [er, if_neg (by omega)]
                                    rw [er'])
              clear er er'
              refine ok_aload_n 62 rfl rfl rfl (ok_callVV (M' := M_Mo_next) (as := []) 63 rfl rfl ml_X12_173 (s_Mo_next pρ.P0) rfl rfl (Nat.le_of_ble_eq_true rfl) ⟨Nat.le_of_ble_eq_true rfl, Nat.le_of_ble_eq_true rfl⟩ rfl (Nat.le_of_ble_eq_true rfl) (fun τ1 hl => ?_))
              have p1 := Pz.of pρ.P0 hl
              have l18 := hl.1 0 18 (by omega)
              have l19 := hl.1 0 19 (by omega)
              have l9 := hl.1 0 9 (by omega)
              have l12 := hl.2.1
              refine ok_aload_n 64 rfl rfl rfl (ok_dup 65 rfl rfl rfl (ok_getI 66 rfl rfl fl_X12_167 rfl rfl (Or.inl rfl) (ok_iconst 67 rfl rfl (by decide) (ok_iadd 68 rfl rfl (by first | omega | (simp [up_if]; omega) | (simp [up_if] at *; omega)) (ok_putI 69 rfl rfl fl_X12_167 rfl rfl rfl rfl (ok_iconst 70 rfl rfl (by decide) (ok_zret 71 rfl rfl rfl (by first | omega | (simp [up_if]; omega) | (simp [up_if] at *; omega)) ?_)))))))
              refine ⟨_, rfl, fr_up (fρ.tr (hl.1.mono (fun c k q => by simp only [rgR]; omega))) (by simp [rgR]), p1.fr (fr_up fr.rf (by omega)), Or.inr ⟨rfl, by simp [up_if]; omega, ?_, by simp [up_if]; omega⟩⟩
              refine ⟨by simp [up_if]; omega, by simp [up_if]; omega, by simp [up_if]; omega, by simp [up_if]; omega, ?_⟩
              intro i j a1 a2 a3 a4
              simp [up_if] at a2 a4
              unfold uOk
              rw [up_ne _ _ _ _ (by decide), up_ne _ _ _ _ (by decide), hl.1 7 _ (by omega), hl.1 6 _ (by omega)]
              exact uu i j a1 (by omega) a3 (by omega)
            · refine ok_aload_n 58 rfl rfl rfl (ok_iconst 59 rfl rfl (by decide) (ok_callVI (M' := M_Mo_fails) (as := [_]) 60 rfl rfl ml_X12_164 (s_Mo_fails (by decide)) rfl rfl (Nat.le_of_ble_eq_true rfl) ⟨Nat.le_of_ble_eq_true rfl, Nat.le_of_ble_eq_true rfl⟩ rfl (Nat.le_of_ble_eq_true rfl) (fun σ' z hz => ?_)))
              have hq := hfail τ σ' z f1 i4 hz
              refine ok_zret 61 rfl rfl rfl (by have := hz.1; omega) ?_
              exact ⟨_, rfl, hq⟩
          · refine ok_aload_n 50 rfl rfl rfl (ok_iload_n 51 rfl rfl rfl (ok_putI 52 rfl rfl fl_X12_170 rfl rfl rfl rfl (ok_goto 53 119 rfl rfl rfl ?_)))
            obtain ⟨ρ, er⟩ : ∃ x : eS, x = (if σ 0 18 = 0 then up τ 0 19 n else τ) := ⟨_, rfl⟩
            have fρ : fr rgR σ ρ := by
              rw [er]; split
              · exact fr_up f1 (by simp [rgR])
              · exact f1
            have pρ : Pz ρ := by
              rw [er]; split
              · exact i4.fr (fr_up fr.rf (by omega))
              · exact i4
            have w19 : ρ 0 19 = n := by
              rw [er]; split
              · simp [up_if]
              · omega
            have w18 : ρ 0 18 = σ 0 18 := by
              rw [er]; split
              · simp [up_if]; exact e18
              · exact e18
            have w9 : ρ 0 9 = σ 0 9 := by
              rw [er]; split
              · simp [up_if]; exact i6
              · exact i6
            have w12 : ρ 0 12 = τ 0 12 := by
              rw [er]; split
              · simp [up_if]
              · rfl
            have w13 : ρ 0 13 = τ 0 13 := by
              rw [er]; split
              · simp [up_if]
              · rfl
            have w67 : ∀ j, ρ 6 j = τ 6 j ∧ ρ 7 j = τ 7 j := fun j => by
              rw [er]; split
              · simp [up_if]
              · exact ⟨rfl, rfl⟩
            have uu : uRows ρ (σ 0 18 + 1) n := by
              intro i j a1 a2 a3 a4
              unfold uOk
              rw [(w67 _).1, (w67 _).2]
              by_cases q : i = σ 0 18
              · rw [q]; exact i8 j a3 a4
              · have := i10 (8 * i + j) (by omega)
                rw [this.1, this.2]
                exact r5 i j a1 (by omega) a3 (by have := i9 (by omega); omega)
            have t12 := i4.1
            have t13 : τ 0 12 < τ 0 13 := i4.2.2.2.2.2.1 (by omega)
            first | (have er' : up τ 0 19 n = ρ := by rw [er, if_pos (by omega)]
                     rw [er']) | (have er' : τ = ρ := by rw [er, if_neg (by omega)]
                                  rw [er'])
            clear er er'
            refine ok_aload_n 62 rfl rfl rfl (ok_callVV (M' := M_Mo_next) (as := []) 63 rfl rfl ml_X12_173 (s_Mo_next pρ.P0) rfl rfl (Nat.le_of_ble_eq_true rfl) ⟨Nat.le_of_ble_eq_true rfl, Nat.le_of_ble_eq_true rfl⟩ rfl (Nat.le_of_ble_eq_true rfl) (fun τ1 hl => ?_))
            have p1 := Pz.of pρ.P0 hl
            have l18 := hl.1 0 18 (by omega)
            have l19 := hl.1 0 19 (by omega)
            have l9 := hl.1 0 9 (by omega)
            have l12 := hl.2.1
            refine ok_aload_n 64 rfl rfl rfl (ok_dup 65 rfl rfl rfl (ok_getI 66 rfl rfl fl_X12_167 rfl rfl (Or.inl rfl) (ok_iconst 67 rfl rfl (by decide) (ok_iadd 68 rfl rfl (by first | omega | (simp [up_if]; omega) | (simp [up_if] at *; omega)) (ok_putI 69 rfl rfl fl_X12_167 rfl rfl rfl rfl (ok_iconst 70 rfl rfl (by decide) (ok_zret 71 rfl rfl rfl (by first | omega | (simp [up_if]; omega) | (simp [up_if] at *; omega)) ?_)))))))
            refine ⟨_, rfl, fr_up (fρ.tr (hl.1.mono (fun c k q => by simp only [rgR]; omega))) (by simp [rgR]), p1.fr (fr_up fr.rf (by omega)), Or.inr ⟨rfl, by simp [up_if]; omega, ?_, by simp [up_if]; omega⟩⟩
            refine ⟨by simp [up_if]; omega, by simp [up_if]; omega, by simp [up_if]; omega, by simp [up_if]; omega, ?_⟩
            intro i j a1 a2 a3 a4
            simp [up_if] at a2 a4
            unfold uOk
            rw [up_ne _ _ _ _ (by decide), up_ne _ _ _ _ (by decide), hl.1 7 _ (by omega), hl.1 6 _ (by omega)]
            exact uu i j a1 (by omega) a3 (by omega)
        · refine ok_aload_n 39 rfl rfl rfl (ok_iload_n 40 rfl rfl rfl (ok_callVI (M' := M_Mo_readFraction) (as := [_]) 41 rfl rfl ml_X12_176 (s_Mo_readFraction i4 ⟨i1, i2⟩ ⟨by omega, by omega⟩) rfl rfl (Nat.le_of_ble_eq_true rfl) ⟨Nat.le_of_ble_eq_true rfl, Nat.le_of_ble_eq_true rfl⟩ rfl (Nat.le_of_ble_eq_true rfl) (fun τ1 z hz => ?_)))
          obtain ⟨z1, z2, z3⟩ := hz
          have p12 := i4.1
          have p24 := z2.2.1
          have p25 := z2.2.2.1
          have g6 : τ1 0 6 = τ 0 6 := z1 0 6 (by simp only [rgF]; omega)
          refine ok_if_ne 42 84 rfl rfl rfl (fun h79 => ?_) (fun h79 => ?_)
          · refine ok_inc2 45 rfl rfl rfl (by first | omega | (simp [up_if]; omega) | (simp [up_if] at *; omega)) (ok_goto 46 57 rfl rfl rfl ?_)
            rcases z3 with ⟨q, -⟩ | ⟨-, y1, y2, y3, y4, y5, y6⟩
            · omega
            rw [e18] at y4 y5 y6
            rw [e19] at y4
            refine ih (n + 1, τ1) ⟨by dsimp only; omega, by dsimp only; omega, i3.tr z1, z2, fun _ => by dsimp only; omega, by dsimp only; omega, by dsimp only; omega, lt_ext (fun j a c => ?_) y5, fun q => by have := i9 q; have := y4 q; dsimp only; omega, fun j hj => ?_⟩ (by dsimp only; omega)
            · have := y6 (8 * σ 0 18 + j) (by omega)
              unfold uOk
              dsimp only
              rw [this.1, this.2]
              exact i8 j a c
            · have := y6 j (by omega)
              dsimp only
              rw [this.1, this.2]
              exact i10 j hj
          · refine ok_iconst 43 rfl rfl (by decide) (ok_zret 44 rfl rfl rfl (by first | omega | (simp [up_if]; omega) | (simp [up_if] at *; omega)) ?_)
            refine ⟨_, rfl, f1.tr (z1.mono (fun c k q => by simp only [rgF] at q; simp only [rgR]; omega)), z2, Or.inl ⟨rfl, ?_⟩⟩
            omega
    · refine ok_aload_n 25 rfl rfl rfl (ok_iconst 26 rfl rfl (by decide) (ok_callVI (M' := M_Mo_fails) (as := [_]) 27 rfl rfl ml_X12_164 (s_Mo_fails (by decide)) rfl rfl (Nat.le_of_ble_eq_true rfl) ⟨Nat.le_of_ble_eq_true rfl, Nat.le_of_ble_eq_true rfl⟩ rfl (Nat.le_of_ble_eq_true rfl) (fun σ' z hz => ?_)))
      have hq := hfail σ σ' z fr.rf h hz
      refine ok_zret 28 rfl rfl rfl (by have := hz.1; omega) ?_
      exact ⟨_, rfl, hq⟩
  refine ok_aload_n 0 rfl rfl rfl (ok_callVI (M' := M_Mo_isNumber) (as := []) 1 rfl rfl ml_X12_160 (s_Mo_isNumber h) rfl rfl (Nat.le_of_ble_eq_true rfl) ⟨Nat.le_of_ble_eq_true rfl, Nat.le_of_ble_eq_true rfl⟩ rfl (Nat.le_of_ble_eq_true rfl) (fun σ' z hz => ?_))
  obtain ⟨hs_, hz⟩ := hz
  rw [hs_]; clear hs_ σ'
  refine ok_if_ne 2 24 rfl rfl rfl (fun h4 => ?_) (fun h4 => ?_)
  · refine ok_iconst 11 rfl rfl (by decide) (ok_goto 12 29 rfl rfl rfl (ok_ist1 14 rfl rfl rfl (ok_iload_n 15 rfl rfl rfl (ok_if_ne 16 40 rfl rfl rfl (fun h31 => ?_) (fun h31 => ?_)))))
    · refine tail ?_ _
      rcases hz with ⟨-, q⟩ | ⟨q, -⟩
      · have := q.1; omega
      · omega
    · refine ok_aload_n 17 rfl rfl rfl (ok_iconst 18 rfl rfl (by decide) (ok_callVI (M' := M_Mo_fails) (as := [_]) 19 rfl rfl ml_X12_164 (s_Mo_fails (by decide)) rfl rfl (Nat.le_of_ble_eq_true rfl) ⟨Nat.le_of_ble_eq_true rfl, Nat.le_of_ble_eq_true rfl⟩ rfl (Nat.le_of_ble_eq_true rfl) (fun σ' z hz => ?_)))
      have hq := hfail σ σ' z fr.rf h hz
      refine ok_zret 20 rfl rfl rfl (by have := hz.1; omega) ?_
      exact ⟨_, rfl, hq⟩
  · refine ok_aload_n 3 rfl rfl rfl (ok_getI 4 rfl rfl fl_X12_147 rfl rfl (Or.inl rfl) (ok_iconst 5 rfl rfl (by decide) (ok_icmp_ne 6 28 rfl rfl rfl (fun h12 => ?_) (fun h12 => ?_))))
    · refine ok_iconst 13 rfl rfl (by decide) (ok_ist1 14 rfl rfl rfl (ok_iload_n 15 rfl rfl rfl (ok_if_ne 16 40 rfl rfl rfl (fun h31 => ?_) (fun h31 => ?_))))
      · refine tail ?_ _
        rcases hz with ⟨-, q⟩ | ⟨q, -⟩
        · have := q.1; omega
        · omega
      · refine ok_aload_n 17 rfl rfl rfl (ok_iconst 18 rfl rfl (by decide) (ok_callVI (M' := M_Mo_fails) (as := [_]) 19 rfl rfl ml_X12_164 (s_Mo_fails (by decide)) rfl rfl (Nat.le_of_ble_eq_true rfl) ⟨Nat.le_of_ble_eq_true rfl, Nat.le_of_ble_eq_true rfl⟩ rfl (Nat.le_of_ble_eq_true rfl) (fun σ' z hz => ?_)))
        have hq := hfail σ σ' z fr.rf h hz
        refine ok_zret 20 rfl rfl rfl (by have := hz.1; omega) ?_
        exact ⟨_, rfl, hq⟩
    · refine ok_aload_n 7 rfl rfl rfl (ok_getI 8 rfl rfl fl_X12_144 rfl rfl (Or.inl rfl) (ok_bipush 9 rfl rfl (by decide) (by decide) (ok_icmp_ne 10 28 rfl rfl rfl (fun h21 => ?_) (fun h21 => ?_))))
      · refine ok_iconst 13 rfl rfl (by decide) (ok_ist1 14 rfl rfl rfl (ok_iload_n 15 rfl rfl rfl (ok_if_ne 16 40 rfl rfl rfl (fun h31 => ?_) (fun h31 => ?_))))
        · refine tail ?_ _
          rcases hz with ⟨-, q⟩ | ⟨q, -⟩
          · have := q.1; omega
          · omega
        · refine ok_aload_n 17 rfl rfl rfl (ok_iconst 18 rfl rfl (by decide) (ok_callVI (M' := M_Mo_fails) (as := [_]) 19 rfl rfl ml_X12_164 (s_Mo_fails (by decide)) rfl rfl (Nat.le_of_ble_eq_true rfl) ⟨Nat.le_of_ble_eq_true rfl, Nat.le_of_ble_eq_true rfl⟩ rfl (Nat.le_of_ble_eq_true rfl) (fun σ' z hz => ?_)))
          have hq := hfail σ σ' z fr.rf h hz
          refine ok_zret 20 rfl rfl rfl (by have := hz.1; omega) ?_
          exact ⟨_, rfl, hq⟩
      · refine ok_iconst 11 rfl rfl (by decide) (ok_goto 12 29 rfl rfl rfl (ok_ist1 14 rfl rfl rfl (ok_iload_n 15 rfl rfl rfl (ok_if_ne 16 40 rfl rfl rfl (fun h31 => ?_) (fun h31 => ?_)))))
        · refine tail ?_ _
          rcases hz with ⟨-, q⟩ | ⟨q, -⟩
          · have := q.1; omega
          · omega
        · refine ok_aload_n 17 rfl rfl rfl (ok_iconst 18 rfl rfl (by decide) (ok_callVI (M' := M_Mo_fails) (as := [_]) 19 rfl rfl ml_X12_164 (s_Mo_fails (by decide)) rfl rfl (Nat.le_of_ble_eq_true rfl) ⟨Nat.le_of_ble_eq_true rfl, Nat.le_of_ble_eq_true rfl⟩ rfl (Nat.le_of_ble_eq_true rfl) (fun σ' z hz => ?_)))
          have hq := hfail σ σ' z fr.rf h hz
          refine ok_zret 20 rfl rfl rfl (by have := hz.1; omega) ?_
          exact ⟨_, rfl, hq⟩
