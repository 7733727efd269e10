theorem TK.mo {σ σ' : eS} (h : TK σ) (f : fr (fun c k => (c ≠ 0 ∧ c ≠ 5) ∨ (c = 0 ∧ (k < 6 ∨ (6 < k ∧ k < 11) ∨ 15 < k))) σ σ') : TK σ' := by
  have e5 : σ' 5 = σ 5 := by funext j; exact f 5 j (by omega)
  unfold TK
  rw [e5, f 0 12 (by omega), f 0 13 (by omega), f 0 6 (by omega), f 0 11 (by omega), f 0 14 (by omega), f 0 15 (by omega)]
  exact h
/-- a row read, of the reference -/
def KR (σ σ' : eS) (z : Int) : Prop := (z = 1 ∧ TK σ' ∧ PB σ' 0 = PB σ 0 ∧ σ' 0 10 = σ 0 10) ∨ (z = 0 ∧ (PB σ 0).1 = σ' 0 9 ∧ (PB σ 0).2.1 = σ' 0 10)
theorem t_Mo_readRow {σ : eS} (h : Pz σ) (hr : RR σ) (hT : TK σ) (hby : byt σ) (hb0 : σ 0 9 = 0) (hs0 : σ 0 11 ≠ 0) : MtI shB M_Mo_readRow [vr 0] σ (fun σ' z => QrR σ σ' z ∧ KR σ σ' z) := by
  refine Mt.of okM_Mo_readRow (Nat.le_of_ble_eq_true rfl) (fun hk hg => ?_)
  have hfail : ∀ (τ σ' : eS) (z c : Int), fr rgR σ τ → Pz τ → c ≠ 0 → (PB σ 0).1 = c → (PB σ 0).2.1 = τ 0 12 → z = 0 ∧ σ' = up (up τ 0 9 c) 0 10 (τ 0 12) → QrR σ σ' z ∧ KR σ σ' z := fun τ σ' z c f0 p0 hc e1 e2 hz0 => by
    obtain ⟨hz, x1, x2⟩ := fl_of hc hz0
    exact ⟨⟨f0.tr (hz.2.1.mono (fun c k q => by simp only [rgR]; omega)), p0.fr (hz.2.1.mono (fun c k q => by omega)), Or.inl ⟨hz.1, hz.2.2⟩⟩, Or.inr ⟨hz.1, by rw [e1, x1], by rw [e2, x2]⟩⟩
  obtain ⟨hq0, hT1⟩ := id hT
  have P1 : ¬ numB σ → ¬ (σ 0 11 = 3 ∧ σ 0 15 = 59) → PB σ 0 = (1, σ 0 12, σ 0 18, σ 0 19, rdA σ, rdU σ) := fun hn hs => by
    unfold PB
    rcases hT1 with ⟨a1, a2, a3⟩ | ⟨a1, a2, a3, a4⟩ | ⟨a1, a2, a3, a4, a5⟩
    · exact absurd a2 hs0
    · rw [PR_dig hq0 a1.1 a1.2 rfl, if_pos (by unfold numB at hn; omega)]
    · exact PR_bad hq0 a1 (by omega) (fun q => a2 ⟨a1, q⟩)
  have P3 : (numB σ ∨ (σ 0 11 = 3 ∧ σ 0 15 = 59)) → σ 0 18 = 8 → PB σ 0 = (3, σ 0 12, σ 0 18, σ 0 19, rdA σ, rdU σ) := fun hn h8 => by
    unfold PB
    unfold numB at hn
    rcases hT1 with ⟨a1, a2, a3⟩ | ⟨a1, a2, a3, a4⟩ | ⟨a1, a2, a3, a4, a5⟩
    · exact absurd a2 hs0
    · rw [PR_dig hq0 a1.1 a1.2 rfl, if_neg (by omega), if_pos (Or.inl h8)]
    · rw [PR_59 hq0 a1 (by omega), if_pos h8]
  obtain ⟨h1, h2, h3, h4, h5, h6, h7, h8⟩ := id h
  obtain ⟨r1, r2, r3, r4, r5⟩ := id hr
  have tail : (numB σ ∨ (σ 0 11 = 3 ∧ σ 0 15 = 59)) → ∀ b : Int, Ok shB M_Mo_readRow 40 [some (vr 0), some (vi b), none] [] σ (fun σ' v => ∃ z, v = some (vi z) ∧ (QrR σ σ' z ∧ KR σ σ' z)) := by
    intro hs b
    have hlt := h6 hs0
    refine ok_aload_n 21 rfl rfl rfl (ok_getI 22 rfl rfl fl_X12_167 rfl rfl (Or.inl rfl) (ok_bipush 23 rfl rfl (by decide) (by decide) (ok_icmp_ne 24 55 rfl rfl rfl (fun h46 => ?_) (fun h46 => ?_))))
    · refine ok_iconst 29 rfl rfl (by decide) (ok_ist2 30 rfl rfl rfl ?_)
      refine lpO (fun q : Int × eS => [some (vr 0), some (vi b), some (vi q.1)]) (fun q => q.2) (fun q => 0 ≤ q.1 ∧ q.1 ≤ 8 ∧ fr rgF σ q.2 ∧ Pz q.2 ∧ (0 < q.1 → σ 0 12 < q.2 0 12) ∧ q.2 0 9 = σ 0 9 ∧ σ 0 12 ≤ q.2 0 12 ∧ (∀ j, 0 ≤ j → j < q.1 → uOk q.2 (8 * σ 0 18 + j)) ∧ (0 < σ 0 18 → q.1 ≤ σ 0 19) ∧ (∀ j, j < 8 * σ 0 18 → q.2 6 j = σ 6 j ∧ q.2 7 j = σ 7 j) ∧ TK q.2 ∧ PB q.2 q.1 = PB σ 0 ∧ (q.2 0 11 = 0 → 0 < q.1) ∧ q.2 0 10 = σ 0 10) (fun q => (700 - q.2 0 12).toNat) ?_ (0, σ) ⟨by omega, by omega, fr.rf, h, fun q => by omega, rfl, Int.le_refl _, fun j a b => by omega, fun _ => by omega, fun j _ => ⟨rfl, rfl⟩, hT, rfl, fun q => absurd q hs0, rfl⟩
      rintro ⟨n, τ⟩ ⟨i1, i2, i3, i4, i5, i6, i7, i8, i9, i10, i11, i12, i13, i14⟩ ih
      dsimp only at i1 i2 i3 i4 i5 i6 i7 i8 i9 i10 i11 i12 i13 i14 ih ⊢
      have e18 : τ 0 18 = σ 0 18 := i3 0 18 (by simp only [rgF]; omega)
      have e19 : τ 0 19 = σ 0 19 := i3 0 19 (by simp only [rgF]; omega)
      have e6 : τ 0 6 = σ 0 6 := i3 0 6 (by simp only [rgF]; omega)
      have f1 : fr rgR σ τ := i3.mono (fun c k q => by simp only [rgF] at q; simp only [rgR]; omega)
      have e5 : τ 5 = σ 5 := by funext j; exact i3 5 j (by simp [rgF])
      have P5 : (τ 0 11 = 3 ∧ τ 0 15 = 59) → τ 0 13 = τ 0 12 + 1 ∧ PB σ 0 = (if 0 < σ 0 18 ∧ n ≠ σ 0 19 then (4, τ 0 12, σ 0 18, σ 0 19, rdA τ, rdU τ) else PR (σ 5) (σ 0 6) (τ 0 12 + 1) (σ 0 18 + 1) 0 (if σ 0 18 = 0 then n else σ 0 19) (rdA τ) (rdU τ)) := fun q => by
        obtain ⟨x1, x2⟩ := i11
        rcases x2 with ⟨a1, a2, a3⟩ | ⟨a1, a2, a3, a4⟩ | ⟨a1, a2, a3, a4, a5⟩
        · omega
        · omega
        · refine ⟨a5, ?_⟩
          rw [← i12]
          unfold PB
          rw [PR_59 x1 a1 (by omega), e18, if_neg (by omega), e19, e5, e6]
      have by1 : byt τ := by unfold byt; rw [e5, e6]; exact hby
      refine ok_aload_n 31 rfl rfl rfl (ok_getI 32 rfl rfl fl_X12_147 rfl rfl (Or.inl rfl) (ok_iconst 33 rfl rfl (by decide) (ok_icmp_ne 34 74 rfl rfl rfl (fun h62 => ?_) (fun h62 => ?_))))
      · refine ok_aload_n 39 rfl rfl rfl (ok_iload_n 40 rfl rfl rfl (ok_callVI (M' := M_Mo_readFraction) (as := [_]) 41 rfl rfl ml_X12_176 (t_Mo_readFraction i4 ⟨i1, i2⟩ ⟨by omega, by omega⟩ i11 by1 (by omega) i13 (by omega)) rfl rfl (Nat.le_of_ble_eq_true rfl) ⟨Nat.le_of_ble_eq_true rfl, Nat.le_of_ble_eq_true rfl⟩ rfl (Nat.le_of_ble_eq_true rfl) (fun τ1 z hz0 => ?_)))
        obtain ⟨⟨z1, z2, z3⟩, z4⟩ := hz0
        have p12 := i4.1
        have p24 := z2.2.1
        have p25 := z2.2.2.1
        have g6 : τ1 0 6 = τ 0 6 := z1 0 6 (by simp only [rgF]; omega)
        refine ok_if_ne 42 84 rfl rfl rfl (fun h79 => ?_) (fun h79 => ?_)
        · refine ok_inc2 45 rfl rfl rfl (by first | omega | (simp [up_if]; omega) | (simp [up_if] at *; omega)) (ok_goto 46 57 rfl rfl rfl ?_)
          rcases z3 with ⟨q, -⟩ | ⟨-, y1, y2, y3, y4, y5, y6⟩
          · omega
          rcases z4 with ⟨-, x1, x2, x3⟩ | ⟨q, -⟩
          rotate_left 1
          · omega
          rw [e18] at y4 y5 y6
          rw [e19] at y4
          refine ih (n + 1, τ1) ⟨by dsimp only; omega, by dsimp only; omega, i3.tr z1, z2, fun _ => by dsimp only; omega, by dsimp only; omega, by dsimp only; omega, lt_ext (fun j a c => ?_) y5, fun q => by have := i9 q; have := y4 q; dsimp only; omega, fun j hj => ?_, x1, x2.trans i12, fun _ => by dsimp only; omega, x3.trans i14⟩ (by dsimp only; omega)
          · have := y6 (8 * σ 0 18 + j) (by omega)
            unfold uOk
            dsimp only
            rw [this.1, this.2]
            exact i8 j a c
          · have := y6 j (by omega)
            dsimp only
            rw [this.1, this.2]
            exact i10 j hj
        · refine ok_iconst 43 rfl rfl (by decide) (ok_zret 44 rfl rfl rfl (by first | omega | (simp [up_if]; omega) | (simp [up_if] at *; omega)) ?_)
          refine ⟨_, rfl, ⟨f1.tr (z1.mono (fun c k q => by simp only [rgF] at q; simp only [rgR]; omega)), z2, Or.inl ⟨rfl, by omega⟩⟩, ?_⟩
          rcases z4 with ⟨q, -⟩ | ⟨-, q1, q2⟩
          · omega
          · rw [i12] at q1 q2; exact Or.inr ⟨rfl, q1, q2⟩
      · refine ok_aload_n 35 rfl rfl rfl (ok_getI 36 rfl rfl fl_X12_144 rfl rfl (Or.inl rfl) (ok_bipush 37 rfl rfl (by decide) (by decide) (ok_icmp_eq 38 90 rfl rfl rfl (fun h71 => ?_) (fun h71 => ?_))))
        · refine ok_aload_n 47 rfl rfl rfl (ok_getI 48 rfl rfl fl_X12_167 rfl rfl (Or.inl rfl) (ok_if_ne 49 105 rfl rfl rfl (fun h94 => ?_) (fun h94 => ?_)))
          · refine ok_iload_n 54 rfl rfl rfl (ok_aload_n 55 rfl rfl rfl (ok_getI 56 rfl rfl fl_X12_170 rfl rfl (Or.inl rfl) (ok_icmp_eq 57 119 rfl rfl rfl (fun h110 => ?_) (fun h110 => ?_))))
            · obtain ⟨ρ, er⟩ : ∃ x : eS, x = (if σ 0 18 = 0 then up τ 0 19 n else τ) := ⟨_, rfl⟩
              have fρ : fr rgR σ ρ := by
                rw [er]; split
                · exact fr_up f1 (by simp [rgR])
                · exact f1
              have pρ : Pz ρ := by
                rw [er]; split
                · exact i4.fr (fr_up fr.rf (by omega))
                · exact i4
              have w19 : ρ 0 19 = n := by
                rw [er]; split
                · simp [up_if]
                · omega
              have w18 : ρ 0 18 = σ 0 18 := by
                rw [er]; split
                · simp [up_if]; exact e18
                · exact e18
              have w9 : ρ 0 9 = σ 0 9 := by
                rw [er]; split
                · simp [up_if]; exact i6
                · exact i6
              have w10 : ρ 0 10 = τ 0 10 := by
                rw [er]; split
                · simp [up_if]
                · rfl
              have w12 : ρ 0 12 = τ 0 12 := by
                rw [er]; split
                · simp [up_if]
                · rfl
              have w13 : ρ 0 13 = τ 0 13 := by
                rw [er]; split
                · simp [up_if]
                · rfl
              have w67 : ∀ j, ρ 6 j = τ 6 j ∧ ρ 7 j = τ 7 j := fun j => by
                rw [er]; split
                · simp [up_if]
                · exact ⟨rfl, rfl⟩
              have w5 : ρ 5 = τ 5 := by
                rw [er]; split
                · rw [up_fn _ _ _ (by decide)]
                · rfl
              have w6 : ρ 0 6 = τ 0 6 := by
                rw [er]; split
                · simp [up_if]
                · rfl
              have by2 : ∀ k : Int, 0 ≤ k → k < ρ 0 6 → 0 ≤ ρ 5 k := by rw [w5, w6]; exact by1
              obtain ⟨x1, x2⟩ := P5 (by omega)
              rw [if_neg (by omega)] at x2
              have wn : (if σ 0 18 = 0 then n else σ 0 19) = n := by split <;> omega
              rw [wn] at x2
              have uu : uRows ρ (σ 0 18 + 1) n := by
                intro i j a1 a2 a3 a4
                unfold uOk
                rw [(w67 _).1, (w67 _).2]
                by_cases q : i = σ 0 18
                · rw [q]; exact i8 j a3 a4
                · have := i10 (8 * i + j) (by omega)
                  rw [this.1, this.2]
                  exact r5 i j a1 (by omega) a3 (by have := i9 (by omega); omega)
              have t12 := i4.1
              have t13 : τ 0 12 < τ 0 13 := i4.2.2.2.2.2.1 (by omega)
              first | (have er' : up τ 0 19 n = ρ := by rw [er, if_pos (by omega)]
                       rw [er']) | (have er' : τ = ρ := by rw [er, if_neg (by omega)]
                                    rw [er'])
              clear er er'
              refine ok_aload_n 62 rfl rfl rfl (ok_callVV (M' := M_Mo_next) (as := []) 63 rfl rfl ml_X12_173 (t_Mo_next pρ.P0 by2) rfl rfl (Nat.le_of_ble_eq_true rfl) ⟨Nat.le_of_ble_eq_true rfl, Nat.le_of_ble_eq_true rfl⟩ rfl (Nat.le_of_ble_eq_true rfl) (fun τ1 hl0 => ?_))
              have hl := hl0.1
              obtain ⟨T1, j12, j5, j6⟩ := TK_of hl hl0.2
              rw [w5, e5, w6, e6, w13, x1] at j12
              rw [w5, e5] at j5
              rw [w6, e6] at j6
              have p1 := Pz.of pρ.P0 hl
              have l18 := hl.1 0 18 (by omega)
              have l19 := hl.1 0 19 (by omega)
              have l9 := hl.1 0 9 (by omega)
              have l12 := hl.2.1
              refine ok_aload_n 64 rfl rfl rfl (ok_dup 65 rfl rfl rfl (ok_getI 66 rfl rfl fl_X12_167 rfl rfl (Or.inl rfl) (ok_iconst 67 rfl rfl (by decide) (ok_iadd 68 rfl rfl (by first | omega | (simp [up_if]; omega) | (simp [up_if] at *; omega)) (ok_putI 69 rfl rfl fl_X12_167 rfl rfl rfl rfl (ok_iconst 70 rfl rfl (by decide) (ok_zret 71 rfl rfl rfl (by first | omega | (simp [up_if]; omega) | (simp [up_if] at *; omega)) ?_)))))))
              refine ⟨_, rfl, ⟨fr_up (fρ.tr (hl.1.mono (fun c k q => by simp only [rgR]; omega))) (by simp [rgR]), p1.fr (fr_up fr.rf (by omega)), Or.inr ⟨rfl, by simp [up_if]; omega, ?_, by simp [up_if]; omega⟩⟩, Or.inl ⟨rfl, T1.mo (fr_up fr.rf (by omega)), ?_, by rw [up_nk _ _ _ _ (by decide), hl.1 0 10 (by omega), w10]; exact i14⟩⟩
              rotate_left 1
              · rw [x2]
                unfold PB
                have z6 : τ1 6 = τ 6 := by funext j; rw [hl.1 6 j (by omega)]; exact (w67 j).1
                have z7 : τ1 7 = τ 7 := by funext j; rw [hl.1 7 j (by omega)]; exact (w67 j).2
                have ra : rdA (up τ1 0 18 (τ1 0 18 + 1)) = rdA τ := by unfold rdA; rw [up_fn _ _ _ (by decide), up_fn _ _ _ (by decide), z6, z7]
                have ru : rdU (up τ1 0 18 (τ1 0 18 + 1)) = rdU τ := by unfold rdU; rw [up_fn _ _ _ (by decide), up_fn _ _ _ (by decide), z6, z7]
                rw [ra, ru, up_fn _ _ _ (by decide), j5, up_nk _ _ _ _ (by decide), j6, up_nk _ _ _ _ (by decide), j12, up_same, up_nk _ _ _ _ (by decide), l18, l19, w18, w19]
                exact PR_sk sk_id
              refine ⟨by simp [up_if]; omega, by simp [up_if]; omega, by simp [up_if]; omega, by simp [up_if]; omega, ?_⟩
              intro i j a1 a2 a3 a4
              simp [up_if] at a2 a4
              unfold uOk
              rw [up_ne _ _ _ _ (by decide), up_ne _ _ _ _ (by decide), hl.1 7 _ (by omega), hl.1 6 _ (by omega)]
              exact uu i j a1 (by omega) a3 (by omega)
            · refine ok_aload_n 58 rfl rfl rfl (ok_iconst 59 rfl rfl (by decide) (ok_callVI (M' := M_Mo_fails) (as := [_]) 60 rfl rfl ml_X12_164 (t_Mo_fails (by omega)) rfl rfl (Nat.le_of_ble_eq_true rfl) ⟨Nat.le_of_ble_eq_true rfl, Nat.le_of_ble_eq_true rfl⟩ rfl (Nat.le_of_ble_eq_true rfl) (fun σ' z hz => ?_)))
              obtain ⟨-, x2⟩ := P5 (by omega)
              rw [if_pos (by omega)] at x2
              have hq := hfail τ σ' z 4 f1 i4 (by decide) (by rw [x2]) (by rw [x2]) hz
              refine ok_zret 61 rfl rfl rfl (by have := hz.1; omega) ?_
              exact ⟨_, rfl, hq⟩
          · refine ok_aload_n 50 rfl rfl rfl (ok_iload_n 51 rfl rfl rfl (ok_putI 52 rfl rfl fl_X12_170 rfl rfl rfl rfl (ok_goto 53 119 rfl rfl rfl ?_)))
            obtain ⟨ρ, er⟩ : ∃ x : eS, x = (if σ 0 18 = 0 then up τ 0 19 n else τ) := ⟨_, rfl⟩
            have fρ : fr rgR σ ρ := by
              rw [er]; split
              · exact fr_up f1 (by simp [rgR])
              · exact f1
            have pρ : Pz ρ := by
              rw [er]; split
              · exact i4.fr (fr_up fr.rf (by omega))
              · exact i4
            have w19 : ρ 0 19 = n := by
              rw [er]; split
              · simp [up_if]
              · omega
            have w18 : ρ 0 18 = σ 0 18 := by
              rw [er]; split
              · simp [up_if]; exact e18
              · exact e18
            have w9 : ρ 0 9 = σ 0 9 := by
              rw [er]; split
              · simp [up_if]; exact i6
              · exact i6
            have w10 : ρ 0 10 = τ 0 10 := by
              rw [er]; split
              · simp [up_if]
              · rfl
            have w12 : ρ 0 12 = τ 0 12 := by
              rw [er]; split
              · simp [up_if]
              · rfl
            have w13 : ρ 0 13 = τ 0 13 := by
              rw [er]; split
              · simp [up_if]
              · rfl
            have w67 : ∀ j, ρ 6 j = τ 6 j ∧ ρ 7 j = τ 7 j := fun j => by
              rw [er]; split
              · simp [up_if]
              · exact ⟨rfl, rfl⟩
            have w5 : ρ 5 = τ 5 := by
              rw [er]; split
              · rw [up_fn _ _ _ (by decide)]
              · rfl
            have w6 : ρ 0 6 = τ 0 6 := by
              rw [er]; split
              · simp [up_if]
              · rfl
            have by2 : ∀ k : Int, 0 ≤ k → k < ρ 0 6 → 0 ≤ ρ 5 k := by rw [w5, w6]; exact by1
            obtain ⟨x1, x2⟩ := P5 (by omega)
            rw [if_neg (by omega)] at x2
            have wn : (if σ 0 18 = 0 then n else σ 0 19) = n := by split <;> omega
            rw [wn] at x2
            have uu : uRows ρ (σ 0 18 + 1) n := by
              intro i j a1 a2 a3 a4
              unfold uOk
              rw [(w67 _).1, (w67 _).2]
              by_cases q : i = σ 0 18
              · rw [q]; exact i8 j a3 a4
              · have := i10 (8 * i + j) (by omega)
                rw [this.1, this.2]
                exact r5 i j a1 (by omega) a3 (by have := i9 (by omega); omega)
            have t12 := i4.1
            have t13 : τ 0 12 < τ 0 13 := i4.2.2.2.2.2.1 (by omega)
            first | (have er' : up τ 0 19 n = ρ := by rw [er, if_pos (by omega)]
                     rw [er']) | (have er' : τ = ρ := by rw [er, if_neg (by omega)]
                                  rw [er'])
            clear er er'
            refine ok_aload_n 62 rfl rfl rfl (ok_callVV (M' := M_Mo_next) (as := []) 63 rfl rfl ml_X12_173 (t_Mo_next pρ.P0 by2) rfl rfl (Nat.le_of_ble_eq_true rfl) ⟨Nat.le_of_ble_eq_true rfl, Nat.le_of_ble_eq_true rfl⟩ rfl (Nat.le_of_ble_eq_true rfl) (fun τ1 hl0 => ?_))
            have hl := hl0.1
            obtain ⟨T1, j12, j5, j6⟩ := TK_of hl hl0.2
            rw [w5, e5, w6, e6, w13, x1] at j12
            rw [w5, e5] at j5
            rw [w6, e6] at j6
            have p1 := Pz.of pρ.P0 hl
            have l18 := hl.1 0 18 (by omega)
            have l19 := hl.1 0 19 (by omega)
            have l9 := hl.1 0 9 (by omega)
            have l12 := hl.2.1
            refine ok_aload_n 64 rfl rfl rfl (ok_dup 65 rfl rfl rfl (ok_getI 66 rfl rfl fl_X12_167 rfl rfl (Or.inl rfl) (ok_iconst 67 rfl rfl (by decide) (ok_iadd 68 rfl rfl (by first | omega | (simp [up_if]; omega) | (simp [up_if] at *; omega)) (ok_putI 69 rfl rfl fl_X12_167 rfl rfl rfl rfl (ok_iconst 70 rfl rfl (by decide) (ok_zret 71 rfl rfl rfl (by first | omega | (simp [up_if]; omega) | (simp [up_if] at *; omega)) ?_)))))))
            refine ⟨_, rfl, ⟨fr_up (fρ.tr (hl.1.mono (fun c k q => by simp only [rgR]; omega))) (by simp [rgR]), p1.fr (fr_up fr.rf (by omega)), Or.inr ⟨rfl, by simp [up_if]; omega, ?_, by simp [up_if]; omega⟩⟩, Or.inl ⟨rfl, T1.mo (fr_up fr.rf (by omega)), ?_, by rw [up_nk _ _ _ _ (by decide), hl.1 0 10 (by omega), w10]; exact i14⟩⟩
            rotate_left 1
            · rw [x2]
              unfold PB
              have z6 : τ1 6 = τ 6 := by funext j; rw [hl.1 6 j (by omega)]; exact (w67 j).1
              have z7 : τ1 7 = τ 7 := by funext j; rw [hl.1 7 j (by omega)]; exact (w67 j).2
              have ra : rdA (up τ1 0 18 (τ1 0 18 + 1)) = rdA τ := by unfold rdA; rw [up_fn _ _ _ (by decide), up_fn _ _ _ (by decide), z6, z7]
              have ru : rdU (up τ1 0 18 (τ1 0 18 + 1)) = rdU τ := by unfold rdU; rw [up_fn _ _ _ (by decide), up_fn _ _ _ (by decide), z6, z7]
              rw [ra, ru, up_fn _ _ _ (by decide), j5, up_nk _ _ _ _ (by decide), j6, up_nk _ _ _ _ (by decide), j12, up_same, up_nk _ _ _ _ (by decide), l18, l19, w18, w19]
              exact PR_sk sk_id
            refine ⟨by simp [up_if]; omega, by simp [up_if]; omega, by simp [up_if]; omega, by simp [up_if]; omega, ?_⟩
            intro i j a1 a2 a3 a4
            simp [up_if] at a2 a4
            unfold uOk
            rw [up_ne _ _ _ _ (by decide), up_ne _ _ _ _ (by decide), hl.1 7 _ (by omega), hl.1 6 _ (by omega)]
            exact uu i j a1 (by omega) a3 (by omega)
        · refine ok_aload_n 39 rfl rfl rfl (ok_iload_n 40 rfl rfl rfl (ok_callVI (M' := M_Mo_readFraction) (as := [_]) 41 rfl rfl ml_X12_176 (t_Mo_readFraction i4 ⟨i1, i2⟩ ⟨by omega, by omega⟩ i11 by1 (by omega) i13 (by omega)) rfl rfl (Nat.le_of_ble_eq_true rfl) ⟨Nat.le_of_ble_eq_true rfl, Nat.le_of_ble_eq_true rfl⟩ rfl (Nat.le_of_ble_eq_true rfl) (fun τ1 z hz0 => ?_)))
          obtain ⟨⟨z1, z2, z3⟩, z4⟩ := hz0
          have p12 := i4.1
          have p24 := z2.2.1
          have p25 := z2.2.2.1
          have g6 : τ1 0 6 = τ 0 6 := z1 0 6 (by simp only [rgF]; omega)
          refine ok_if_ne 42 84 rfl rfl rfl (fun h79 => ?_) (fun h79 => ?_)
          · refine ok_inc2 45 rfl rfl rfl (by first | omega | (simp [up_if]; omega) | (simp [up_if] at *; omega)) (ok_goto 46 57 rfl rfl rfl ?_)
            rcases z3 with ⟨q, -⟩ | ⟨-, y1, y2, y3, y4, y5, y6⟩
            · omega
            rcases z4 with ⟨-, x1, x2, x3⟩ | ⟨q, -⟩
            rotate_left 1
            · omega
            rw [e18] at y4 y5 y6
            rw [e19] at y4
            refine ih (n + 1, τ1) ⟨by dsimp only; omega, by dsimp only; omega, i3.tr z1, z2, fun _ => by dsimp only; omega, by dsimp only; omega, by dsimp only; omega, lt_ext (fun j a c => ?_) y5, fun q => by have := i9 q; have := y4 q; dsimp only; omega, fun j hj => ?_, x1, x2.trans i12, fun _ => by dsimp only; omega, x3.trans i14⟩ (by dsimp only; omega)
            · have := y6 (8 * σ 0 18 + j) (by omega)
              unfold uOk
              dsimp only
              rw [this.1, this.2]
              exact i8 j a c
            · have := y6 j (by omega)
              dsimp only
              rw [this.1, this.2]
              exact i10 j hj
          · refine ok_iconst 43 rfl rfl (by decide) (ok_zret 44 rfl rfl rfl (by first | omega | (simp [up_if]; omega) | (simp [up_if] at *; omega)) ?_)
            refine ⟨_, rfl, ⟨f1.tr (z1.mono (fun c k q => by simp only [rgF] at q; simp only [rgR]; omega)), z2, Or.inl ⟨rfl, by omega⟩⟩, ?_⟩
            rcases z4 with ⟨q, -⟩ | ⟨-, q1, q2⟩
            · omega
            · rw [i12] at q1 q2; exact Or.inr ⟨rfl, q1, q2⟩
    · refine ok_aload_n 25 rfl rfl rfl (ok_iconst 26 rfl rfl (by decide) (ok_callVI (M' := M_Mo_fails) (as := [_]) 27 rfl rfl ml_X12_164 (t_Mo_fails hb0) rfl rfl (Nat.le_of_ble_eq_true rfl) ⟨Nat.le_of_ble_eq_true rfl, Nat.le_of_ble_eq_true rfl⟩ rfl (Nat.le_of_ble_eq_true rfl) (fun σ' z hz => ?_)))
      have hq := hfail σ σ' z 3 fr.rf h (by decide) (by rw [P3 hs (by omega)]) (by rw [P3 hs (by omega)]) hz
      refine ok_zret 28 rfl rfl rfl (by have := hz.1; omega) ?_
      exact ⟨_, rfl, hq⟩
  refine ok_aload_n 0 rfl rfl rfl (ok_callVI (M' := M_Mo_isNumber) (as := []) 1 rfl rfl ml_X12_160 (s_Mo_isNumber h) rfl rfl (Nat.le_of_ble_eq_true rfl) ⟨Nat.le_of_ble_eq_true rfl, Nat.le_of_ble_eq_true rfl⟩ rfl (Nat.le_of_ble_eq_true rfl) (fun σ' z hz => ?_))
  obtain ⟨hs_, hz⟩ := hz
  rw [hs_]; clear hs_ σ'
  refine ok_if_ne 2 24 rfl rfl rfl (fun h4 => ?_) (fun h4 => ?_)
  · refine ok_iconst 11 rfl rfl (by decide) (ok_goto 12 29 rfl rfl rfl (ok_ist1 14 rfl rfl rfl (ok_iload_n 15 rfl rfl rfl (ok_if_ne 16 40 rfl rfl rfl (fun h31 => ?_) (fun h31 => ?_)))))
    · refine tail ?_ _
      rcases hz with ⟨-, q⟩ | ⟨q, -⟩
      · exact Or.inl q
      · exact Or.inr (by omega)
    · refine ok_aload_n 17 rfl rfl rfl (ok_iconst 18 rfl rfl (by decide) (ok_callVI (M' := M_Mo_fails) (as := [_]) 19 rfl rfl ml_X12_164 (t_Mo_fails hb0) rfl rfl (Nat.le_of_ble_eq_true rfl) ⟨Nat.le_of_ble_eq_true rfl, Nat.le_of_ble_eq_true rfl⟩ rfl (Nat.le_of_ble_eq_true rfl) (fun σ' z2 hz2 => ?_)))
      have hq := hfail σ σ' z2 1 fr.rf h (by decide) (by rw [P1 (nn_of hz (by omega)) (by omega)]) (by rw [P1 (nn_of hz (by omega)) (by omega)]) hz2
      refine ok_zret 20 rfl rfl rfl (by have := hz2.1; omega) ?_
      exact ⟨_, rfl, hq⟩
  · refine ok_aload_n 3 rfl rfl rfl (ok_getI 4 rfl rfl fl_X12_147 rfl rfl (Or.inl rfl) (ok_iconst 5 rfl rfl (by decide) (ok_icmp_ne 6 28 rfl rfl rfl (fun h12 => ?_) (fun h12 => ?_))))
    · refine ok_iconst 13 rfl rfl (by decide) (ok_ist1 14 rfl rfl rfl (ok_iload_n 15 rfl rfl rfl (ok_if_ne 16 40 rfl rfl rfl (fun h31 => ?_) (fun h31 => ?_))))
      · refine tail ?_ _
        rcases hz with ⟨-, q⟩ | ⟨q, -⟩
        · exact Or.inl q
        · exact Or.inr (by omega)
      · refine ok_aload_n 17 rfl rfl rfl (ok_iconst 18 rfl rfl (by decide) (ok_callVI (M' := M_Mo_fails) (as := [_]) 19 rfl rfl ml_X12_164 (t_Mo_fails hb0) rfl rfl (Nat.le_of_ble_eq_true rfl) ⟨Nat.le_of_ble_eq_true rfl, Nat.le_of_ble_eq_true rfl⟩ rfl (Nat.le_of_ble_eq_true rfl) (fun σ' z2 hz2 => ?_)))
        have hq := hfail σ σ' z2 1 fr.rf h (by decide) (by rw [P1 (nn_of hz (by omega)) (by omega)]) (by rw [P1 (nn_of hz (by omega)) (by omega)]) hz2
        refine ok_zret 20 rfl rfl rfl (by have := hz2.1; omega) ?_
        exact ⟨_, rfl, hq⟩
    · refine ok_aload_n 7 rfl rfl rfl (ok_getI 8 rfl rfl fl_X12_144 rfl rfl (Or.inl rfl) (ok_bipush 9 rfl rfl (by decide) (by decide) (ok_icmp_ne 10 28 rfl rfl rfl (fun h21 => ?_) (fun h21 => ?_))))
      · refine ok_iconst 13 rfl rfl (by decide) (ok_ist1 14 rfl rfl rfl (ok_iload_n 15 rfl rfl rfl (ok_if_ne 16 40 rfl rfl rfl (fun h31 => ?_) (fun h31 => ?_))))
        · refine tail ?_ _
          rcases hz with ⟨-, q⟩ | ⟨q, -⟩
          · exact Or.inl q
          · exact Or.inr (by omega)
        · refine ok_aload_n 17 rfl rfl rfl (ok_iconst 18 rfl rfl (by decide) (ok_callVI (M' := M_Mo_fails) (as := [_]) 19 rfl rfl ml_X12_164 (t_Mo_fails hb0) rfl rfl (Nat.le_of_ble_eq_true rfl) ⟨Nat.le_of_ble_eq_true rfl, Nat.le_of_ble_eq_true rfl⟩ rfl (Nat.le_of_ble_eq_true rfl) (fun σ' z2 hz2 => ?_)))
          have hq := hfail σ σ' z2 1 fr.rf h (by decide) (by rw [P1 (nn_of hz (by omega)) (by omega)]) (by rw [P1 (nn_of hz (by omega)) (by omega)]) hz2
          refine ok_zret 20 rfl rfl rfl (by have := hz2.1; omega) ?_
          exact ⟨_, rfl, hq⟩
      · refine ok_iconst 11 rfl rfl (by decide) (ok_goto 12 29 rfl rfl rfl (ok_ist1 14 rfl rfl rfl (ok_iload_n 15 rfl rfl rfl (ok_if_ne 16 40 rfl rfl rfl (fun h31 => ?_) (fun h31 => ?_)))))
        · refine tail ?_ _
          rcases hz with ⟨-, q⟩ | ⟨q, -⟩
          · exact Or.inl q
          · exact Or.inr (by omega)
        · refine ok_aload_n 17 rfl rfl rfl (ok_iconst 18 rfl rfl (by decide) (ok_callVI (M' := M_Mo_fails) (as := [_]) 19 rfl rfl ml_X12_164 (t_Mo_fails hb0) rfl rfl (Nat.le_of_ble_eq_true rfl) ⟨Nat.le_of_ble_eq_true rfl, Nat.le_of_ble_eq_true rfl⟩ rfl (Nat.le_of_ble_eq_true rfl) (fun σ' z2 hz2 => ?_)))
          have hq := hfail σ σ' z2 1 fr.rf h (by decide) (by rw [P1 (nn_of hz (by omega)) (by omega)]) (by rw [P1 (nn_of hz (by omega)) (by omega)]) hz2
          refine ok_zret 20 rfl rfl rfl (by have := hz2.1; omega) ?_
          exact ⟨_, rfl, hq⟩
