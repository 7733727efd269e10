theorem s_Mo_isTable_r {σ : eS} {s : Int} : MtI shB M_Mo_isTable [vr 0, vi s] σ (fun σ' z => σ' = σ ∧ ((z = 1 ∧ tabB σ s) ∨ (z = 0 ∧ ¬ tabB σ s))) := by
  by_cases h : tabB σ s
  · exact (s_Mo_isTable_y h).weaken (fun σ' v q => by obtain ⟨z, h1, h2, h3⟩ := q; exact ⟨z, h1, h2, Or.inl ⟨h3, h⟩⟩)
  · exact (s_Mo_isTable_n h).weaken (fun σ' v q => by obtain ⟨z, h1, h2, h3⟩ := q; exact ⟨z, h1, h2, Or.inr ⟨h3, h⟩⟩)
theorem s_Mo_isSlot_r {σ : eS} {s : Int} : MtI shB M_Mo_isSlot [vi s] σ (fun σ' z => σ' = σ ∧ ((z = 1 ∧ 0 ≤ s ∧ s < 4) ∨ (z = 0 ∧ ¬ (0 ≤ s ∧ s < 4)))) := by
  by_cases h : 0 ≤ s ∧ s < 4
  · exact (s_Mo_isSlot_y h).weaken (fun σ' v q => by obtain ⟨z, h1, h2, h3⟩ := q; exact ⟨z, h1, h2, Or.inl ⟨h3, h⟩⟩)
  · exact (s_Mo_isSlot_n h).weaken (fun σ' v q => by obtain ⟨z, h1, h2, h3⟩ := q; exact ⟨z, h1, h2, Or.inr ⟨h3, h⟩⟩)
theorem s_Mo_isIn_r {σ : eS} {v a b : Int} : MtI shB M_Mo_isIn [vl v, vl a, vl b] σ (fun σ' z => σ' = σ ∧ ((z = 1 ∧ a ≤ v ∧ v ≤ b) ∨ (z = 0 ∧ ¬ (a ≤ v ∧ v ≤ b)))) := by
  by_cases h : a ≤ v ∧ v ≤ b
  · exact (s_Mo_isIn_y h).weaken (fun σ' v q => by obtain ⟨z, h1, h2, h3⟩ := q; exact ⟨z, h1, h2, Or.inl ⟨h3, h⟩⟩)
  · exact (s_Mo_isIn_n h).weaken (fun σ' v q => by obtain ⟨z, h1, h2, h3⟩ := q; exact ⟨z, h1, h2, Or.inr ⟨h3, h⟩⟩)
/-- what a test says, where it isn't 0 -/
theorem yes1 {z : Int} {P : Prop} (h : (z = 1 ∧ P) ∨ (z = 0 ∧ ¬ P)) (hz : ¬ z = 0) : P := by
  rcases h with q | q
  · exact q.2
  · exact absurd q.1 hz
theorem no1 {z : Int} {P : Prop} (h : (z = 1 ∧ P) ∨ (z = 0 ∧ ¬ P)) (hz : z = 0) : ¬ P := by
  rcases h with q | q
  · omega
  · exact q.2
theorem s_Mo_mix {σ : eS} {s x y o u v t : Int} (hB : iB1 σ) : MtI shB M_Mo_mix [vr 0, vi s, vi x, vi y, vi o, vi u, vi v, vi t] σ (QM σ) := by
  refine Mt.of okM_Mo_mix (Nat.le_of_ble_eq_true rfl) (fun hk hg => ?_)
  refine ok_aload_n 0 rfl rfl rfl (ok_iload_n 1 rfl rfl rfl (ok_callVI (M' := M_Mo_isTable) (as := [_]) 2 rfl rfl ml_X12_111 (s_Mo_isTable_r) rfl rfl (Nat.le_of_ble_eq_true rfl) ⟨Nat.le_of_ble_eq_true rfl, Nat.le_of_ble_eq_true rfl⟩ rfl (Nat.le_of_ble_eq_true rfl) (fun σ' z1 a1 => ?_)))
  obtain ⟨hs_, a1⟩ := a1
  rw [hs_]; clear hs_ σ'
  refine ok_if_eq 3 59 rfl rfl rfl (fun h5 => ?_) (fun h5 => ?_)
  · refine ok_iconst 28 rfl rfl (by decide) (ok_zret 29 rfl rfl rfl (by first | omega | (simp [up_if]; omega) | (simp [up_if] at *; omega)) ?_)
    exact ⟨_, rfl, fr.rf, hB, Or.inl rfl⟩
  · refine ok_aload_n 4 rfl rfl rfl (ok_iload 5 rfl rfl rfl (ok_callVI (M' := M_Mo_isTable) (as := [_]) 6 rfl rfl ml_X12_111 (s_Mo_isTable_r) rfl rfl (Nat.le_of_ble_eq_true rfl) ⟨Nat.le_of_ble_eq_true rfl, Nat.le_of_ble_eq_true rfl⟩ rfl (Nat.le_of_ble_eq_true rfl) (fun σ' z2 a2 => ?_)))
    obtain ⟨hs_, a2⟩ := a2
    rw [hs_]; clear hs_ σ'
    refine ok_if_eq 7 59 rfl rfl rfl (fun h14 => ?_) (fun h14 => ?_)
    · refine ok_iconst 28 rfl rfl (by decide) (ok_zret 29 rfl rfl rfl (by first | omega | (simp [up_if]; omega) | (simp [up_if] at *; omega)) ?_)
      exact ⟨_, rfl, fr.rf, hB, Or.inl rfl⟩
    · refine ok_iload 8 rfl rfl rfl (ok_callSI (M' := M_Mo_isSlot) (as := [_]) 9 rfl rfl ml_X12_103 (s_Mo_isSlot_r) ⟨Nat.le_of_ble_eq_true rfl, Nat.le_of_ble_eq_true rfl⟩ rfl (Nat.le_of_ble_eq_true rfl) (fun σ' z3 a3 => ?_))
      obtain ⟨hs_, a3⟩ := a3
      rw [hs_]; clear hs_ σ'
      refine ok_if_eq 10 59 rfl rfl rfl (fun h22 => ?_) (fun h22 => ?_)
      · refine ok_iconst 28 rfl rfl (by decide) (ok_zret 29 rfl rfl rfl (by first | omega | (simp [up_if]; omega) | (simp [up_if] at *; omega)) ?_)
        exact ⟨_, rfl, fr.rf, hB, Or.inl rfl⟩
      · have hs : tabB σ s := yes1 a1 h5
        have ho : tabB σ o := yes1 a2 h14
        have ht := yes1 a3 h22
        obtain ⟨s1, s2, s3⟩ := id hs
        obtain ⟨o1, o2, o3⟩ := id ho
        obtain ⟨g1, g2, g3⟩ := hB.1 s s1 s2
        obtain ⟨k1, k2, k3⟩ := hB.1 o o1 o2
        refine ok_aload_n 11 rfl rfl rfl (ok_getR 12 rfl rfl fl_X12_7 rfl rfl (ok_iload_n 13 rfl rfl rfl (ok_iald 14 rfl rfl rfl (by first | omega | (simp [up_if]; omega) | (simp [up_if] at *; omega)) (ok_aload_n 15 rfl rfl rfl (ok_getR 16 rfl rfl fl_X12_7 rfl rfl (ok_iload 17 rfl rfl rfl (ok_iald 18 rfl rfl rfl (by first | omega | (simp [up_if]; omega) | (simp [up_if] at *; omega)) (ok_icmp_ne 19 59 rfl rfl rfl (fun h38 => ?_) (fun h38 => ?_)))))))))
        · refine ok_iconst 28 rfl rfl (by decide) (ok_zret 29 rfl rfl rfl (by first | omega | (simp [up_if]; omega) | (simp [up_if] at *; omega)) ?_)
          exact ⟨_, rfl, fr.rf, hB, Or.inl rfl⟩
        · refine ok_iload_n 20 rfl rfl rfl (ok_iload_n 21 rfl rfl rfl (ok_callSI (M' := M_Mo_isPart) (as := [_, _]) 22 rfl rfl ml_X12_221 (s_Mo_isPart) ⟨Nat.le_of_ble_eq_true rfl, Nat.le_of_ble_eq_true rfl⟩ rfl (Nat.le_of_ble_eq_true rfl) (fun σ' z4 a4 => ?_)))
          obtain ⟨hs_, a4⟩ := a4
          rw [hs_]; clear hs_ σ'
          refine ok_if_eq 23 59 rfl rfl rfl (fun h46 => ?_) (fun h46 => ?_)
          · refine ok_iconst 28 rfl rfl (by decide) (ok_zret 29 rfl rfl rfl (by first | omega | (simp [up_if]; omega) | (simp [up_if] at *; omega)) ?_)
            exact ⟨_, rfl, fr.rf, hB, Or.inl rfl⟩
          · refine ok_iload 24 rfl rfl rfl (ok_iload 25 rfl rfl rfl (ok_callSI (M' := M_Mo_isPart) (as := [_, _]) 26 rfl rfl ml_X12_221 (s_Mo_isPart) ⟨Nat.le_of_ble_eq_true rfl, Nat.le_of_ble_eq_true rfl⟩ rfl (Nat.le_of_ble_eq_true rfl) (fun σ' z5 a5 => ?_)))
            obtain ⟨hs_, a5⟩ := a5
            rw [hs_]; clear hs_ σ'
            refine ok_if_ne 27 61 rfl rfl rfl (fun h56 => ?_) (fun h56 => ?_)
            · have p1 := yes1 a4 h46
              have p2 := yes1 a5 h56
              obtain ⟨n, en⟩ : ∃ x, x = σ 1 s := ⟨_, rfl⟩
              obtain ⟨x1, x2⟩ := sq8 (n := n) ⟨by omega, by omega⟩
              obtain ⟨A, eA⟩ : ∃ w, w = y * σ 2 s := ⟨_, rfl⟩
              obtain ⟨B, eB⟩ : ∃ w, w = v * σ 2 o := ⟨_, rfl⟩
              have bA := mul_bd (a := y) (b := σ 2 s) (A := 9999) (B := 999999) ⟨by omega, by omega⟩ ⟨by omega, by omega⟩
              have bA' := Int.mul_pos (by omega : 0 < y) (by omega : 0 < σ 2 s)
              have bB := mul_bd (a := v) (b := σ 2 o) (A := 9999) (B := 999999) ⟨by omega, by omega⟩ ⟨by omega, by omega⟩
              have bB' := Int.mul_pos (by omega : 0 < v) (by omega : 0 < σ 2 o)
              rw [← eA] at bA bA'
              rw [← eB] at bB bB'
              refine ok_iload_n 30 rfl rfl rfl (ok_i2l 31 rfl rfl (ok_aload_n 32 rfl rfl rfl (ok_getR 33 rfl rfl fl_X12_13 rfl rfl (ok_iload_n 34 rfl rfl rfl (ok_iald 35 rfl rfl rfl (by first | omega | (simp [up_if]; omega) | (simp [up_if] at *; omega)) (ok_i2l 36 rfl rfl (ok_lmul 37 rfl rfl (by rw [← eA]; omega) (ok_lst8 38 rfl rfl rfl (ok_iload 39 rfl rfl rfl (ok_i2l 40 rfl rfl (ok_aload_n 41 rfl rfl rfl (ok_getR 42 rfl rfl fl_X12_13 rfl rfl (ok_iload 43 rfl rfl rfl (ok_iald 44 rfl rfl rfl (by first | omega | (simp [up_if]; omega) | (simp [up_if] at *; omega)) (ok_i2l 45 rfl rfl (ok_lmul 46 rfl rfl (by rw [← eB]; omega) (ok_lst10 47 rfl rfl rfl ?_)))))))))))))))))
              rw [← eA, ← eB]
              refine ok_lload 48 rfl rfl rfl (ok_ldc2 49 (1000000000) rfl rfl kc_X12_224 (by decide) (ok_lcmp_gt 50 51 105 rfl rfl rfl rfl rfl (fun h92 => ?_) (fun h92 => ?_)))
              · refine ok_iconst 56 rfl rfl (by decide) (ok_zret 57 rfl rfl rfl (by first | omega | (simp [up_if]; omega) | (simp [up_if] at *; omega)) ?_)
                exact ⟨_, rfl, fr.rf, hB, Or.inl rfl⟩
              · refine ok_lload 52 rfl rfl rfl (ok_ldc2 53 (1000000000) rfl rfl kc_X12_224 (by decide) (ok_lcmp_le 54 55 107 rfl rfl rfl rfl rfl (fun h101 => ?_) (fun h101 => ?_)))
                · obtain ⟨c1, c2⟩ := gcd_pos (a := A) (b := B) (by omega)
                  obtain ⟨c3, c4⟩ := gcd_div (by omega : 1 ≤ A) c1 c2
                  obtain ⟨E, eE⟩ : ∃ w, w = A / (Int.gcd A B : Int) := ⟨_, rfl⟩
                  rw [← eE] at c3 c4
                  obtain ⟨F, eF⟩ : ∃ w, w = E * B := ⟨_, rfl⟩
                  have c5 := mul_bd (a := E) (b := B) (A := 1000000000) (B := 1000000000) ⟨by omega, by omega⟩ ⟨by omega, by omega⟩
                  have c6 := Int.mul_pos (by omega : 0 < E) (by omega : 0 < B)
                  rw [← eF] at c5 c6
                  refine ok_lload 58 rfl rfl rfl (ok_lload 59 rfl rfl rfl (ok_lload 60 rfl rfl rfl (ok_callSL (M' := M_Mo_common) (as := [_, _]) 61 rfl rfl ml_X12_89 (s_Mo_common (by omega) (by omega)) ⟨Nat.le_of_ble_eq_true rfl, Nat.le_of_ble_eq_true rfl⟩ rfl (Nat.le_of_ble_eq_true rfl) (fun σ' z hz => ?_))))
                  rw [hz.1, hz.2]; clear hz z σ'
                  refine ok_ldiv 62 rfl rfl (by omega) (by omega) (ok_lload 63 rfl rfl rfl (ok_lmul 64 rfl rfl (by rw [← eE, ← eF]; omega) (ok_lst12 65 rfl rfl rfl ?_)))
                  rw [← eE, ← eF]
                  refine ok_lload 66 rfl rfl rfl (ok_ldc2 67 (1000000000) rfl rfl kc_X12_224 (by decide) (ok_lcmp_le 68 69 133 rfl rfl rfl rfl rfl (fun h127 => ?_) (fun h127 => ?_)))
                  · refine ok_aload_n 72 rfl rfl rfl (ok_getR 73 rfl rfl fl_X12_7 rfl rfl (ok_iload_n 74 rfl rfl rfl (ok_iald 75 rfl rfl rfl (by first | omega | (simp [up_if]; omega) | (simp [up_if] at *; omega)) (ok_ist14 76 rfl rfl rfl (ok_iconst 77 rfl rfl (by decide) (ok_ist15 78 rfl rfl rfl ?_))))))
                    rw [← en]
                    obtain ⟨d1, d2⟩ := div_bd (u := F) (g := A) (B := 1000000000) ⟨by omega, by omega⟩ (by omega)
                    obtain ⟨d3, d4⟩ := div_bd (u := F) (g := B) (B := 1000000000) ⟨by omega, by omega⟩ (by omega)
                    obtain ⟨d5, d6⟩ := mul_bd (a := x) (b := F / A) (A := 9999) (B := 1000000000) ⟨by omega, by omega⟩ ⟨by omega, by omega⟩
                    obtain ⟨d7, d8⟩ := mul_bd (a := u) (b := F / B) (A := 9999) (B := 1000000000) ⟨by omega, by omega⟩ ⟨by omega, by omega⟩
                    refine lpO2 (fun (k : Int) (_ : eS) => [some (vr 0), some (vi s), some (vi x), some (vi y), some (vi o), some (vi u), some (vi v), some (vi t), some (vl A), none, some (vl B), none, some (vl F), none, some (vi n), some (vi k), none, none, none, none]) (fun _ τ => τ) (fun k τ => 0 ≤ k ∧ k ≤ n * n ∧ fr (fun c k => (c = 0 ∧ k = 4) ∨ c = 4) σ τ ∧ ∀ j, 0 ≤ j → j < 64 → 0 ≤ τ 4 j) (fun k _ => (n * n - k).toNat) ?_ 0 σ ⟨by omega, by omega, fr.rf, hB.2.2⟩
                    rintro k τ ⟨i1, i2, i3, i4⟩ ih
                    obtain ⟨b1, b2⟩ := iB1_M hB i3 i4
                    have fQ : fr rgM σ τ := i3.mono (fun c k q => by simp only [rgM]; omega)
                    refine ok_iload 79 rfl rfl rfl (ok_iload 80 rfl rfl rfl (ok_iload 81 rfl rfl rfl (ok_imul 82 rfl rfl (by first | omega | (simp [up_if]; omega) | (simp [up_if] at *; omega)) (ok_icmp_ge 83 254 rfl rfl rfl (fun h151 => ?_) (fun h151 => ?_)))))
                    · refine ok_aload_n 143 rfl rfl rfl (ok_lload 144 rfl rfl rfl (ok_putL 145 rfl rfl fl_X12_85 rfl rfl rfl rfl (ok_aload_n 146 rfl rfl rfl (ok_iload 147 rfl rfl rfl (ok_iload 148 rfl rfl rfl (ok_callVI (M' := M_Mo_takes) (as := [_, _]) 149 rfl rfl ml_X12_179 (s_Mo_takes ht ⟨by omega, by omega⟩ (by rw [up_same]; omega) (fun k a b => by rw [up_ne _ _ _ _ (by decide)]; exact i4 k a (by omega))) rfl rfl (Nat.le_of_ble_eq_true rfl) ⟨Nat.le_of_ble_eq_true rfl, Nat.le_of_ble_eq_true rfl⟩ rfl (Nat.le_of_ble_eq_true rfl) (fun σ' z hz => ?_)))))))
                      have hq := Qtk.M (b1.fr (fun c k q => by rw [up_ne _ _ _ _ (by omega)])) ht ⟨by omega, by omega⟩ (by rw [up_same]; omega) (fun k a b => by rw [up_ne _ _ _ _ (by decide)]; exact i4 k a (by omega)) hz
                      refine ok_zret 150 rfl rfl rfl (by have := hq.2.2; omega) ?_
                      exact ⟨_, rfl, hq.tr (fr_up fQ (by simp [rgM]))⟩
                    · have cs := b1.2.1 (64 * s + k) (by omega) (by omega)
                      have co := b1.2.1 (64 * o + k) (by omega) (by omega)
                      refine ok_iload_n 84 rfl rfl rfl (ok_i2l 85 rfl rfl (ok_lload 86 rfl rfl rfl (ok_lload 87 rfl rfl rfl (ok_ldiv 88 rfl rfl (by omega) (by omega) (ok_lmul 89 rfl rfl (by first | omega | (simp [up_if]; omega) | (simp [up_if] at *; omega)) (ok_aload_n 90 rfl rfl rfl (ok_getR 91 rfl rfl fl_X12_16 rfl rfl (ok_bipush 92 rfl rfl (by decide) (by decide) (ok_iload_n 93 rfl rfl rfl (ok_imul 94 rfl rfl (by first | omega | (simp [up_if]; omega) | (simp [up_if] at *; omega)) (ok_iload 95 rfl rfl rfl (ok_iadd 96 rfl rfl (by first | omega | (simp [up_if]; omega) | (simp [up_if] at *; omega)) (ok_iald 97 rfl rfl rfl (by first | omega | (simp [up_if]; omega) | (simp [up_if] at *; omega)) (ok_i2l 98 rfl rfl (ok_callSL (M' := M_Mo_grown) (as := [_, _]) 99 rfl rfl ml_X12_226 (s_Mo_grown ⟨by omega, by omega⟩ ⟨by omega, by omega⟩) ⟨Nat.le_of_ble_eq_true rfl, Nat.le_of_ble_eq_true rfl⟩ rfl (Nat.le_of_ble_eq_true rfl) (fun σ' p hp => ?_))))))))))))))))
                      obtain ⟨hs_, hp⟩ := hp
                      rw [hs_]; clear hs_ σ'
                      refine ok_lst16 100 rfl rfl rfl (ok_iload 101 rfl rfl rfl (ok_i2l 102 rfl rfl (ok_lload 103 rfl rfl rfl (ok_lload 104 rfl rfl rfl (ok_ldiv 105 rfl rfl (by omega) (by omega) (ok_lmul 106 rfl rfl (by first | omega | (simp [up_if]; omega) | (simp [up_if] at *; omega)) (ok_aload_n 107 rfl rfl rfl (ok_getR 108 rfl rfl fl_X12_16 rfl rfl (ok_bipush 109 rfl rfl (by decide) (by decide) (ok_iload 110 rfl rfl rfl (ok_imul 111 rfl rfl (by first | omega | (simp [up_if]; omega) | (simp [up_if] at *; omega)) (ok_iload 112 rfl rfl rfl (ok_iadd 113 rfl rfl (by first | omega | (simp [up_if]; omega) | (simp [up_if] at *; omega)) (ok_iald 114 rfl rfl rfl (by first | omega | (simp [up_if]; omega) | (simp [up_if] at *; omega)) (ok_i2l 115 rfl rfl (ok_callSL (M' := M_Mo_grown) (as := [_, _]) 116 rfl rfl ml_X12_226 (s_Mo_grown ⟨by omega, by omega⟩ ⟨by omega, by omega⟩) ⟨Nat.le_of_ble_eq_true rfl, Nat.le_of_ble_eq_true rfl⟩ rfl (Nat.le_of_ble_eq_true rfl) (fun σ' q hq => ?_)))))))))))))))))
                      obtain ⟨hs_, hq⟩ := hq
                      rw [hs_]; clear hs_ σ'
                      refine ok_lst18 117 rfl rfl rfl (ok_lload 118 rfl rfl rfl (ok_lconst (w := 0) 119 rfl rfl rfl (by decide) (ok_lcmp_lt 120 121 234 rfl rfl rfl rfl rfl (fun h211 => ?_) (fun h211 => ?_))))
                      · refine ok_iconst 132 rfl rfl (by decide) (ok_zret 133 rfl rfl rfl (by first | omega | (simp [up_if]; omega) | (simp [up_if] at *; omega)) ?_)
                        exact ⟨_, rfl, fQ, b1, Or.inl rfl⟩
                      · refine ok_lload 122 rfl rfl rfl (ok_lconst (w := 0) 123 rfl rfl rfl (by decide) (ok_lcmp_lt 124 125 234 rfl rfl rfl rfl rfl (fun h218 => ?_) (fun h218 => ?_)))
                        · refine ok_iconst 132 rfl rfl (by decide) (ok_zret 133 rfl rfl rfl (by first | omega | (simp [up_if]; omega) | (simp [up_if] at *; omega)) ?_)
                          exact ⟨_, rfl, fQ, b1, Or.inl rfl⟩
                        · refine ok_lload 126 rfl rfl rfl (ok_lload 127 rfl rfl rfl (ok_ladd 128 rfl rfl (by first | omega | (simp [up_if]; omega) | (simp [up_if] at *; omega)) (ok_ldc2 129 (1000000000000000) rfl rfl kc_X12_217 (by decide) (ok_lcmp_le 130 131 236 rfl rfl rfl rfl rfl (fun h230 => ?_) (fun h230 => ?_)))))
                          · refine ok_aload_n 134 rfl rfl rfl (ok_getR 135 rfl rfl fl_X12_19 rfl rfl (ok_iload 136 rfl rfl rfl (ok_lload 137 rfl rfl rfl (ok_lload 138 rfl rfl rfl (ok_ladd 139 rfl rfl (by first | omega | (simp [up_if]; omega) | (simp [up_if] at *; omega)) (ok_last 140 rfl rfl rfl (by first | omega | (simp [up_if]; omega) | (simp [up_if] at *; omega)) (ok_inc15 141 rfl rfl rfl (by first | omega | (simp [up_if]; omega) | (simp [up_if] at *; omega)) (ok_goto 142 144 rfl rfl rfl ?_))))))))
                            exact ok_fg [some (vr 0), some (vi s), some (vi x), some (vi y), some (vi o), some (vi u), some (vi v), some (vi t), some (vl A), none, some (vl B), none, some (vl F), none, some (vi n), some (vi (k + 1)), none, none, none, none] ⟨rfl, rfl, rfl, rfl, rfl, rfl, rfl, rfl, rfl, rfl, rfl, rfl, rfl, trivial⟩ (ih (k + 1) _ ⟨by omega, by omega, fr_up i3 (by simp), fun j a b => by
                              rw [up_if]
                              split
                              · omega
                              · exact i4 j a (by omega)⟩ (by omega))
                          · refine ok_iconst 132 rfl rfl (by decide) (ok_zret 133 rfl rfl rfl (by first | omega | (simp [up_if]; omega) | (simp [up_if] at *; omega)) ?_)
                            exact ⟨_, rfl, fQ, b1, Or.inl rfl⟩
                  · refine ok_iconst 70 rfl rfl (by decide) (ok_zret 71 rfl rfl rfl (by first | omega | (simp [up_if]; omega) | (simp [up_if] at *; omega)) ?_)
                    exact ⟨_, rfl, fr.rf, hB, Or.inl rfl⟩
                · refine ok_iconst 56 rfl rfl (by decide) (ok_zret 57 rfl rfl rfl (by first | omega | (simp [up_if]; omega) | (simp [up_if] at *; omega)) ?_)
                  exact ⟨_, rfl, fr.rf, hB, Or.inl rfl⟩
            · refine ok_iconst 28 rfl rfl (by decide) (ok_zret 29 rfl rfl rfl (by first | omega | (simp [up_if]; omega) | (simp [up_if] at *; omega)) ?_)
              exact ⟨_, rfl, fr.rf, hB, Or.inl rfl⟩
