theorem s_Mo_turn {σ : eS} {s w r t : Int} (hB : iB1 σ) : MtI shB M_Mo_turn [vr 0, vi s, vi w, vi r, vi t] σ (QM σ) := by
  refine Mt.of okM_Mo_turn (Nat.le_of_ble_eq_true rfl) (fun hk hg => ?_)
  have main : tabB σ s → (0 ≤ t ∧ t < 4) → (0 ≤ w ∧ w ≤ 5) → (3 < w → 0 ≤ r ∧ r < σ 1 s) → Ok shB M_Mo_turn 53 [some (vr 0), some (vi s), some (vi w), some (vi r), some (vi t), none, none, none, none, none] [] σ (fun σ' v => ∃ z, v = some (vi z) ∧ QM σ σ' z) := by
    intro hs ht hw hr
    obtain ⟨s1, s2, s3⟩ := id hs
    obtain ⟨g1, g2, g3⟩ := hB.1 s s1 s2
    obtain ⟨n, en⟩ : ∃ x, x = σ 1 s := ⟨_, rfl⟩
    rw [← en] at hr g1 g2 g3 s3
    obtain ⟨x1, x2⟩ := sq8 (n := n) ⟨by omega, by omega⟩
    refine ok_aload_n 30 rfl rfl rfl (ok_getR 31 rfl rfl fl_X12_7 rfl rfl (ok_iload_n 32 rfl rfl rfl (ok_iald 33 rfl rfl rfl (by first | omega | (simp [up_if]; omega) | (simp [up_if] at *; omega)) (ok_ist5 34 rfl rfl rfl (ok_iconst 35 rfl rfl (by decide) (ok_ist6 36 rfl rfl rfl ?_))))))
    rw [← en]
    refine lpO2 (fun (i : Int) (_ : eS) => [some (vr 0), some (vi s), some (vi w), some (vi r), some (vi t), some (vi n), some (vi i), none, none, none]) (fun _ τ => τ) (fun i τ => 0 ≤ i ∧ i ≤ n ∧ fr (fun c k => (c = 0 ∧ k = 4) ∨ c = 4) σ τ ∧ ∀ k, 0 ≤ k → k < 64 → 0 ≤ τ 4 k) (fun i _ => (n - i).toNat) ?_ 0 σ ⟨by omega, by omega, fr.rf, hB.2.2⟩
    rintro i τ ⟨i1, i2, i3, i4⟩ ih
    refine ok_iload 37 rfl rfl rfl (ok_iload 38 rfl rfl rfl (ok_icmp_ge 39 206 rfl rfl rfl (fun h68 => ?_) (fun h68 => ?_)))
    · obtain ⟨b1, b2⟩ := iB1_M hB i3 i4
      have bs := (b2 s)
      refine ok_aload_n 111 rfl rfl rfl (ok_aload_n 112 rfl rfl rfl (ok_getR 113 rfl rfl fl_X12_13 rfl rfl (ok_iload_n 114 rfl rfl rfl (ok_iald 115 rfl rfl rfl (by first | omega | (simp [up_if]; omega) | (simp [up_if] at *; omega)) (ok_i2l 116 rfl rfl (ok_putL 117 rfl rfl fl_X12_85 rfl rfl rfl rfl (ok_aload_n 118 rfl rfl rfl (ok_iload 119 rfl rfl rfl (ok_iload 120 rfl rfl rfl (ok_callVI (M' := M_Mo_takes) (as := [_, _]) 121 rfl rfl ml_X12_179 (s_Mo_takes ht ⟨by omega, by omega⟩ (by rw [up_same]; omega) (fun k a b => by rw [up_ne _ _ _ _ (by decide)]; exact i4 k a (by omega))) rfl rfl (Nat.le_of_ble_eq_true rfl) ⟨Nat.le_of_ble_eq_true rfl, Nat.le_of_ble_eq_true rfl⟩ rfl (Nat.le_of_ble_eq_true rfl) (fun σ' z hz => ?_)))))))))))
      have hq := Qtk.M (b1.fr (fun c k q => by rw [up_ne _ _ _ _ (by omega)])) ht ⟨by omega, by omega⟩ (by rw [up_same]; omega) (fun k a b => by rw [up_ne _ _ _ _ (by decide)]; exact i4 k a (by omega)) hz
      refine ok_zret 122 rfl rfl rfl (by have := hq.2.2; omega) ?_
      exact ⟨_, rfl, hq.tr (fr_up (i3.mono (fun c k q => by simp only [rgM]; omega)) (by simp [rgM]))⟩
    · refine ok_iconst 40 rfl rfl (by decide) (ok_ist7 41 rfl rfl rfl ?_)
      refine lpO2 (fun (j : Int) (_ : eS) => [some (vr 0), some (vi s), some (vi w), some (vi r), some (vi t), some (vi n), some (vi i), some (vi j), none, none]) (fun _ τ => τ) (fun j τ => 0 ≤ j ∧ j ≤ n ∧ fr (fun c k => (c = 0 ∧ k = 4) ∨ c = 4) σ τ ∧ ∀ k, 0 ≤ k → k < 64 → 0 ≤ τ 4 k) (fun j _ => (n - j).toNat) ?_ 0 τ ⟨by omega, by omega, i3, i4⟩
      clear i3 i4 τ
      rintro j τ ⟨j1, j2, i3, i4⟩ ih2
      obtain ⟨b1, b2⟩ := iB1_M hB i3 i4
      have bs := (b2 s).1
      have inner : j < n → ∀ a b : Int, 0 ≤ a ∧ a < n → 0 ≤ b ∧ b < n → Ok shB M_Mo_turn 171 [some (vr 0), some (vi s), some (vi w), some (vi r), some (vi t), some (vi n), some (vi i), some (vi j), some (vi a), some (vi b)] [] τ (fun σ' v => ∃ z, v = some (vi z) ∧ QM σ σ' z) := by
        intro hj a b ha hb
        obtain ⟨y1, y2, y3, y4⟩ := ix8 (n := n) (i := a) (j := b) ⟨by omega, by omega⟩ ha hb
        have hc := cB_bd b1 ⟨s1, s2⟩ (i := i) (j := j) ⟨by omega, by omega⟩ ⟨by omega, by omega⟩
        refine ok_aload_n 93 rfl rfl rfl (ok_getR 94 rfl rfl fl_X12_19 rfl rfl (ok_iload 95 rfl rfl rfl (ok_iload 96 rfl rfl rfl (ok_imul 97 rfl rfl (by first | omega | (simp [up_if]; omega) | (simp [up_if] at *; omega)) (ok_iload 98 rfl rfl rfl (ok_iadd 99 rfl rfl (by first | omega | (simp [up_if]; omega) | (simp [up_if] at *; omega)) (ok_aload_n 100 rfl rfl rfl (ok_iload_n 101 rfl rfl rfl (ok_iload 102 rfl rfl rfl (ok_iload 103 rfl rfl rfl (ok_callVI (M' := M_Mo_at) (as := [_, _, _]) 104 rfl rfl ml_X12_107 (s_Mo_at b1 ⟨s1, s2⟩ ⟨by omega, by omega⟩ ⟨by omega, by omega⟩) rfl rfl (Nat.le_of_ble_eq_true rfl) ⟨Nat.le_of_ble_eq_true rfl, Nat.le_of_ble_eq_true rfl⟩ rfl (Nat.le_of_ble_eq_true rfl) (fun σ' z hz => ?_))))))))))))
        rw [hz.1, hz.2]
        clear hz z σ'
        refine ok_i2l 105 rfl rfl (ok_last 106 rfl rfl rfl (by first | omega | (simp [up_if]; omega) | (simp [up_if] at *; omega)) (ok_inc7 107 rfl rfl rfl (by first | omega | (simp [up_if]; omega) | (simp [up_if] at *; omega)) (ok_goto 108 74 rfl rfl rfl ?_)))
        exact ok_fg [some (vr 0), some (vi s), some (vi w), some (vi r), some (vi t), some (vi n), some (vi i), some (vi (j + 1)), none, none] ⟨rfl, rfl, rfl, rfl, rfl, rfl, rfl, rfl, trivial⟩ (ih2 (j + 1) _ ⟨by omega, by omega, fr_up i3 (by simp), fun k a b => by
          rw [up_if]
          split
          · omega
          · exact i4 k a b⟩ (by omega))
      refine ok_iload 42 rfl rfl rfl (ok_iload 43 rfl rfl rfl (ok_icmp_ge 44 200 rfl rfl rfl (fun h78 => ?_) (fun h78 => ?_)))
      · refine ok_inc6 109 rfl rfl rfl (by first | omega | (simp [up_if]; omega) | (simp [up_if] at *; omega)) (ok_goto 110 64 rfl rfl rfl ?_)
        exact ok_fg [some (vr 0), some (vi s), some (vi w), some (vi r), some (vi t), some (vi n), some (vi (i + 1)), none, none, none] ⟨rfl, rfl, rfl, rfl, rfl, rfl, rfl, trivial⟩ (ih (i + 1) τ ⟨by omega, by omega, i3, i4⟩ (by omega))
      · refine ok_iload_n 45 rfl rfl rfl (ok_iconst 46 rfl rfl (by decide) (ok_icmp_ne 47 91 rfl rfl rfl (fun h83 => ?_) (fun h83 => ?_)))
        · refine ok_iload_n 50 rfl rfl rfl (ok_iconst 51 rfl rfl (by decide) (ok_icmp_ne 52 106 rfl rfl rfl (fun h93 => ?_) (fun h93 => ?_)))
          · refine ok_iload_n 59 rfl rfl rfl (ok_iconst 60 rfl rfl (by decide) (ok_icmp_ne 61 122 rfl rfl rfl (fun h108 => ?_) (fun h108 => ?_)))
            · refine ok_iload 67 rfl rfl rfl (ok_ist8 68 rfl rfl rfl (ok_iload_n 69 rfl rfl rfl (ok_iconst 70 rfl rfl (by decide) (ok_icmp_ne 71 136 rfl rfl rfl (fun h128 => ?_) (fun h128 => ?_)))))
              · refine ok_iload_n 74 rfl rfl rfl (ok_iconst 75 rfl rfl (by decide) (ok_icmp_ne 76 151 rfl rfl rfl (fun h138 => ?_) (fun h138 => ?_)))
                · refine ok_iload_n 83 rfl rfl rfl (ok_iconst 84 rfl rfl (by decide) (ok_icmp_ne 85 167 rfl rfl rfl (fun h153 => ?_) (fun h153 => ?_)))
                  · refine ok_iload 91 rfl rfl rfl (ok_ist9 92 rfl rfl rfl ?_)
                    exact inner (by omega) _ _ ⟨by omega, by omega⟩ ⟨by omega, by omega⟩
                  · refine ok_iload 86 rfl rfl rfl (ok_iload_n 87 rfl rfl rfl (ok_iload 88 rfl rfl rfl (ok_callSI (M' := M_Mo_behind) (as := [_, _, _]) 89 rfl rfl ml_X12_231 (s_Mo_behind ⟨by omega, by omega, by omega, by omega⟩) ⟨Nat.le_of_ble_eq_true rfl, Nat.le_of_ble_eq_true rfl⟩ rfl (Nat.le_of_ble_eq_true rfl) (fun σ' z2 q3 => ?_))))
                    obtain ⟨hs_, q3⟩ := q3
                    rw [hs_]; clear hs_ σ'
                    have q4 : 0 ≤ z2 ∧ z2 < n := by rw [q3]; split; omega; split <;> omega
                    refine ok_goto 90 169 rfl rfl rfl (ok_ist9 92 rfl rfl rfl ?_)
                    exact inner (by omega) _ _ ⟨by omega, by omega⟩ ⟨by omega, by omega⟩
                · refine ok_iload 77 rfl rfl rfl (ok_iconst 78 rfl rfl (by decide) (ok_isub 79 rfl rfl (by first | omega | (simp [up_if]; omega) | (simp [up_if] at *; omega)) (ok_iload 80 rfl rfl rfl (ok_isub 81 rfl rfl (by first | omega | (simp [up_if]; omega) | (simp [up_if] at *; omega)) (ok_goto 82 169 rfl rfl rfl (ok_ist9 92 rfl rfl rfl ?_))))))
                  exact inner (by omega) _ _ ⟨by omega, by omega⟩ ⟨by omega, by omega⟩
              · refine ok_iload 72 rfl rfl rfl (ok_goto 73 169 rfl rfl rfl (ok_ist9 92 rfl rfl rfl ?_))
                exact inner (by omega) _ _ ⟨by omega, by omega⟩ ⟨by omega, by omega⟩
            · refine ok_iload 62 rfl rfl rfl (ok_iload_n 63 rfl rfl rfl (ok_iload 64 rfl rfl rfl (ok_callSI (M' := M_Mo_behind) (as := [_, _, _]) 65 rfl rfl ml_X12_231 (s_Mo_behind ⟨by omega, by omega, by omega, by omega⟩) ⟨Nat.le_of_ble_eq_true rfl, Nat.le_of_ble_eq_true rfl⟩ rfl (Nat.le_of_ble_eq_true rfl) (fun σ' z1 q1 => ?_))))
              obtain ⟨hs_, q1⟩ := q1
              rw [hs_]; clear hs_ σ'
              have q2 : 0 ≤ z1 ∧ z1 < n := by rw [q1]; split; omega; split <;> omega
              refine ok_goto 66 124 rfl rfl rfl (ok_ist8 68 rfl rfl rfl (ok_iload_n 69 rfl rfl rfl (ok_iconst 70 rfl rfl (by decide) (ok_icmp_ne 71 136 rfl rfl rfl (fun h128 => ?_) (fun h128 => ?_)))))
              · refine ok_iload_n 74 rfl rfl rfl (ok_iconst 75 rfl rfl (by decide) (ok_icmp_ne 76 151 rfl rfl rfl (fun h138 => ?_) (fun h138 => ?_)))
                · refine ok_iload_n 83 rfl rfl rfl (ok_iconst 84 rfl rfl (by decide) (ok_icmp_ne 85 167 rfl rfl rfl (fun h153 => ?_) (fun h153 => ?_)))
                  · refine ok_iload 91 rfl rfl rfl (ok_ist9 92 rfl rfl rfl ?_)
                    exact inner (by omega) _ _ ⟨by omega, by omega⟩ ⟨by omega, by omega⟩
                  · refine ok_iload 86 rfl rfl rfl (ok_iload_n 87 rfl rfl rfl (ok_iload 88 rfl rfl rfl (ok_callSI (M' := M_Mo_behind) (as := [_, _, _]) 89 rfl rfl ml_X12_231 (s_Mo_behind ⟨by omega, by omega, by omega, by omega⟩) ⟨Nat.le_of_ble_eq_true rfl, Nat.le_of_ble_eq_true rfl⟩ rfl (Nat.le_of_ble_eq_true rfl) (fun σ' z2 q3 => ?_))))
                    obtain ⟨hs_, q3⟩ := q3
                    rw [hs_]; clear hs_ σ'
                    have q4 : 0 ≤ z2 ∧ z2 < n := by rw [q3]; split; omega; split <;> omega
                    refine ok_goto 90 169 rfl rfl rfl (ok_ist9 92 rfl rfl rfl ?_)
                    exact inner (by omega) _ _ ⟨by omega, by omega⟩ ⟨by omega, by omega⟩
                · refine ok_iload 77 rfl rfl rfl (ok_iconst 78 rfl rfl (by decide) (ok_isub 79 rfl rfl (by first | omega | (simp [up_if]; omega) | (simp [up_if] at *; omega)) (ok_iload 80 rfl rfl rfl (ok_isub 81 rfl rfl (by first | omega | (simp [up_if]; omega) | (simp [up_if] at *; omega)) (ok_goto 82 169 rfl rfl rfl (ok_ist9 92 rfl rfl rfl ?_))))))
                  exact inner (by omega) _ _ ⟨by omega, by omega⟩ ⟨by omega, by omega⟩
              · refine ok_iload 72 rfl rfl rfl (ok_goto 73 169 rfl rfl rfl (ok_ist9 92 rfl rfl rfl ?_))
                exact inner (by omega) _ _ ⟨by omega, by omega⟩ ⟨by omega, by omega⟩
          · refine ok_iload 53 rfl rfl rfl (ok_iconst 54 rfl rfl (by decide) (ok_isub 55 rfl rfl (by first | omega | (simp [up_if]; omega) | (simp [up_if] at *; omega)) (ok_iload 56 rfl rfl rfl (ok_isub 57 rfl rfl (by first | omega | (simp [up_if]; omega) | (simp [up_if] at *; omega)) (ok_goto 58 124 rfl rfl rfl (ok_ist8 68 rfl rfl rfl (ok_iload_n 69 rfl rfl rfl (ok_iconst 70 rfl rfl (by decide) (ok_icmp_ne 71 136 rfl rfl rfl (fun h128 => ?_) (fun h128 => ?_))))))))))
            · refine ok_iload_n 74 rfl rfl rfl (ok_iconst 75 rfl rfl (by decide) (ok_icmp_ne 76 151 rfl rfl rfl (fun h138 => ?_) (fun h138 => ?_)))
              · refine ok_iload_n 83 rfl rfl rfl (ok_iconst 84 rfl rfl (by decide) (ok_icmp_ne 85 167 rfl rfl rfl (fun h153 => ?_) (fun h153 => ?_)))
                · refine ok_iload 91 rfl rfl rfl (ok_ist9 92 rfl rfl rfl ?_)
                  exact inner (by omega) _ _ ⟨by omega, by omega⟩ ⟨by omega, by omega⟩
                · refine ok_iload 86 rfl rfl rfl (ok_iload_n 87 rfl rfl rfl (ok_iload 88 rfl rfl rfl (ok_callSI (M' := M_Mo_behind) (as := [_, _, _]) 89 rfl rfl ml_X12_231 (s_Mo_behind ⟨by omega, by omega, by omega, by omega⟩) ⟨Nat.le_of_ble_eq_true rfl, Nat.le_of_ble_eq_true rfl⟩ rfl (Nat.le_of_ble_eq_true rfl) (fun σ' z2 q3 => ?_))))
                  obtain ⟨hs_, q3⟩ := q3
                  rw [hs_]; clear hs_ σ'
                  have q4 : 0 ≤ z2 ∧ z2 < n := by rw [q3]; split; omega; split <;> omega
                  refine ok_goto 90 169 rfl rfl rfl (ok_ist9 92 rfl rfl rfl ?_)
                  exact inner (by omega) _ _ ⟨by omega, by omega⟩ ⟨by omega, by omega⟩
              · refine ok_iload 77 rfl rfl rfl (ok_iconst 78 rfl rfl (by decide) (ok_isub 79 rfl rfl (by first | omega | (simp [up_if]; omega) | (simp [up_if] at *; omega)) (ok_iload 80 rfl rfl rfl (ok_isub 81 rfl rfl (by first | omega | (simp [up_if]; omega) | (simp [up_if] at *; omega)) (ok_goto 82 169 rfl rfl rfl (ok_ist9 92 rfl rfl rfl ?_))))))
                exact inner (by omega) _ _ ⟨by omega, by omega⟩ ⟨by omega, by omega⟩
            · refine ok_iload 72 rfl rfl rfl (ok_goto 73 169 rfl rfl rfl (ok_ist9 92 rfl rfl rfl ?_))
              exact inner (by omega) _ _ ⟨by omega, by omega⟩ ⟨by omega, by omega⟩
        · refine ok_iload 48 rfl rfl rfl (ok_goto 49 124 rfl rfl rfl (ok_ist8 68 rfl rfl rfl (ok_iload_n 69 rfl rfl rfl (ok_iconst 70 rfl rfl (by decide) (ok_icmp_ne 71 136 rfl rfl rfl (fun h128 => ?_) (fun h128 => ?_))))))
          · refine ok_iload_n 74 rfl rfl rfl (ok_iconst 75 rfl rfl (by decide) (ok_icmp_ne 76 151 rfl rfl rfl (fun h138 => ?_) (fun h138 => ?_)))
            · refine ok_iload_n 83 rfl rfl rfl (ok_iconst 84 rfl rfl (by decide) (ok_icmp_ne 85 167 rfl rfl rfl (fun h153 => ?_) (fun h153 => ?_)))
              · refine ok_iload 91 rfl rfl rfl (ok_ist9 92 rfl rfl rfl ?_)
                exact inner (by omega) _ _ ⟨by omega, by omega⟩ ⟨by omega, by omega⟩
              · refine ok_iload 86 rfl rfl rfl (ok_iload_n 87 rfl rfl rfl (ok_iload 88 rfl rfl rfl (ok_callSI (M' := M_Mo_behind) (as := [_, _, _]) 89 rfl rfl ml_X12_231 (s_Mo_behind ⟨by omega, by omega, by omega, by omega⟩) ⟨Nat.le_of_ble_eq_true rfl, Nat.le_of_ble_eq_true rfl⟩ rfl (Nat.le_of_ble_eq_true rfl) (fun σ' z2 q3 => ?_))))
                obtain ⟨hs_, q3⟩ := q3
                rw [hs_]; clear hs_ σ'
                have q4 : 0 ≤ z2 ∧ z2 < n := by rw [q3]; split; omega; split <;> omega
                refine ok_goto 90 169 rfl rfl rfl (ok_ist9 92 rfl rfl rfl ?_)
                exact inner (by omega) _ _ ⟨by omega, by omega⟩ ⟨by omega, by omega⟩
            · refine ok_iload 77 rfl rfl rfl (ok_iconst 78 rfl rfl (by decide) (ok_isub 79 rfl rfl (by first | omega | (simp [up_if]; omega) | (simp [up_if] at *; omega)) (ok_iload 80 rfl rfl rfl (ok_isub 81 rfl rfl (by first | omega | (simp [up_if]; omega) | (simp [up_if] at *; omega)) (ok_goto 82 169 rfl rfl rfl (ok_ist9 92 rfl rfl rfl ?_))))))
              exact inner (by omega) _ _ ⟨by omega, by omega⟩ ⟨by omega, by omega⟩
          · refine ok_iload 72 rfl rfl rfl (ok_goto 73 169 rfl rfl rfl (ok_ist9 92 rfl rfl rfl ?_))
            exact inner (by omega) _ _ ⟨by omega, by omega⟩ ⟨by omega, by omega⟩
  refine ok_aload_n 0 rfl rfl rfl (ok_iload_n 1 rfl rfl rfl (ok_callVI (M' := M_Mo_isTable) (as := [_]) 2 rfl rfl ml_X12_111 (s_Mo_isTable_r) rfl rfl (Nat.le_of_ble_eq_true rfl) ⟨Nat.le_of_ble_eq_true rfl, Nat.le_of_ble_eq_true rfl⟩ rfl (Nat.le_of_ble_eq_true rfl) (fun σ' z1 a1 => ?_)))
  obtain ⟨hs_, a1⟩ := a1
  rw [hs_]; clear hs_ σ'
  refine ok_if_eq 3 51 rfl rfl rfl (fun h5 => ?_) (fun h5 => ?_)
  · refine ok_iconst 28 rfl rfl (by decide) (ok_zret 29 rfl rfl rfl (by first | omega | (simp [up_if]; omega) | (simp [up_if] at *; omega)) ?_)
    exact ⟨_, rfl, fr.rf, hB, Or.inl rfl⟩
  · have hs : tabB σ s := yes1 a1 h5
    obtain ⟨s1, s2, s3⟩ := id hs
    obtain ⟨g1, g2, g3⟩ := hB.1 s s1 s2
    refine ok_iload 4 rfl rfl rfl (ok_callSI (M' := M_Mo_isSlot) (as := [_]) 5 rfl rfl ml_X12_103 (s_Mo_isSlot_r) ⟨Nat.le_of_ble_eq_true rfl, Nat.le_of_ble_eq_true rfl⟩ rfl (Nat.le_of_ble_eq_true rfl) (fun σ' z2 a2 => ?_))
    obtain ⟨hs_, a2⟩ := a2
    rw [hs_]; clear hs_ σ'
    refine ok_if_eq 6 51 rfl rfl rfl (fun h13 => ?_) (fun h13 => ?_)
    · refine ok_iconst 28 rfl rfl (by decide) (ok_zret 29 rfl rfl rfl (by first | omega | (simp [up_if]; omega) | (simp [up_if] at *; omega)) ?_)
      exact ⟨_, rfl, fr.rf, hB, Or.inl rfl⟩
    · refine ok_iload_n 7 rfl rfl rfl (ok_i2l 8 rfl rfl (ok_lconst (w := 0) 9 rfl rfl rfl (by decide) (ok_ldc2 10 (5) rfl rfl kc_X12_229 (by decide) (ok_callSI (M' := M_Mo_isIn) (as := [_, _, _]) 11 rfl rfl ml_X12_99 (s_Mo_isIn_r) ⟨Nat.le_of_ble_eq_true rfl, Nat.le_of_ble_eq_true rfl⟩ rfl (Nat.le_of_ble_eq_true rfl) (fun σ' z3 a3 => ?_)))))
      obtain ⟨hs_, a3⟩ := a3
      rw [hs_]; clear hs_ σ'
      refine ok_if_eq 12 51 rfl rfl rfl (fun h25 => ?_) (fun h25 => ?_)
      · refine ok_iconst 28 rfl rfl (by decide) (ok_zret 29 rfl rfl rfl (by first | omega | (simp [up_if]; omega) | (simp [up_if] at *; omega)) ?_)
        exact ⟨_, rfl, fr.rf, hB, Or.inl rfl⟩
      · refine ok_iload_n 13 rfl rfl rfl (ok_iconst 14 rfl rfl (by decide) (ok_icmp_le 15 53 rfl rfl rfl (fun h30 => ?_) (fun h30 => ?_)))
        · have t2 := yes1 a2 h13
          have t3 := yes1 a3 h25
          first | exact main hs t2 t3 (fun q => by omega) | exact main hs t2 t3 (fun _ => by have := yes1 a4 h48; omega)
        · refine ok_iload_n 16 rfl rfl rfl (ok_i2l 17 rfl rfl (ok_lconst (w := 0) 18 rfl rfl rfl (by decide) (ok_aload_n 19 rfl rfl rfl (ok_getR 20 rfl rfl fl_X12_7 rfl rfl (ok_iload_n 21 rfl rfl rfl (ok_iald 22 rfl rfl rfl (by first | omega | (simp [up_if]; omega) | (simp [up_if] at *; omega)) (ok_iconst 23 rfl rfl (by decide) (ok_isub 24 rfl rfl (by first | omega | (simp [up_if]; omega) | (simp [up_if] at *; omega)) (ok_i2l 25 rfl rfl (ok_callSI (M' := M_Mo_isIn) (as := [_, _, _]) 26 rfl rfl ml_X12_99 (s_Mo_isIn_r) ⟨Nat.le_of_ble_eq_true rfl, Nat.le_of_ble_eq_true rfl⟩ rfl (Nat.le_of_ble_eq_true rfl) (fun σ' z4 a4 => ?_)))))))))))
          obtain ⟨hs_, a4⟩ := a4
          rw [hs_]; clear hs_ σ'
          refine ok_if_ne 27 53 rfl rfl rfl (fun h48 => ?_) (fun h48 => ?_)
          · have t2 := yes1 a2 h13
            have t3 := yes1 a3 h25
            first | exact main hs t2 t3 (fun q => by omega) | exact main hs t2 t3 (fun _ => by have := yes1 a4 h48; omega)
          · refine ok_iconst 28 rfl rfl (by decide) (ok_zret 29 rfl rfl rfl (by first | omega | (simp [up_if]; omega) | (simp [up_if] at *; omega)) ?_)
            exact ⟨_, rfl, fr.rf, hB, Or.inl rfl⟩
