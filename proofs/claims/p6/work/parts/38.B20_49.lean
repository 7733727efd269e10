section
theorem s_Mo_fewest {σ : eS} {s : Int} (hB : iB1 σ) (ht : tabB σ s) (h3 : σ 1 s ≤ 3) : MtI shB M_Mo_fewest [vr 0, vi s] σ (fun σ' z => σ' = σ) := by
  refine Mt.of okM_Mo_fewest (Nat.le_of_ble_eq_true rfl) (fun hk hg => ?_)
  obtain ⟨t1, t2, t3⟩ := ht
  refine ok_aload_n 0 rfl rfl rfl (ok_getR 1 rfl rfl fl_X12_7 rfl rfl (ok_iload_n 2 rfl rfl rfl (ok_iald 3 rfl rfl rfl (by first | omega | (simp [up_if]; omega) | (simp [up_if] at *; omega)) (ok_iconst 4 rfl rfl (by decide) (ok_icmp_ne 5 12 rfl rfl rfl (fun h7 => ?_) (fun h7 => ?_))))))
  · refine ok_aload_n 8 rfl rfl rfl (ok_getR 9 rfl rfl fl_X12_7 rfl rfl (ok_iload_n 10 rfl rfl rfl (ok_iald 11 rfl rfl rfl (by first | omega | (simp [up_if]; omega) | (simp [up_if] at *; omega)) (ok_iconst 12 rfl rfl (by decide) (ok_icmp_ne 13 60 rfl rfl rfl (fun h19 => ?_) (fun h19 => ?_))))))
    · refine ok_iconst 36 rfl rfl (by decide) (ok_ist2 37 rfl rfl rfl (ok_iconst 38 rfl rfl (by decide) (ok_ist3 39 rfl rfl rfl ?_)))
      have e3 : σ 1 s = 3 := by omega
      refine lpO2 (fun b k : Int => [some (vr 0), some (vi s), some (vi b), some (vi k), none, none, none, none, none, none, none, none, none]) (fun _ _ => σ) (fun _ k => 0 ≤ k ∧ k ≤ 6) (fun _ k => (6 - k).toNat) ?_ (-1) 0 ⟨by omega, by omega⟩
      rintro b k ⟨k1, k2⟩ ih
      have tail : ∀ x : Int, k < 6 → -99999999 ≤ x → x ≤ 99999999 → Ok shB M_Mo_fewest 102 [some (vr 0), some (vi s), some (vi b), some (vi k), none, none, none, none, none, none, none, none, none] [vl x] σ (fun σ' v => ∃ z, v = some (vi z) ∧ σ' = σ) := by
        intro x k6 x1 x2
        refine ok_lst4 65 rfl rfl rfl (ok_iconst 66 rfl rfl (by decide) (ok_ist6 67 rfl rfl rfl (ok_iconst 68 rfl rfl (by decide) (ok_ist7 69 rfl rfl rfl (ok_iconst 70 rfl rfl (by decide) (ok_ist8 71 rfl rfl rfl ?_))))))
        refine lpO3 (fun c o i : Int => [some (vr 0), some (vi s), some (vi b), some (vi k), some (vl x), none, some (vi c), some (vi o), some (vi i), none, none, none, none]) (fun _ _ _ => σ) (fun c _ i => 0 ≤ i ∧ i ≤ 3 ∧ 0 ≤ c ∧ c ≤ 2 * i) (fun _ _ i => (3 - i).toNat) ?_ 0 1 0 ⟨by omega, by omega, by omega, by omega⟩
        rintro c o i ⟨i1, i2, i3, i4⟩ ih2
        refine ok_iload 72 rfl rfl rfl (ok_iconst 73 rfl rfl (by decide) (ok_icmp_ge 74 221 rfl rfl rfl (fun h116 => ?_) (fun h116 => ?_)))
        · refine ok_iload 133 rfl rfl rfl (ok_if_eq 134 240 rfl rfl rfl (fun h223 => ?_) (fun h223 => ?_))
          · refine ok_inc3 143 rfl rfl rfl (by first | omega | (simp [up_if]; omega) | (simp [up_if] at *; omega)) (ok_goto 144 64 rfl rfl rfl ?_)
            exact ok_fg [some (vr 0), some (vi s), some (vi _), some (vi (k + 1)), none, none, none, none, none, none, none, none, none] ⟨rfl, rfl, rfl, rfl, trivial⟩ (ih _ (k + 1) ⟨by omega, by omega⟩ (by omega))
          · refine ok_iload_n 135 rfl rfl rfl (ok_iconst 136 rfl rfl (by decide) (ok_icmp_eq 137 237 rfl rfl rfl (fun h228 => ?_) (fun h228 => ?_)))
            · refine ok_iload 141 rfl rfl rfl (ok_ist2 142 rfl rfl rfl (ok_inc3 143 rfl rfl rfl (by first | omega | (simp [up_if]; omega) | (simp [up_if] at *; omega)) (ok_goto 144 64 rfl rfl rfl ?_)))
              exact ok_fg [some (vr 0), some (vi s), some (vi _), some (vi (k + 1)), none, none, none, none, none, none, none, none, none] ⟨rfl, rfl, rfl, rfl, trivial⟩ (ih _ (k + 1) ⟨by omega, by omega⟩ (by omega))
            · refine ok_iload 138 rfl rfl rfl (ok_iload_n 139 rfl rfl rfl (ok_icmp_ge 140 240 rfl rfl rfl (fun h234 => ?_) (fun h234 => ?_)))
              · refine ok_inc3 143 rfl rfl rfl (by first | omega | (simp [up_if]; omega) | (simp [up_if] at *; omega)) (ok_goto 144 64 rfl rfl rfl ?_)
                exact ok_fg [some (vr 0), some (vi s), some (vi _), some (vi (k + 1)), none, none, none, none, none, none, none, none, none] ⟨rfl, rfl, rfl, rfl, trivial⟩ (ih _ (k + 1) ⟨by omega, by omega⟩ (by omega))
              · refine ok_iload 141 rfl rfl rfl (ok_ist2 142 rfl rfl rfl (ok_inc3 143 rfl rfl rfl (by first | omega | (simp [up_if]; omega) | (simp [up_if] at *; omega)) (ok_goto 144 64 rfl rfl rfl ?_)))
                exact ok_fg [some (vr 0), some (vi s), some (vi _), some (vi (k + 1)), none, none, none, none, none, none, none, none, none] ⟨rfl, rfl, rfl, rfl, trivial⟩ (ih _ (k + 1) ⟨by omega, by omega⟩ (by omega))
        · refine ok_aload_n 75 rfl rfl rfl (ok_iload_n 76 rfl rfl rfl (ok_iload 77 rfl rfl rfl (ok_iconst 78 rfl rfl (by decide) (ok_callVL (M' := M_Mo_lies) (as := [_, _, _]) 79 rfl rfl ml_X12_314 (s_Mo_lies hB ⟨t1, t2⟩ e3 ⟨by omega, by omega⟩ ⟨by omega, by omega⟩) rfl rfl (Nat.le_of_ble_eq_true rfl) ⟨Nat.le_of_ble_eq_true rfl, Nat.le_of_ble_eq_true rfl⟩ rfl (Nat.le_of_ble_eq_true rfl) (fun σ' y hy => ?_)))))
          obtain ⟨hs_, hy⟩ := hy
          rw [hs_]; clear hs_ σ'
          refine ok_aload_n 80 rfl rfl rfl (ok_iload_n 81 rfl rfl rfl (ok_iconst 82 rfl rfl (by decide) (ok_iconst 83 rfl rfl (by decide) (ok_callVL (M' := M_Mo_lies) (as := [_, _, _]) 84 rfl rfl ml_X12_314 (s_Mo_lies hB ⟨t1, t2⟩ e3 ⟨by omega, by omega⟩ ⟨by omega, by omega⟩) rfl rfl (Nat.le_of_ble_eq_true rfl) ⟨Nat.le_of_ble_eq_true rfl, Nat.le_of_ble_eq_true rfl⟩ rfl (Nat.le_of_ble_eq_true rfl) (fun σ' y hy => ?_)))))
          obtain ⟨hs_, hy⟩ := hy
          rw [hs_]; clear hs_ σ'
          refine ok_lsub 85 rfl rfl (by first | omega | (simp [up_if]; omega) | (simp [up_if] at *; omega)) (ok_lload 86 rfl rfl rfl (ok_ladd 87 rfl rfl (by first | omega | (simp [up_if]; omega) | (simp [up_if] at *; omega)) (ok_lst9 88 rfl rfl rfl (ok_aload_n 89 rfl rfl rfl (ok_iload_n 90 rfl rfl rfl (ok_iconst 91 rfl rfl (by decide) (ok_iload 92 rfl rfl rfl (ok_callVL (M' := M_Mo_lies) (as := [_, _, _]) 93 rfl rfl ml_X12_314 (s_Mo_lies hB ⟨t1, t2⟩ e3 ⟨by omega, by omega⟩ ⟨by omega, by omega⟩) rfl rfl (Nat.le_of_ble_eq_true rfl) ⟨Nat.le_of_ble_eq_true rfl, Nat.le_of_ble_eq_true rfl⟩ rfl (Nat.le_of_ble_eq_true rfl) (fun σ' y hy => ?_)))))))))
          obtain ⟨hs_, hy⟩ := hy
          rw [hs_]; clear hs_ σ'
          refine ok_lload 94 rfl rfl rfl (ok_lsub 95 rfl rfl (by first | omega | (simp [up_if]; omega) | (simp [up_if] at *; omega)) (ok_lst11 96 rfl rfl rfl (ok_iload 97 rfl rfl rfl (ok_if_eq 98 176 rfl rfl rfl (fun h155 => ?_) (fun h155 => ?_)))))
          · refine ok_iconst 109 rfl rfl (by decide) (ok_ist7 110 rfl rfl rfl (ok_iload 111 rfl rfl rfl (ok_lload 112 rfl rfl rfl (ok_lconst (w := 0) 113 rfl rfl rfl (by decide) (ok_lcmp_le 114 115 192 rfl rfl rfl rfl rfl (fun h184 => ?_) (fun h184 => ?_))))))
            · refine ok_iconst 118 rfl rfl (by decide) (ok_callSI (M' := M_Mo_one) (as := [_]) 119 rfl rfl ml_X12_192 (s_Mo_one) ⟨Nat.le_of_ble_eq_true rfl, Nat.le_of_ble_eq_true rfl⟩ rfl (Nat.le_of_ble_eq_true rfl) (fun σ' z1 a1 => ?_))
              obtain ⟨hs_, a1⟩ := a1
              rw [hs_]; clear hs_ σ'
              have q1 : 0 ≤ z1 ∧ z1 ≤ 1 := by rw [a1]; split <;> omega
              refine ok_lload 120 rfl rfl rfl (ok_lconst (w := 0) 121 rfl rfl rfl (by decide) (ok_lcmp_le 122 123 207 rfl rfl rfl rfl rfl (fun h199 => ?_) (fun h199 => ?_)))
              · refine ok_iconst 126 rfl rfl (by decide) (ok_callSI (M' := M_Mo_one) (as := [_]) 127 rfl rfl ml_X12_192 (s_Mo_one) ⟨Nat.le_of_ble_eq_true rfl, Nat.le_of_ble_eq_true rfl⟩ rfl (Nat.le_of_ble_eq_true rfl) (fun σ' z2 a2 => ?_))
                obtain ⟨hs_, a2⟩ := a2
                rw [hs_]; clear hs_ σ'
                have q2 : 0 ≤ z2 ∧ z2 ≤ 1 := by rw [a2]; split <;> omega
                refine ok_iadd 128 rfl rfl (by first | omega | (simp [up_if]; omega) | (simp [up_if] at *; omega)) (ok_iadd 129 rfl rfl (by first | omega | (simp [up_if]; omega) | (simp [up_if] at *; omega)) (ok_ist6 130 rfl rfl rfl (ok_inc8 131 rfl rfl rfl (by first | omega | (simp [up_if]; omega) | (simp [up_if] at *; omega)) (ok_goto 132 113 rfl rfl rfl ?_))))
                exact ok_fg [some (vr 0), some (vi s), some (vi b), some (vi k), some (vl x), none, some (vi _), some (vi _), some (vi (i + 1)), none, none, none, none] ⟨rfl, rfl, rfl, rfl, rfl, rfl, rfl, rfl, trivial⟩ (ih2 _ _ (i + 1) ⟨by omega, by omega, by omega, by omega⟩ (by omega))
              · refine ok_iconst 124 rfl rfl (by decide) (ok_goto 125 208 rfl rfl rfl (ok_callSI (M' := M_Mo_one) (as := [_]) 127 rfl rfl ml_X12_192 (s_Mo_one) ⟨Nat.le_of_ble_eq_true rfl, Nat.le_of_ble_eq_true rfl⟩ rfl (Nat.le_of_ble_eq_true rfl) (fun σ' z2 a2 => ?_)))
                obtain ⟨hs_, a2⟩ := a2
                rw [hs_]; clear hs_ σ'
                have q2 : 0 ≤ z2 ∧ z2 ≤ 1 := by rw [a2]; split <;> omega
                refine ok_iadd 128 rfl rfl (by first | omega | (simp [up_if]; omega) | (simp [up_if] at *; omega)) (ok_iadd 129 rfl rfl (by first | omega | (simp [up_if]; omega) | (simp [up_if] at *; omega)) (ok_ist6 130 rfl rfl rfl (ok_inc8 131 rfl rfl rfl (by first | omega | (simp [up_if]; omega) | (simp [up_if] at *; omega)) (ok_goto 132 113 rfl rfl rfl ?_))))
                exact ok_fg [some (vr 0), some (vi s), some (vi b), some (vi k), some (vl x), none, some (vi _), some (vi _), some (vi (i + 1)), none, none, none, none] ⟨rfl, rfl, rfl, rfl, rfl, rfl, rfl, rfl, trivial⟩ (ih2 _ _ (i + 1) ⟨by omega, by omega, by omega, by omega⟩ (by omega))
            · refine ok_iconst 116 rfl rfl (by decide) (ok_goto 117 193 rfl rfl rfl (ok_callSI (M' := M_Mo_one) (as := [_]) 119 rfl rfl ml_X12_192 (s_Mo_one) ⟨Nat.le_of_ble_eq_true rfl, Nat.le_of_ble_eq_true rfl⟩ rfl (Nat.le_of_ble_eq_true rfl) (fun σ' z1 a1 => ?_)))
              obtain ⟨hs_, a1⟩ := a1
              rw [hs_]; clear hs_ σ'
              have q1 : 0 ≤ z1 ∧ z1 ≤ 1 := by rw [a1]; split <;> omega
              refine ok_lload 120 rfl rfl rfl (ok_lconst (w := 0) 121 rfl rfl rfl (by decide) (ok_lcmp_le 122 123 207 rfl rfl rfl rfl rfl (fun h199 => ?_) (fun h199 => ?_)))
              · refine ok_iconst 126 rfl rfl (by decide) (ok_callSI (M' := M_Mo_one) (as := [_]) 127 rfl rfl ml_X12_192 (s_Mo_one) ⟨Nat.le_of_ble_eq_true rfl, Nat.le_of_ble_eq_true rfl⟩ rfl (Nat.le_of_ble_eq_true rfl) (fun σ' z2 a2 => ?_))
                obtain ⟨hs_, a2⟩ := a2
                rw [hs_]; clear hs_ σ'
                have q2 : 0 ≤ z2 ∧ z2 ≤ 1 := by rw [a2]; split <;> omega
                refine ok_iadd 128 rfl rfl (by first | omega | (simp [up_if]; omega) | (simp [up_if] at *; omega)) (ok_iadd 129 rfl rfl (by first | omega | (simp [up_if]; omega) | (simp [up_if] at *; omega)) (ok_ist6 130 rfl rfl rfl (ok_inc8 131 rfl rfl rfl (by first | omega | (simp [up_if]; omega) | (simp [up_if] at *; omega)) (ok_goto 132 113 rfl rfl rfl ?_))))
                exact ok_fg [some (vr 0), some (vi s), some (vi b), some (vi k), some (vl x), none, some (vi _), some (vi _), some (vi (i + 1)), none, none, none, none] ⟨rfl, rfl, rfl, rfl, rfl, rfl, rfl, rfl, trivial⟩ (ih2 _ _ (i + 1) ⟨by omega, by omega, by omega, by omega⟩ (by omega))
              · refine ok_iconst 124 rfl rfl (by decide) (ok_goto 125 208 rfl rfl rfl (ok_callSI (M' := M_Mo_one) (as := [_]) 127 rfl rfl ml_X12_192 (s_Mo_one) ⟨Nat.le_of_ble_eq_true rfl, Nat.le_of_ble_eq_true rfl⟩ rfl (Nat.le_of_ble_eq_true rfl) (fun σ' z2 a2 => ?_)))
                obtain ⟨hs_, a2⟩ := a2
                rw [hs_]; clear hs_ σ'
                have q2 : 0 ≤ z2 ∧ z2 ≤ 1 := by rw [a2]; split <;> omega
                refine ok_iadd 128 rfl rfl (by first | omega | (simp [up_if]; omega) | (simp [up_if] at *; omega)) (ok_iadd 129 rfl rfl (by first | omega | (simp [up_if]; omega) | (simp [up_if] at *; omega)) (ok_ist6 130 rfl rfl rfl (ok_inc8 131 rfl rfl rfl (by first | omega | (simp [up_if]; omega) | (simp [up_if] at *; omega)) (ok_goto 132 113 rfl rfl rfl ?_))))
                exact ok_fg [some (vr 0), some (vi s), some (vi b), some (vi k), some (vl x), none, some (vi _), some (vi _), some (vi (i + 1)), none, none, none, none] ⟨rfl, rfl, rfl, rfl, rfl, rfl, rfl, rfl, trivial⟩ (ih2 _ _ (i + 1) ⟨by omega, by omega, by omega, by omega⟩ (by omega))
          · refine ok_lload 99 rfl rfl rfl (ok_lconst (w := 0) 100 rfl rfl rfl (by decide) (ok_lcmp_lt 101 102 176 rfl rfl rfl rfl rfl (fun h161 => ?_) (fun h161 => ?_)))
            · refine ok_iconst 109 rfl rfl (by decide) (ok_ist7 110 rfl rfl rfl (ok_iload 111 rfl rfl rfl (ok_lload 112 rfl rfl rfl (ok_lconst (w := 0) 113 rfl rfl rfl (by decide) (ok_lcmp_le 114 115 192 rfl rfl rfl rfl rfl (fun h184 => ?_) (fun h184 => ?_))))))
              · refine ok_iconst 118 rfl rfl (by decide) (ok_callSI (M' := M_Mo_one) (as := [_]) 119 rfl rfl ml_X12_192 (s_Mo_one) ⟨Nat.le_of_ble_eq_true rfl, Nat.le_of_ble_eq_true rfl⟩ rfl (Nat.le_of_ble_eq_true rfl) (fun σ' z1 a1 => ?_))
                obtain ⟨hs_, a1⟩ := a1
                rw [hs_]; clear hs_ σ'
                have q1 : 0 ≤ z1 ∧ z1 ≤ 1 := by rw [a1]; split <;> omega
                refine ok_lload 120 rfl rfl rfl (ok_lconst (w := 0) 121 rfl rfl rfl (by decide) (ok_lcmp_le 122 123 207 rfl rfl rfl rfl rfl (fun h199 => ?_) (fun h199 => ?_)))
                · refine ok_iconst 126 rfl rfl (by decide) (ok_callSI (M' := M_Mo_one) (as := [_]) 127 rfl rfl ml_X12_192 (s_Mo_one) ⟨Nat.le_of_ble_eq_true rfl, Nat.le_of_ble_eq_true rfl⟩ rfl (Nat.le_of_ble_eq_true rfl) (fun σ' z2 a2 => ?_))
                  obtain ⟨hs_, a2⟩ := a2
                  rw [hs_]; clear hs_ σ'
                  have q2 : 0 ≤ z2 ∧ z2 ≤ 1 := by rw [a2]; split <;> omega
                  refine ok_iadd 128 rfl rfl (by first | omega | (simp [up_if]; omega) | (simp [up_if] at *; omega)) (ok_iadd 129 rfl rfl (by first | omega | (simp [up_if]; omega) | (simp [up_if] at *; omega)) (ok_ist6 130 rfl rfl rfl (ok_inc8 131 rfl rfl rfl (by first | omega | (simp [up_if]; omega) | (simp [up_if] at *; omega)) (ok_goto 132 113 rfl rfl rfl ?_))))
                  exact ok_fg [some (vr 0), some (vi s), some (vi b), some (vi k), some (vl x), none, some (vi _), some (vi _), some (vi (i + 1)), none, none, none, none] ⟨rfl, rfl, rfl, rfl, rfl, rfl, rfl, rfl, trivial⟩ (ih2 _ _ (i + 1) ⟨by omega, by omega, by omega, by omega⟩ (by omega))
                · refine ok_iconst 124 rfl rfl (by decide) (ok_goto 125 208 rfl rfl rfl (ok_callSI (M' := M_Mo_one) (as := [_]) 127 rfl rfl ml_X12_192 (s_Mo_one) ⟨Nat.le_of_ble_eq_true rfl, Nat.le_of_ble_eq_true rfl⟩ rfl (Nat.le_of_ble_eq_true rfl) (fun σ' z2 a2 => ?_)))
                  obtain ⟨hs_, a2⟩ := a2
                  rw [hs_]; clear hs_ σ'
                  have q2 : 0 ≤ z2 ∧ z2 ≤ 1 := by rw [a2]; split <;> omega
                  refine ok_iadd 128 rfl rfl (by first | omega | (simp [up_if]; omega) | (simp [up_if] at *; omega)) (ok_iadd 129 rfl rfl (by first | omega | (simp [up_if]; omega) | (simp [up_if] at *; omega)) (ok_ist6 130 rfl rfl rfl (ok_inc8 131 rfl rfl rfl (by first | omega | (simp [up_if]; omega) | (simp [up_if] at *; omega)) (ok_goto 132 113 rfl rfl rfl ?_))))
                  exact ok_fg [some (vr 0), some (vi s), some (vi b), some (vi k), some (vl x), none, some (vi _), some (vi _), some (vi (i + 1)), none, none, none, none] ⟨rfl, rfl, rfl, rfl, rfl, rfl, rfl, rfl, trivial⟩ (ih2 _ _ (i + 1) ⟨by omega, by omega, by omega, by omega⟩ (by omega))
              · refine ok_iconst 116 rfl rfl (by decide) (ok_goto 117 193 rfl rfl rfl (ok_callSI (M' := M_Mo_one) (as := [_]) 119 rfl rfl ml_X12_192 (s_Mo_one) ⟨Nat.le_of_ble_eq_true rfl, Nat.le_of_ble_eq_true rfl⟩ rfl (Nat.le_of_ble_eq_true rfl) (fun σ' z1 a1 => ?_)))
                obtain ⟨hs_, a1⟩ := a1
                rw [hs_]; clear hs_ σ'
                have q1 : 0 ≤ z1 ∧ z1 ≤ 1 := by rw [a1]; split <;> omega
                refine ok_lload 120 rfl rfl rfl (ok_lconst (w := 0) 121 rfl rfl rfl (by decide) (ok_lcmp_le 122 123 207 rfl rfl rfl rfl rfl (fun h199 => ?_) (fun h199 => ?_)))
                · refine ok_iconst 126 rfl rfl (by decide) (ok_callSI (M' := M_Mo_one) (as := [_]) 127 rfl rfl ml_X12_192 (s_Mo_one) ⟨Nat.le_of_ble_eq_true rfl, Nat.le_of_ble_eq_true rfl⟩ rfl (Nat.le_of_ble_eq_true rfl) (fun σ' z2 a2 => ?_))
                  obtain ⟨hs_, a2⟩ := a2
                  rw [hs_]; clear hs_ σ'
                  have q2 : 0 ≤ z2 ∧ z2 ≤ 1 := by rw [a2]; split <;> omega
                  refine ok_iadd 128 rfl rfl (by first | omega | (simp [up_if]; omega) | (simp [up_if] at *; omega)) (ok_iadd 129 rfl rfl (by first | omega | (simp [up_if]; omega) | (simp [up_if] at *; omega)) (ok_ist6 130 rfl rfl rfl (ok_inc8 131 rfl rfl rfl (by first | omega | (simp [up_if]; omega) | (simp [up_if] at *; omega)) (ok_goto 132 113 rfl rfl rfl ?_))))
                  exact ok_fg [some (vr 0), some (vi s), some (vi b), some (vi k), some (vl x), none, some (vi _), some (vi _), some (vi (i + 1)), none, none, none, none] ⟨rfl, rfl, rfl, rfl, rfl, rfl, rfl, rfl, trivial⟩ (ih2 _ _ (i + 1) ⟨by omega, by omega, by omega, by omega⟩ (by omega))
                · refine ok_iconst 124 rfl rfl (by decide) (ok_goto 125 208 rfl rfl rfl (ok_callSI (M' := M_Mo_one) (as := [_]) 127 rfl rfl ml_X12_192 (s_Mo_one) ⟨Nat.le_of_ble_eq_true rfl, Nat.le_of_ble_eq_true rfl⟩ rfl (Nat.le_of_ble_eq_true rfl) (fun σ' z2 a2 => ?_)))
                  obtain ⟨hs_, a2⟩ := a2
                  rw [hs_]; clear hs_ σ'
                  have q2 : 0 ≤ z2 ∧ z2 ≤ 1 := by rw [a2]; split <;> omega
                  refine ok_iadd 128 rfl rfl (by first | omega | (simp [up_if]; omega) | (simp [up_if] at *; omega)) (ok_iadd 129 rfl rfl (by first | omega | (simp [up_if]; omega) | (simp [up_if] at *; omega)) (ok_ist6 130 rfl rfl rfl (ok_inc8 131 rfl rfl rfl (by first | omega | (simp [up_if]; omega) | (simp [up_if] at *; omega)) (ok_goto 132 113 rfl rfl rfl ?_))))
                  exact ok_fg [some (vr 0), some (vi s), some (vi b), some (vi k), some (vl x), none, some (vi _), some (vi _), some (vi (i + 1)), none, none, none, none] ⟨rfl, rfl, rfl, rfl, rfl, rfl, rfl, rfl, trivial⟩ (ih2 _ _ (i + 1) ⟨by omega, by omega, by omega, by omega⟩ (by omega))
            · refine ok_lload 103 rfl rfl rfl (ok_lconst (w := 0) 104 rfl rfl rfl (by decide) (ok_lcmp_lt 105 106 176 rfl rfl rfl rfl rfl (fun h168 => ?_) (fun h168 => ?_)))
              · refine ok_iconst 109 rfl rfl (by decide) (ok_ist7 110 rfl rfl rfl (ok_iload 111 rfl rfl rfl (ok_lload 112 rfl rfl rfl (ok_lconst (w := 0) 113 rfl rfl rfl (by decide) (ok_lcmp_le 114 115 192 rfl rfl rfl rfl rfl (fun h184 => ?_) (fun h184 => ?_))))))
                · refine ok_iconst 118 rfl rfl (by decide) (ok_callSI (M' := M_Mo_one) (as := [_]) 119 rfl rfl ml_X12_192 (s_Mo_one) ⟨Nat.le_of_ble_eq_true rfl, Nat.le_of_ble_eq_true rfl⟩ rfl (Nat.le_of_ble_eq_true rfl) (fun σ' z1 a1 => ?_))
                  obtain ⟨hs_, a1⟩ := a1
                  rw [hs_]; clear hs_ σ'
                  have q1 : 0 ≤ z1 ∧ z1 ≤ 1 := by rw [a1]; split <;> omega
                  refine ok_lload 120 rfl rfl rfl (ok_lconst (w := 0) 121 rfl rfl rfl (by decide) (ok_lcmp_le 122 123 207 rfl rfl rfl rfl rfl (fun h199 => ?_) (fun h199 => ?_)))
                  · refine ok_iconst 126 rfl rfl (by decide) (ok_callSI (M' := M_Mo_one) (as := [_]) 127 rfl rfl ml_X12_192 (s_Mo_one) ⟨Nat.le_of_ble_eq_true rfl, Nat.le_of_ble_eq_true rfl⟩ rfl (Nat.le_of_ble_eq_true rfl) (fun σ' z2 a2 => ?_))
                    obtain ⟨hs_, a2⟩ := a2
                    rw [hs_]; clear hs_ σ'
                    have q2 : 0 ≤ z2 ∧ z2 ≤ 1 := by rw [a2]; split <;> omega
                    refine ok_iadd 128 rfl rfl (by first | omega | (simp [up_if]; omega) | (simp [up_if] at *; omega)) (ok_iadd 129 rfl rfl (by first | omega | (simp [up_if]; omega) | (simp [up_if] at *; omega)) (ok_ist6 130 rfl rfl rfl (ok_inc8 131 rfl rfl rfl (by first | omega | (simp [up_if]; omega) | (simp [up_if] at *; omega)) (ok_goto 132 113 rfl rfl rfl ?_))))
                    exact ok_fg [some (vr 0), some (vi s), some (vi b), some (vi k), some (vl x), none, some (vi _), some (vi _), some (vi (i + 1)), none, none, none, none] ⟨rfl, rfl, rfl, rfl, rfl, rfl, rfl, rfl, trivial⟩ (ih2 _ _ (i + 1) ⟨by omega, by omega, by omega, by omega⟩ (by omega))
                  · refine ok_iconst 124 rfl rfl (by decide) (ok_goto 125 208 rfl rfl rfl (ok_callSI (M' := M_Mo_one) (as := [_]) 127 rfl rfl ml_X12_192 (s_Mo_one) ⟨Nat.le_of_ble_eq_true rfl, Nat.le_of_ble_eq_true rfl⟩ rfl (Nat.le_of_ble_eq_true rfl) (fun σ' z2 a2 => ?_)))
                    obtain ⟨hs_, a2⟩ := a2
                    rw [hs_]; clear hs_ σ'
                    have q2 : 0 ≤ z2 ∧ z2 ≤ 1 := by rw [a2]; split <;> omega
                    refine ok_iadd 128 rfl rfl (by first | omega | (simp [up_if]; omega) | (simp [up_if] at *; omega)) (ok_iadd 129 rfl rfl (by first | omega | (simp [up_if]; omega) | (simp [up_if] at *; omega)) (ok_ist6 130 rfl rfl rfl (ok_inc8 131 rfl rfl rfl (by first | omega | (simp [up_if]; omega) | (simp [up_if] at *; omega)) (ok_goto 132 113 rfl rfl rfl ?_))))
                    exact ok_fg [some (vr 0), some (vi s), some (vi b), some (vi k), some (vl x), none, some (vi _), some (vi _), some (vi (i + 1)), none, none, none, none] ⟨rfl, rfl, rfl, rfl, rfl, rfl, rfl, rfl, trivial⟩ (ih2 _ _ (i + 1) ⟨by omega, by omega, by omega, by omega⟩ (by omega))
                · refine ok_iconst 116 rfl rfl (by decide) (ok_goto 117 193 rfl rfl rfl (ok_callSI (M' := M_Mo_one) (as := [_]) 119 rfl rfl ml_X12_192 (s_Mo_one) ⟨Nat.le_of_ble_eq_true rfl, Nat.le_of_ble_eq_true rfl⟩ rfl (Nat.le_of_ble_eq_true rfl) (fun σ' z1 a1 => ?_)))
                  obtain ⟨hs_, a1⟩ := a1
                  rw [hs_]; clear hs_ σ'
                  have q1 : 0 ≤ z1 ∧ z1 ≤ 1 := by rw [a1]; split <;> omega
                  refine ok_lload 120 rfl rfl rfl (ok_lconst (w := 0) 121 rfl rfl rfl (by decide) (ok_lcmp_le 122 123 207 rfl rfl rfl rfl rfl (fun h199 => ?_) (fun h199 => ?_)))
                  · refine ok_iconst 126 rfl rfl (by decide) (ok_callSI (M' := M_Mo_one) (as := [_]) 127 rfl rfl ml_X12_192 (s_Mo_one) ⟨Nat.le_of_ble_eq_true rfl, Nat.le_of_ble_eq_true rfl⟩ rfl (Nat.le_of_ble_eq_true rfl) (fun σ' z2 a2 => ?_))
                    obtain ⟨hs_, a2⟩ := a2
                    rw [hs_]; clear hs_ σ'
                    have q2 : 0 ≤ z2 ∧ z2 ≤ 1 := by rw [a2]; split <;> omega
                    refine ok_iadd 128 rfl rfl (by first | omega | (simp [up_if]; omega) | (simp [up_if] at *; omega)) (ok_iadd 129 rfl rfl (by first | omega | (simp [up_if]; omega) | (simp [up_if] at *; omega)) (ok_ist6 130 rfl rfl rfl (ok_inc8 131 rfl rfl rfl (by first | omega | (simp [up_if]; omega) | (simp [up_if] at *; omega)) (ok_goto 132 113 rfl rfl rfl ?_))))
                    exact ok_fg [some (vr 0), some (vi s), some (vi b), some (vi k), some (vl x), none, some (vi _), some (vi _), some (vi (i + 1)), none, none, none, none] ⟨rfl, rfl, rfl, rfl, rfl, rfl, rfl, rfl, trivial⟩ (ih2 _ _ (i + 1) ⟨by omega, by omega, by omega, by omega⟩ (by omega))
                  · refine ok_iconst 124 rfl rfl (by decide) (ok_goto 125 208 rfl rfl rfl (ok_callSI (M' := M_Mo_one) (as := [_]) 127 rfl rfl ml_X12_192 (s_Mo_one) ⟨Nat.le_of_ble_eq_true rfl, Nat.le_of_ble_eq_true rfl⟩ rfl (Nat.le_of_ble_eq_true rfl) (fun σ' z2 a2 => ?_)))
                    obtain ⟨hs_, a2⟩ := a2
                    rw [hs_]; clear hs_ σ'
                    have q2 : 0 ≤ z2 ∧ z2 ≤ 1 := by rw [a2]; split <;> omega
                    refine ok_iadd 128 rfl rfl (by first | omega | (simp [up_if]; omega) | (simp [up_if] at *; omega)) (ok_iadd 129 rfl rfl (by first | omega | (simp [up_if]; omega) | (simp [up_if] at *; omega)) (ok_ist6 130 rfl rfl rfl (ok_inc8 131 rfl rfl rfl (by first | omega | (simp [up_if]; omega) | (simp [up_if] at *; omega)) (ok_goto 132 113 rfl rfl rfl ?_))))
                    exact ok_fg [some (vr 0), some (vi s), some (vi b), some (vi k), some (vl x), none, some (vi _), some (vi _), some (vi (i + 1)), none, none, none, none] ⟨rfl, rfl, rfl, rfl, rfl, rfl, rfl, rfl, trivial⟩ (ih2 _ _ (i + 1) ⟨by omega, by omega, by omega, by omega⟩ (by omega))
              · refine ok_iconst 107 rfl rfl (by decide) (ok_goto 108 177 rfl rfl rfl (ok_ist7 110 rfl rfl rfl (ok_iload 111 rfl rfl rfl (ok_lload 112 rfl rfl rfl (ok_lconst (w := 0) 113 rfl rfl rfl (by decide) (ok_lcmp_le 114 115 192 rfl rfl rfl rfl rfl (fun h184 => ?_) (fun h184 => ?_)))))))
                · refine ok_iconst 118 rfl rfl (by decide) (ok_callSI (M' := M_Mo_one) (as := [_]) 119 rfl rfl ml_X12_192 (s_Mo_one) ⟨Nat.le_of_ble_eq_true rfl, Nat.le_of_ble_eq_true rfl⟩ rfl (Nat.le_of_ble_eq_true rfl) (fun σ' z1 a1 => ?_))
                  obtain ⟨hs_, a1⟩ := a1
                  rw [hs_]; clear hs_ σ'
                  have q1 : 0 ≤ z1 ∧ z1 ≤ 1 := by rw [a1]; split <;> omega
                  refine ok_lload 120 rfl rfl rfl (ok_lconst (w := 0) 121 rfl rfl rfl (by decide) (ok_lcmp_le 122 123 207 rfl rfl rfl rfl rfl (fun h199 => ?_) (fun h199 => ?_)))
                  · refine ok_iconst 126 rfl rfl (by decide) (ok_callSI (M' := M_Mo_one) (as := [_]) 127 rfl rfl ml_X12_192 (s_Mo_one) ⟨Nat.le_of_ble_eq_true rfl, Nat.le_of_ble_eq_true rfl⟩ rfl (Nat.le_of_ble_eq_true rfl) (fun σ' z2 a2 => ?_))
                    obtain ⟨hs_, a2⟩ := a2
                    rw [hs_]; clear hs_ σ'
                    have q2 : 0 ≤ z2 ∧ z2 ≤ 1 := by rw [a2]; split <;> omega
                    refine ok_iadd 128 rfl rfl (by first | omega | (simp [up_if]; omega) | (simp [up_if] at *; omega)) (ok_iadd 129 rfl rfl (by first | omega | (simp [up_if]; omega) | (simp [up_if] at *; omega)) (ok_ist6 130 rfl rfl rfl (ok_inc8 131 rfl rfl rfl (by first | omega | (simp [up_if]; omega) | (simp [up_if] at *; omega)) (ok_goto 132 113 rfl rfl rfl ?_))))
                    exact ok_fg [some (vr 0), some (vi s), some (vi b), some (vi k), some (vl x), none, some (vi _), some (vi _), some (vi (i + 1)), none, none, none, none] ⟨rfl, rfl, rfl, rfl, rfl, rfl, rfl, rfl, trivial⟩ (ih2 _ _ (i + 1) ⟨by omega, by omega, by omega, by omega⟩ (by omega))
                  · refine ok_iconst 124 rfl rfl (by decide) (ok_goto 125 208 rfl rfl rfl (ok_callSI (M' := M_Mo_one) (as := [_]) 127 rfl rfl ml_X12_192 (s_Mo_one) ⟨Nat.le_of_ble_eq_true rfl, Nat.le_of_ble_eq_true rfl⟩ rfl (Nat.le_of_ble_eq_true rfl) (fun σ' z2 a2 => ?_)))
                    obtain ⟨hs_, a2⟩ := a2
                    rw [hs_]; clear hs_ σ'
                    have q2 : 0 ≤ z2 ∧ z2 ≤ 1 := by rw [a2]; split <;> omega
                    refine ok_iadd 128 rfl rfl (by first | omega | (simp [up_if]; omega) | (simp [up_if] at *; omega)) (ok_iadd 129 rfl rfl (by first | omega | (simp [up_if]; omega) | (simp [up_if] at *; omega)) (ok_ist6 130 rfl rfl rfl (ok_inc8 131 rfl rfl rfl (by first | omega | (simp [up_if]; omega) | (simp [up_if] at *; omega)) (ok_goto 132 113 rfl rfl rfl ?_))))
                    exact ok_fg [some (vr 0), some (vi s), some (vi b), some (vi k), some (vl x), none, some (vi _), some (vi _), some (vi (i + 1)), none, none, none, none] ⟨rfl, rfl, rfl, rfl, rfl, rfl, rfl, rfl, trivial⟩ (ih2 _ _ (i + 1) ⟨by omega, by omega, by omega, by omega⟩ (by omega))
                · refine ok_iconst 116 rfl rfl (by decide) (ok_goto 117 193 rfl rfl rfl (ok_callSI (M' := M_Mo_one) (as := [_]) 119 rfl rfl ml_X12_192 (s_Mo_one) ⟨Nat.le_of_ble_eq_true rfl, Nat.le_of_ble_eq_true rfl⟩ rfl (Nat.le_of_ble_eq_true rfl) (fun σ' z1 a1 => ?_)))
                  obtain ⟨hs_, a1⟩ := a1
                  rw [hs_]; clear hs_ σ'
                  have q1 : 0 ≤ z1 ∧ z1 ≤ 1 := by rw [a1]; split <;> omega
                  refine ok_lload 120 rfl rfl rfl (ok_lconst (w := 0) 121 rfl rfl rfl (by decide) (ok_lcmp_le 122 123 207 rfl rfl rfl rfl rfl (fun h199 => ?_) (fun h199 => ?_)))
                  · refine ok_iconst 126 rfl rfl (by decide) (ok_callSI (M' := M_Mo_one) (as := [_]) 127 rfl rfl ml_X12_192 (s_Mo_one) ⟨Nat.le_of_ble_eq_true rfl, Nat.le_of_ble_eq_true rfl⟩ rfl (Nat.le_of_ble_eq_true rfl) (fun σ' z2 a2 => ?_))
                    obtain ⟨hs_, a2⟩ := a2
                    rw [hs_]; clear hs_ σ'
                    have q2 : 0 ≤ z2 ∧ z2 ≤ 1 := by rw [a2]; split <;> omega
                    refine ok_iadd 128 rfl rfl (by first | omega | (simp [up_if]; omega) | (simp [up_if] at *; omega)) (ok_iadd 129 rfl rfl (by first | omega | (simp [up_if]; omega) | (simp [up_if] at *; omega)) (ok_ist6 130 rfl rfl rfl (ok_inc8 131 rfl rfl rfl (by first | omega | (simp [up_if]; omega) | (simp [up_if] at *; omega)) (ok_goto 132 113 rfl rfl rfl ?_))))
                    exact ok_fg [some (vr 0), some (vi s), some (vi b), some (vi k), some (vl x), none, some (vi _), some (vi _), some (vi (i + 1)), none, none, none, none] ⟨rfl, rfl, rfl, rfl, rfl, rfl, rfl, rfl, trivial⟩ (ih2 _ _ (i + 1) ⟨by omega, by omega, by omega, by omega⟩ (by omega))
                  · refine ok_iconst 124 rfl rfl (by decide) (ok_goto 125 208 rfl rfl rfl (ok_callSI (M' := M_Mo_one) (as := [_]) 127 rfl rfl ml_X12_192 (s_Mo_one) ⟨Nat.le_of_ble_eq_true rfl, Nat.le_of_ble_eq_true rfl⟩ rfl (Nat.le_of_ble_eq_true rfl) (fun σ' z2 a2 => ?_)))
                    obtain ⟨hs_, a2⟩ := a2
                    rw [hs_]; clear hs_ σ'
                    have q2 : 0 ≤ z2 ∧ z2 ≤ 1 := by rw [a2]; split <;> omega
                    refine ok_iadd 128 rfl rfl (by first | omega | (simp [up_if]; omega) | (simp [up_if] at *; omega)) (ok_iadd 129 rfl rfl (by first | omega | (simp [up_if]; omega) | (simp [up_if] at *; omega)) (ok_ist6 130 rfl rfl rfl (ok_inc8 131 rfl rfl rfl (by first | omega | (simp [up_if]; omega) | (simp [up_if] at *; omega)) (ok_goto 132 113 rfl rfl rfl ?_))))
                    exact ok_fg [some (vr 0), some (vi s), some (vi b), some (vi k), some (vl x), none, some (vi _), some (vi _), some (vi (i + 1)), none, none, none, none] ⟨rfl, rfl, rfl, rfl, rfl, rfl, rfl, rfl, trivial⟩ (ih2 _ _ (i + 1) ⟨by omega, by omega, by omega, by omega⟩ (by omega))
      refine ok_iload_n 40 rfl rfl rfl (ok_bipush 41 rfl rfl (by decide) (by decide) (ok_icmp_ge 42 246 rfl rfl rfl (fun h67 => ?_) (fun h67 => ?_)))
      · refine ok_iload_n 145 rfl rfl rfl (ok_iret 146 rfl rfl rfl ?_)
        exact ⟨_, rfl, rfl⟩
      · refine ok_iload_n 43 rfl rfl rfl (ok_iconst 44 rfl rfl (by decide) (ok_icmp_ge 45 85 rfl rfl rfl (fun h72 => ?_) (fun h72 => ?_)))
        · refine ok_aload_n 52 rfl rfl rfl (ok_iload_n 53 rfl rfl rfl (ok_iconst 54 rfl rfl (by decide) (ok_iconst 55 rfl rfl (by decide) (ok_callVL (M' := M_Mo_lies) (as := [_, _, _]) 56 rfl rfl ml_X12_314 (s_Mo_lies hB ⟨t1, t2⟩ e3 ⟨by omega, by omega⟩ ⟨by omega, by omega⟩) rfl rfl (Nat.le_of_ble_eq_true rfl) ⟨Nat.le_of_ble_eq_true rfl, Nat.le_of_ble_eq_true rfl⟩ rfl (Nat.le_of_ble_eq_true rfl) (fun σ' y hy => ?_)))))
          obtain ⟨hs_, hy⟩ := hy
          rw [hs_]; clear hs_ σ'
          refine ok_aload_n 57 rfl rfl rfl (ok_iload_n 58 rfl rfl rfl (ok_iload_n 59 rfl rfl rfl (ok_iconst 60 rfl rfl (by decide) (ok_isub 61 rfl rfl (by first | omega | (simp [up_if]; omega) | (simp [up_if] at *; omega)) (ok_iconst 62 rfl rfl (by decide) (ok_callVL (M' := M_Mo_lies) (as := [_, _, _]) 63 rfl rfl ml_X12_314 (s_Mo_lies hB ⟨t1, t2⟩ e3 ⟨by omega, by omega⟩ ⟨by omega, by omega⟩) rfl rfl (Nat.le_of_ble_eq_true rfl) ⟨Nat.le_of_ble_eq_true rfl, Nat.le_of_ble_eq_true rfl⟩ rfl (Nat.le_of_ble_eq_true rfl) (fun σ' y hy => ?_)))))))
          obtain ⟨hs_, hy⟩ := hy
          rw [hs_]; clear hs_ σ'
          refine ok_lsub 64 rfl rfl (by first | omega | (simp [up_if]; omega) | (simp [up_if] at *; omega)) ?_
          exact tail _ (by omega) (by omega) (by omega)
        · refine ok_aload_n 46 rfl rfl rfl (ok_iload_n 47 rfl rfl rfl (ok_iconst 48 rfl rfl (by decide) (ok_iload_n 49 rfl rfl rfl (ok_callVL (M' := M_Mo_lies) (as := [_, _, _]) 50 rfl rfl ml_X12_314 (s_Mo_lies hB ⟨t1, t2⟩ e3 ⟨by omega, by omega⟩ ⟨by omega, by omega⟩) rfl rfl (Nat.le_of_ble_eq_true rfl) ⟨Nat.le_of_ble_eq_true rfl, Nat.le_of_ble_eq_true rfl⟩ rfl (Nat.le_of_ble_eq_true rfl) (fun σ' y hy => ?_)))))
          obtain ⟨hs_, hy⟩ := hy
          rw [hs_]; clear hs_ σ'
          refine ok_goto 51 102 rfl rfl rfl ?_
          exact tail _ (by omega) (by omega) (by omega)
    · refine ok_aload_n 14 rfl rfl rfl (ok_iload_n 15 rfl rfl rfl (ok_iconst 16 rfl rfl (by decide) (ok_iconst 17 rfl rfl (by decide) (ok_callVI (M' := M_Mo_at) (as := [_, _, _]) 18 rfl rfl ml_X12_107 (s_Mo_at hB ⟨t1, t2⟩ ⟨by omega, by omega⟩ ⟨by omega, by omega⟩) rfl rfl (Nat.le_of_ble_eq_true rfl) ⟨Nat.le_of_ble_eq_true rfl, Nat.le_of_ble_eq_true rfl⟩ rfl (Nat.le_of_ble_eq_true rfl) (fun σ' z hz => ?_)))))
      rw [hz.1, hz.2]
      clear hz z σ'
      refine ok_if_le 19 36 rfl rfl rfl (fun h29 => ?_) (fun h29 => ?_)
      · refine ok_iconst 22 rfl rfl (by decide) (ok_callSI (M' := M_Mo_one) (as := [_]) 23 rfl rfl ml_X12_192 (s_Mo_one) ⟨Nat.le_of_ble_eq_true rfl, Nat.le_of_ble_eq_true rfl⟩ rfl (Nat.le_of_ble_eq_true rfl) (fun σ' z1 a1 => ?_))
        obtain ⟨hs_, a1⟩ := a1
        rw [hs_]; clear hs_ σ'
        have q1 : 0 ≤ z1 ∧ z1 ≤ 1 := by rw [a1]; split <;> omega
        refine ok_aload_n 24 rfl rfl rfl (ok_iload_n 25 rfl rfl rfl (ok_iconst 26 rfl rfl (by decide) (ok_iconst 27 rfl rfl (by decide) (ok_callVI (M' := M_Mo_at) (as := [_, _, _]) 28 rfl rfl ml_X12_107 (s_Mo_at hB ⟨t1, t2⟩ ⟨by omega, by omega⟩ ⟨by omega, by omega⟩) rfl rfl (Nat.le_of_ble_eq_true rfl) ⟨Nat.le_of_ble_eq_true rfl, Nat.le_of_ble_eq_true rfl⟩ rfl (Nat.le_of_ble_eq_true rfl) (fun σ' z hz => ?_)))))
        rw [hz.1, hz.2]
        clear hz z σ'
        refine ok_if_le 29 54 rfl rfl rfl (fun h47 => ?_) (fun h47 => ?_)
        · refine ok_iconst 32 rfl rfl (by decide) (ok_callSI (M' := M_Mo_one) (as := [_]) 33 rfl rfl ml_X12_192 (s_Mo_one) ⟨Nat.le_of_ble_eq_true rfl, Nat.le_of_ble_eq_true rfl⟩ rfl (Nat.le_of_ble_eq_true rfl) (fun σ' z2 a2 => ?_))
          obtain ⟨hs_, a2⟩ := a2
          rw [hs_]; clear hs_ σ'
          have q2 : 0 ≤ z2 ∧ z2 ≤ 1 := by rw [a2]; split <;> omega
          refine ok_iadd 34 rfl rfl (by first | omega | (simp [up_if]; omega) | (simp [up_if] at *; omega)) (ok_iret 35 rfl rfl rfl ?_)
          exact ⟨_, rfl, rfl⟩
        · refine ok_iconst 30 rfl rfl (by decide) (ok_goto 31 55 rfl rfl rfl (ok_callSI (M' := M_Mo_one) (as := [_]) 33 rfl rfl ml_X12_192 (s_Mo_one) ⟨Nat.le_of_ble_eq_true rfl, Nat.le_of_ble_eq_true rfl⟩ rfl (Nat.le_of_ble_eq_true rfl) (fun σ' z2 a2 => ?_)))
          obtain ⟨hs_, a2⟩ := a2
          rw [hs_]; clear hs_ σ'
          have q2 : 0 ≤ z2 ∧ z2 ≤ 1 := by rw [a2]; split <;> omega
          refine ok_iadd 34 rfl rfl (by first | omega | (simp [up_if]; omega) | (simp [up_if] at *; omega)) (ok_iret 35 rfl rfl rfl ?_)
          exact ⟨_, rfl, rfl⟩
      · refine ok_iconst 20 rfl rfl (by decide) (ok_goto 21 37 rfl rfl rfl (ok_callSI (M' := M_Mo_one) (as := [_]) 23 rfl rfl ml_X12_192 (s_Mo_one) ⟨Nat.le_of_ble_eq_true rfl, Nat.le_of_ble_eq_true rfl⟩ rfl (Nat.le_of_ble_eq_true rfl) (fun σ' z1 a1 => ?_)))
        obtain ⟨hs_, a1⟩ := a1
        rw [hs_]; clear hs_ σ'
        have q1 : 0 ≤ z1 ∧ z1 ≤ 1 := by rw [a1]; split <;> omega
        refine ok_aload_n 24 rfl rfl rfl (ok_iload_n 25 rfl rfl rfl (ok_iconst 26 rfl rfl (by decide) (ok_iconst 27 rfl rfl (by decide) (ok_callVI (M' := M_Mo_at) (as := [_, _, _]) 28 rfl rfl ml_X12_107 (s_Mo_at hB ⟨t1, t2⟩ ⟨by omega, by omega⟩ ⟨by omega, by omega⟩) rfl rfl (Nat.le_of_ble_eq_true rfl) ⟨Nat.le_of_ble_eq_true rfl, Nat.le_of_ble_eq_true rfl⟩ rfl (Nat.le_of_ble_eq_true rfl) (fun σ' z hz => ?_)))))
        rw [hz.1, hz.2]
        clear hz z σ'
        refine ok_if_le 29 54 rfl rfl rfl (fun h47 => ?_) (fun h47 => ?_)
        · refine ok_iconst 32 rfl rfl (by decide) (ok_callSI (M' := M_Mo_one) (as := [_]) 33 rfl rfl ml_X12_192 (s_Mo_one) ⟨Nat.le_of_ble_eq_true rfl, Nat.le_of_ble_eq_true rfl⟩ rfl (Nat.le_of_ble_eq_true rfl) (fun σ' z2 a2 => ?_))
          obtain ⟨hs_, a2⟩ := a2
          rw [hs_]; clear hs_ σ'
          have q2 : 0 ≤ z2 ∧ z2 ≤ 1 := by rw [a2]; split <;> omega
          refine ok_iadd 34 rfl rfl (by first | omega | (simp [up_if]; omega) | (simp [up_if] at *; omega)) (ok_iret 35 rfl rfl rfl ?_)
          exact ⟨_, rfl, rfl⟩
        · refine ok_iconst 30 rfl rfl (by decide) (ok_goto 31 55 rfl rfl rfl (ok_callSI (M' := M_Mo_one) (as := [_]) 33 rfl rfl ml_X12_192 (s_Mo_one) ⟨Nat.le_of_ble_eq_true rfl, Nat.le_of_ble_eq_true rfl⟩ rfl (Nat.le_of_ble_eq_true rfl) (fun σ' z2 a2 => ?_)))
          obtain ⟨hs_, a2⟩ := a2
          rw [hs_]; clear hs_ σ'
          have q2 : 0 ≤ z2 ∧ z2 ≤ 1 := by rw [a2]; split <;> omega
          refine ok_iadd 34 rfl rfl (by first | omega | (simp [up_if]; omega) | (simp [up_if] at *; omega)) (ok_iret 35 rfl rfl rfl ?_)
          exact ⟨_, rfl, rfl⟩
  · refine ok_iconst 6 rfl rfl (by decide) (ok_iret 7 rfl rfl rfl ?_)
    exact ⟨_, rfl, rfl⟩
theorem cnt_bd (σ : eS) (s : Int) (hn : 0 ≤ σ 1 s ∧ σ 1 s ≤ 8) : 0 ≤ cntB σ s ∧ cntB σ s ≤ 64 := by
  have q := sq8 hn
  have := sm_bd (f := fun k => if 0 < σ 3 (64 * s + k) then (1 : Int) else 0) (B := 1) (by decide) (n := (σ 1 s * σ 1 s).toNat) (fun k _ _ => by split <;> omega)
  unfold cntB
  omega
theorem s_Mo_bound {σ : eS} {s w : Int} (hB : iB1 σ) : MtI shB M_Mo_bound [vr 0, vi s, vi w] σ (fun σ' z => fr (fun c _ => c = 8) σ σ') := by
  refine Mt.of okM_Mo_bound (Nat.le_of_ble_eq_true rfl) (fun hk hg => ?_)
  refine ok_aload_n 0 rfl rfl rfl (ok_iload_n 1 rfl rfl rfl (ok_callVI (M' := M_Mo_isEven) (as := [_]) 2 rfl rfl ml_X12_202 (s_Mo_isEven hB) rfl rfl (Nat.le_of_ble_eq_true rfl) ⟨Nat.le_of_ble_eq_true rfl, Nat.le_of_ble_eq_true rfl⟩ rfl (Nat.le_of_ble_eq_true rfl) (fun σ' z1 a1 => ?_)))
  obtain ⟨hs_, a1⟩ := a1
  rw [hs_]; clear hs_ σ'
  refine ok_if_eq 3 33 rfl rfl rfl (fun h5 => ?_) (fun h5 => ?_)
  · refine ok_iconst 19 rfl rfl (by decide) (ok_iret 20 rfl rfl rfl ?_)
    exact ⟨_, rfl, fr.rf⟩
  · refine ok_iload_n 4 rfl rfl rfl (ok_i2l 5 rfl rfl (ok_lconst (w := 0) 6 rfl rfl rfl (by decide) (ok_lconst (w := 1) 7 rfl rfl rfl (by decide) (ok_callSI (M' := M_Mo_isIn) (as := [_, _, _]) 8 rfl rfl ml_X12_99 (s_Mo_isIn_r) ⟨Nat.le_of_ble_eq_true rfl, Nat.le_of_ble_eq_true rfl⟩ rfl (Nat.le_of_ble_eq_true rfl) (fun σ' z2 a2 => ?_)))))
    obtain ⟨hs_, a2⟩ := a2
    rw [hs_]; clear hs_ σ'
    refine ok_if_eq 9 33 rfl rfl rfl (fun h15 => ?_) (fun h15 => ?_)
    · refine ok_iconst 19 rfl rfl (by decide) (ok_iret 20 rfl rfl rfl ?_)
      exact ⟨_, rfl, fr.rf⟩
    · obtain ⟨u1, u2, u3⟩ := (yes1 a1 h5).1
      refine ok_iload_n 10 rfl rfl rfl (ok_iconst 11 rfl rfl (by decide) (ok_icmp_ne 12 35 rfl rfl rfl (fun h20 => ?_) (fun h20 => ?_)))
      · obtain ⟨ht, -⟩ := yes1 a1 h5
        obtain ⟨t1, t2, t3⟩ := id ht
        have tn := hB.1 s t1 t2
        have cb := cnt_bd σ s ⟨by omega, by omega⟩
        refine ok_iload_n 21 rfl rfl rfl (ok_if_ne 22 64 rfl rfl rfl (fun h36 => ?_) (fun h36 => ?_))
        · refine ok_aload_n 40 rfl rfl rfl (ok_iload_n 41 rfl rfl rfl (ok_callVI (M' := M_Mo_fewest) (as := [_]) 42 rfl rfl ml_X12_311 (s_Mo_fewest hB ht (by have := yes1 a2 h15; omega)) rfl rfl (Nat.le_of_ble_eq_true rfl) ⟨Nat.le_of_ble_eq_true rfl, Nat.le_of_ble_eq_true rfl⟩ rfl (Nat.le_of_ble_eq_true rfl) (fun σ' z hz => ?_)))
          refine ok_iret 43 rfl rfl rfl ?_
          first | exact ⟨_, rfl, hz.1⟩ | (rw [hz]; exact ⟨_, rfl, fr.rf⟩)
        · refine ok_aload_n 23 rfl rfl rfl (ok_iload_n 24 rfl rfl rfl (ok_callVI (M' := M_Mo_aboveNought) (as := [_]) 25 rfl rfl ml_X12_205 (s_Mo_aboveNought hB ⟨t1, t2⟩) rfl rfl (Nat.le_of_ble_eq_true rfl) ⟨Nat.le_of_ble_eq_true rfl, Nat.le_of_ble_eq_true rfl⟩ rfl (Nat.le_of_ble_eq_true rfl) (fun σ' z hz => ?_)))
          rw [hz.1, hz.2]
          clear hz z σ'
          refine ok_iconst 26 rfl rfl (by decide) (ok_aload_n 27 rfl rfl rfl (ok_getR 28 rfl rfl fl_X12_7 rfl rfl (ok_iload_n 29 rfl rfl rfl (ok_iald 30 rfl rfl rfl (by first | omega | (simp [up_if]; omega) | (simp [up_if] at *; omega)) (ok_imul 31 rfl rfl (by first | omega | (simp [up_if]; omega) | (simp [up_if] at *; omega)) (ok_isub 32 rfl rfl (by first | omega | (simp [up_if]; omega) | (simp [up_if] at *; omega)) (ok_aload_n 33 rfl rfl rfl (ok_iload_n 34 rfl rfl rfl (ok_callVI (M' := M_Mo_groupsOf) (as := [_]) 35 rfl rfl ml_X12_208 (s_Mo_groupsOf hB ⟨t1, t2⟩) rfl rfl (Nat.le_of_ble_eq_true rfl) ⟨Nat.le_of_ble_eq_true rfl, Nat.le_of_ble_eq_true rfl⟩ rfl (Nat.le_of_ble_eq_true rfl) (fun σ' z hz => ?_))))))))))
          have hz1 := hz.2
          refine ok_iadd 36 rfl rfl (by first | omega | (simp [up_if]; omega) | (simp [up_if] at *; omega)) (ok_iconst 37 rfl rfl (by decide) (ok_iadd 38 rfl rfl (by first | omega | (simp [up_if]; omega) | (simp [up_if] at *; omega)) (ok_goto 39 69 rfl rfl rfl (ok_iret 43 rfl rfl rfl ?_))))
          first | exact ⟨_, rfl, hz.1⟩ | (rw [hz]; exact ⟨_, rfl, fr.rf⟩)
      · refine ok_aload_n 13 rfl rfl rfl (ok_getR 14 rfl rfl fl_X12_7 rfl rfl (ok_iload_n 15 rfl rfl rfl (ok_iald 16 rfl rfl rfl (by first | omega | (simp [up_if]; omega) | (simp [up_if] at *; omega)) (ok_iconst 17 rfl rfl (by decide) (ok_icmp_le 18 35 rfl rfl rfl (fun h30 => ?_) (fun h30 => ?_))))))
        · obtain ⟨ht, -⟩ := yes1 a1 h5
          obtain ⟨t1, t2, t3⟩ := id ht
          have tn := hB.1 s t1 t2
          have cb := cnt_bd σ s ⟨by omega, by omega⟩
          refine ok_iload_n 21 rfl rfl rfl (ok_if_ne 22 64 rfl rfl rfl (fun h36 => ?_) (fun h36 => ?_))
          · refine ok_aload_n 40 rfl rfl rfl (ok_iload_n 41 rfl rfl rfl (ok_callVI (M' := M_Mo_fewest) (as := [_]) 42 rfl rfl ml_X12_311 (s_Mo_fewest hB ht (by have := yes1 a2 h15; omega)) rfl rfl (Nat.le_of_ble_eq_true rfl) ⟨Nat.le_of_ble_eq_true rfl, Nat.le_of_ble_eq_true rfl⟩ rfl (Nat.le_of_ble_eq_true rfl) (fun σ' z hz => ?_)))
            refine ok_iret 43 rfl rfl rfl ?_
            first | exact ⟨_, rfl, hz.1⟩ | (rw [hz]; exact ⟨_, rfl, fr.rf⟩)
          · refine ok_aload_n 23 rfl rfl rfl (ok_iload_n 24 rfl rfl rfl (ok_callVI (M' := M_Mo_aboveNought) (as := [_]) 25 rfl rfl ml_X12_205 (s_Mo_aboveNought hB ⟨t1, t2⟩) rfl rfl (Nat.le_of_ble_eq_true rfl) ⟨Nat.le_of_ble_eq_true rfl, Nat.le_of_ble_eq_true rfl⟩ rfl (Nat.le_of_ble_eq_true rfl) (fun σ' z hz => ?_)))
            rw [hz.1, hz.2]
            clear hz z σ'
            refine ok_iconst 26 rfl rfl (by decide) (ok_aload_n 27 rfl rfl rfl (ok_getR 28 rfl rfl fl_X12_7 rfl rfl (ok_iload_n 29 rfl rfl rfl (ok_iald 30 rfl rfl rfl (by first | omega | (simp [up_if]; omega) | (simp [up_if] at *; omega)) (ok_imul 31 rfl rfl (by first | omega | (simp [up_if]; omega) | (simp [up_if] at *; omega)) (ok_isub 32 rfl rfl (by first | omega | (simp [up_if]; omega) | (simp [up_if] at *; omega)) (ok_aload_n 33 rfl rfl rfl (ok_iload_n 34 rfl rfl rfl (ok_callVI (M' := M_Mo_groupsOf) (as := [_]) 35 rfl rfl ml_X12_208 (s_Mo_groupsOf hB ⟨t1, t2⟩) rfl rfl (Nat.le_of_ble_eq_true rfl) ⟨Nat.le_of_ble_eq_true rfl, Nat.le_of_ble_eq_true rfl⟩ rfl (Nat.le_of_ble_eq_true rfl) (fun σ' z hz => ?_))))))))))
            have hz1 := hz.2
            refine ok_iadd 36 rfl rfl (by first | omega | (simp [up_if]; omega) | (simp [up_if] at *; omega)) (ok_iconst 37 rfl rfl (by decide) (ok_iadd 38 rfl rfl (by first | omega | (simp [up_if]; omega) | (simp [up_if] at *; omega)) (ok_goto 39 69 rfl rfl rfl (ok_iret 43 rfl rfl rfl ?_))))
            first | exact ⟨_, rfl, hz.1⟩ | (rw [hz]; exact ⟨_, rfl, fr.rf⟩)
        · refine ok_iconst 19 rfl rfl (by decide) (ok_iret 20 rfl rfl rfl ?_)
          exact ⟨_, rfl, fr.rf⟩
theorem wo_wk {σ : eS} {s n i j : Int} (hn : 0 ≤ n ∧ n ≤ 8) (he : n = σ 1 s) (hi : 0 ≤ i ∧ i < n) (hj : 0 ≤ j ∧ j < n) : wk (wo σ s n (n * n)) i j = cB σ s i j := by
  have g := ix8 hn hi hj
  have e : wo σ s n (n * n) 0 22 = n := by simp [wo]
  unfold wk
  rw [e]
  show (if (9 : Nat) = 0 ∧ n * i + j = 22 then n else if (9 : Nat) = 9 ∧ 0 ≤ n * i + j ∧ n * i + j < n * n then σ 3 (64 * s + (n * i + j)) else _) = _
  rw [if_neg (by omega), if_pos ⟨rfl, by omega, by omega⟩, he]
  unfold cB
  congr 1
  omega
theorem wo_ev {σ : eS} {s : Int} (hB : iB1 σ) (h : evB σ s) : EvW (σ 1 s) (wk (wo σ s (σ 1 s) (σ 1 s * σ 1 s))) (rowB σ s 0) := by
  obtain ⟨⟨t1, t2, t3⟩, h0, hr, hc⟩ := h
  have tn := (hB.1 s t1 t2).2.1
  refine ⟨fun i j a b c d => ?_, fun i a b => ?_, fun j a b => ?_⟩
  · rw [wo_wk ⟨by omega, tn⟩ rfl ⟨a, b⟩ ⟨c, d⟩]
    exact (cB_bd hB ⟨t1, t2⟩ ⟨a, b⟩ ⟨c, d⟩).1
  · rw [← hr i a b]
    exact sm_cg (fun k c d => wo_wk ⟨by omega, tn⟩ rfl ⟨a, b⟩ ⟨c, by omega⟩)
  · rw [← hc j a b]
    exact sm_cg (fun k c d => wo_wk ⟨by omega, tn⟩ rfl ⟨c, by omega⟩ ⟨a, b⟩)
abbrev rgS : Nat → Int → Prop := fun c k => (c = 0 ∧ k = 22) ∨ c = 9 ∨ c = 10 ∨ c = 11
theorem wo_fr (σ : eS) (s n j : Int) : fr rgS σ (wo σ s n j) := by
  intro c k h
  simp only [rgS] at h
  show (if c = 0 ∧ k = 22 then n else if c = 9 ∧ 0 ≤ k ∧ k < j then σ 3 (64 * s + k) else σ c k) = _
  rw [if_neg (by omega), if_neg (by omega)]
abbrev rgP : Nat → Int → Prop := fun c k => (c = 0 ∧ (k = 22 ∨ (27 ≤ k ∧ k ≤ 31))) ∨ c = 9 ∨ c = 10 ∨ c = 11 ∨ c = 12 ∨ c = 13
def QP (σ σ' : eS) : Prop := fr rgP σ σ' ∧ (iK σ → iK σ')
theorem QK.iK {σ σ' : eS} {k m z : Int} (hn : nW σ) (hm : 0 ≤ m ∧ m ≤ 799999992) (h : QK σ k m σ' z) (h2 : k = 2 → 1 ≤ σ 0 31 ∧ σ 0 31 ≤ 4 ∧ σ 0 22 = 2 * σ 0 31) : iK σ' := by
  obtain ⟨f, e, z1, z2, e28, e29, e30, hw, hc⟩ := h
  obtain ⟨n1, n2⟩ := hn
  refine ⟨by omega, by omega, by omega, by omega, by omega, by omega, by rw [← e, e29]; exact hw, by rw [← e, e28]; exact hc, fun q => ?_⟩
  have := h2 (by omega)
  rw [f 0 31 (by simp only [rgK]; omega)]
  omega
end
section
theorem iB1_frS {σ τ : eS} {P : Nat → Int → Prop} (h : iB1 σ) (f : fr P σ τ) (hp : ∀ c k, (c = 1 ∨ c = 2 ∨ c = 3 ∨ c = 4) → ¬ P c k) : iB1 τ := h.fr (fun c k q => f c k (hp c k q))
theorem left_pos {σ : eS} {x : Int} (h : nW σ) (he : EvW (σ 0 22) (wk σ) x) (hex : ∃ k, 0 ≤ k ∧ k < σ 0 22 * σ 0 22 ∧ 0 < σ 9 k) : 1 ≤ x ∧ 1 ≤ np σ := by
  obtain ⟨k, a, b, c⟩ := hex
  obtain ⟨n1, n2⟩ := h
  refine ⟨?_, np_pos a b c⟩
  have g1 := Int.mul_ediv_add_emod k (σ 0 22)
  have g2 := Int.emod_nonneg k (by omega : σ 0 22 ≠ 0)
  have g3 := Int.emod_lt_of_pos k (by omega : 0 < σ 0 22)
  have g4 : k / σ 0 22 < σ 0 22 := Int.ediv_lt_of_lt_mul (by omega) (by omega)
  have g5 : 0 ≤ k / σ 0 22 := Int.ediv_nonneg a (by omega)
  have g6 := EvW_bd he ⟨g5, g4⟩ ⟨g2, g3⟩
  unfold wk at g6
  rw [g1] at g6
  omega
theorem left_or {σ : eS} {z : Int} (hz : (z = 1 ∧ ∃ k, 0 ≤ k ∧ k < σ 0 22 * σ 0 22 ∧ 0 < σ 9 k) ∨ (z = 0 ∧ ∀ k, 0 ≤ k → k < σ 0 22 * σ 0 22 → σ 9 k ≤ 0)) (h : ¬ z = 0) : ∃ k, 0 ≤ k ∧ k < σ 0 22 * σ 0 22 ∧ 0 < σ 9 k := by
  rcases hz with q | q
  · exact q.2
  · exact absurd q.1 h
theorem evB_fr {σ τ : eS} {s : Int} (h : evB σ s) (f : ∀ (c : Nat) (k : Int), (c = 1 ∨ c = 3) → τ c k = σ c k) : evB τ s ∧ rowB τ s 0 = rowB σ s 0 ∧ τ 1 s = σ 1 s := by
  have e1 : ∀ k, τ 1 k = σ 1 k := fun k => f 1 k (Or.inl rfl)
  have e3 : ∀ k, τ 3 k = σ 3 k := fun k => f 3 k (Or.inr rfl)
  have er : rowB τ s = rowB σ s := by funext i; unfold rowB cB; simp only [e1, e3]
  have ec : colB τ s = colB σ s := by funext i; unfold colB cB; simp only [e1, e3]
  unfold evB tabB
  rw [er, ec, e1]
  exact ⟨h, rfl, rfl⟩
theorem s_Mo_sought {σ : eS} {s w : Int} (hB : iB1 σ) : MtI shB M_Mo_sought [vr 0, vi s, vi w] σ (fun σ' _ => fr rgS σ σ') := by
  refine Mt.of okM_Mo_sought (Nat.le_of_ble_eq_true rfl) (fun hk hg => ?_)
  refine ok_aload_n 0 rfl rfl rfl (ok_iload_n 1 rfl rfl rfl (ok_callVI (M' := M_Mo_isEven) (as := [_]) 2 rfl rfl ml_X12_202 (s_Mo_isEven hB) rfl rfl (Nat.le_of_ble_eq_true rfl) ⟨Nat.le_of_ble_eq_true rfl, Nat.le_of_ble_eq_true rfl⟩ rfl (Nat.le_of_ble_eq_true rfl) (fun σ' z1 a1 => ?_)))
  obtain ⟨hs_, a1⟩ := a1
  rw [hs_]; clear hs_ σ'
  refine ok_if_eq 3 30 rfl rfl rfl (fun h5 => ?_) (fun h5 => ?_)
  · refine ok_iconst 16 rfl rfl (by decide) (ok_iret 17 rfl rfl rfl ?_)
    exact ⟨_, rfl, fr.rf⟩
  · obtain ⟨u1, u2, u3⟩ := (yes1 a1 h5).1
    refine ok_aload_n 4 rfl rfl rfl (ok_getR 5 rfl rfl fl_X12_7 rfl rfl (ok_iload_n 6 rfl rfl rfl (ok_iald 7 rfl rfl rfl (by first | omega | (simp [up_if]; omega) | (simp [up_if] at *; omega)) (ok_iconst 8 rfl rfl (by decide) (ok_icmp_gt 9 30 rfl rfl rfl (fun h15 => ?_) (fun h15 => ?_))))))
    · refine ok_iconst 16 rfl rfl (by decide) (ok_iret 17 rfl rfl rfl ?_)
      exact ⟨_, rfl, fr.rf⟩
    · refine ok_iload_n 10 rfl rfl rfl (ok_i2l 11 rfl rfl (ok_lconst (w := 0) 12 rfl rfl rfl (by decide) (ok_ldc2 13 (4) rfl rfl kc_X12_318 (by decide) (ok_callSI (M' := M_Mo_isIn) (as := [_, _, _]) 14 rfl rfl ml_X12_99 (s_Mo_isIn_r) ⟨Nat.le_of_ble_eq_true rfl, Nat.le_of_ble_eq_true rfl⟩ rfl (Nat.le_of_ble_eq_true rfl) (fun σ' z2 a2 => ?_)))))
      obtain ⟨hs_, a2⟩ := a2
      rw [hs_]; clear hs_ σ'
      refine ok_if_ne 15 32 rfl rfl rfl (fun h27 => ?_) (fun h27 => ?_)
      · refine ok_iconst 18 rfl rfl (by decide) (ok_ist3 19 rfl rfl rfl (ok_iconst 20 rfl rfl (by decide) (ok_ist4 21 rfl rfl rfl (ok_iconst 22 rfl rfl (by decide) (ok_ist5 23 rfl rfl rfl ?_)))))
        have he := yes1 a1 h5
        have hw := yes1 a2 h27
        have tn := hB.1 s u1 u2
        have rb := rowB_bd hB ⟨u1, u2⟩ (i := 0) ⟨by omega, by omega⟩
        obtain ⟨m, em⟩ : ∃ m, m = rowB σ s 0 := ⟨_, rfl⟩
        have hm1 := he.2.1
        rw [← em] at rb hm1
        refine lpO4 (fun (b p k : Int) (_ : eS) => [some (vr 0), some (vi s), some (vi w), some (vi b), some (vi p), some (vi k), none]) (fun _ _ _ ρ => ρ) (fun _ p k ρ => fr rgS σ ρ ∧ 0 ≤ k ∧ k ≤ 256) (fun _ _ k _ => (256 - k).toNat) ?_ (-1) 0 0 σ ⟨fr.rf, by omega, by omega⟩
        rintro b p k ρ ⟨f, k1, k2⟩ ih
        have hB' : iB1 ρ := iB1_frS hB f (fun c k q => by simp only [rgS]; omega)
        obtain ⟨he', er, e1⟩ := evB_fr he (τ := ρ) (fun c k q => f c k (by simp only [rgS]; omega))
        refine ok_iload 24 rfl rfl rfl (ok_sipush 25 rfl rfl (by decide) (by decide) (ok_icmp_ge 26 125 rfl rfl rfl (fun h45 => ?_) (fun h45 => ?_)))
        · refine ok_iload_n 64 rfl rfl rfl (ok_if_ne 65 134 rfl rfl rfl (fun h126 => ?_) (fun h126 => ?_))
          · refine ok_iload_n 68 rfl rfl rfl (ok_iload_n 69 rfl rfl rfl (ok_iconst 70 rfl rfl (by decide) (ok_isub 71 rfl rfl (by first | omega | (simp [up_if]; omega) | (simp [up_if] at *; omega)) (ok_callSI (M' := M_Mo_ruleOf) (as := [_, _]) 72 rfl rfl ml_X12_320 (s_Mo_ruleOf ⟨by omega, by omega⟩) ⟨Nat.le_of_ble_eq_true rfl, Nat.le_of_ble_eq_true rfl⟩ rfl (Nat.le_of_ble_eq_true rfl) (fun σ' z hz => ?_)))))
            rw [hz.1, hz.2]
            clear hz z σ'
            refine ok_iret 73 rfl rfl rfl ?_
            exact ⟨_, rfl, f⟩
          · refine ok_iload 66 rfl rfl rfl (ok_goto 67 141 rfl rfl rfl (ok_iret 73 rfl rfl rfl ?_))
            exact ⟨_, rfl, f⟩
        · refine ok_aload_n 27 rfl rfl rfl (ok_iload_n 28 rfl rfl rfl (ok_callVV (M' := M_Mo_worksOn) (as := [_]) 29 rfl rfl ml_X12_294 (s_Mo_worksOn hB' he'.1) rfl rfl (Nat.le_of_ble_eq_true rfl) ⟨Nat.le_of_ble_eq_true rfl, Nat.le_of_ble_eq_true rfl⟩ rfl (Nat.le_of_ble_eq_true rfl) (fun σ' hz => ?_)))
          rw [hz]
          clear hz σ'
          have hev := wo_ev hB' he'
          have g := f.tr (wo_fr ρ s (ρ 1 s) (ρ 1 s * ρ 1 s))
          have e22 : wo ρ s (ρ 1 s) (ρ 1 s * ρ 1 s) 0 22 = ρ 1 s := by simp [wo]
          obtain ⟨τ, eτ⟩ : ∃ τ, τ = wo ρ s (ρ 1 s) (ρ 1 s * ρ 1 s) := ⟨_, rfl⟩
          rw [← eτ] at hev g e22 ⊢
          rw [er, ← em, ← e22] at hev
          clear eτ
          refine ok_iconst 30 rfl rfl (by decide) (ok_ist6 31 rfl rfl rfl ?_)
          refine lpO3 (fun (c _ : Int) (_ : eS) => [some (vr 0), some (vi s), some (vi w), some (vi b), some (vi p), some (vi k), some (vi c)]) (fun _ _ υ => υ) (fun c x υ => fr rgS σ υ ∧ 0 ≤ c ∧ c + np υ ≤ 64 ∧ 0 ≤ x ∧ x ≤ m ∧ υ 0 22 = τ 0 22 ∧ EvW (υ 0 22) (wk υ) x) (fun c _ _ => (64 - c).toNat) ?_ 0 m τ ⟨g, by omega, by have := np_bd τ ⟨by omega, by omega⟩; omega, by omega, by omega, rfl, hev⟩
          rintro c x υ ⟨g1, c1, c2, x1, x2, f22, ev⟩ ih2
          have hnW : nW υ := ⟨by omega, by omega⟩
          have npb := np_bd υ hnW
          refine ok_aload_n 32 rfl rfl rfl (ok_callVI (M' := M_Mo_isLeft) (as := []) 33 rfl rfl ml_X12_285 (s_Mo_isLeft hnW) rfl rfl (Nat.le_of_ble_eq_true rfl) ⟨Nat.le_of_ble_eq_true rfl, Nat.le_of_ble_eq_true rfl⟩ rfl (Nat.le_of_ble_eq_true rfl) (fun σ' z hz => ?_))
          obtain ⟨hs_, hz⟩ := hz
          rw [hs_]; clear hs_ σ'
          refine ok_if_eq 34 97 rfl rfl rfl (fun h60 => ?_) (fun h60 => ?_)
          · clear hz
            refine ok_iload_n 51 rfl rfl rfl (ok_iconst 52 rfl rfl (by decide) (ok_icmp_eq 53 112 rfl rfl rfl (fun h99 => ?_) (fun h99 => ?_)))
            · refine ok_iload 58 rfl rfl rfl (ok_ist3 59 rfl rfl rfl (ok_iload 60 rfl rfl rfl (ok_ist4 61 rfl rfl rfl (ok_inc5 62 rfl rfl rfl (by first | omega | (simp [up_if]; omega) | (simp [up_if] at *; omega)) (ok_goto 63 40 rfl rfl rfl ?_)))))
              exact ok_fg [some (vr 0), some (vi s), some (vi w), some (vi _), some (vi _), some (vi (k + 1)), none] ⟨rfl, rfl, rfl, rfl, rfl, rfl, trivial⟩ (ih _ _ (k + 1) υ ⟨g1, by omega, by omega⟩ (by omega))
            · refine ok_iload 54 rfl rfl rfl (ok_iload 55 rfl rfl rfl (ok_icmp_lt 56 112 rfl rfl rfl (fun h106 => ?_) (fun h106 => ?_)))
              · refine ok_iload 58 rfl rfl rfl (ok_ist3 59 rfl rfl rfl (ok_iload 60 rfl rfl rfl (ok_ist4 61 rfl rfl rfl (ok_inc5 62 rfl rfl rfl (by first | omega | (simp [up_if]; omega) | (simp [up_if] at *; omega)) (ok_goto 63 40 rfl rfl rfl ?_)))))
                exact ok_fg [some (vr 0), some (vi s), some (vi w), some (vi _), some (vi _), some (vi (k + 1)), none] ⟨rfl, rfl, rfl, rfl, rfl, rfl, trivial⟩ (ih _ _ (k + 1) υ ⟨g1, by omega, by omega⟩ (by omega))
              · refine ok_goto 57 119 rfl rfl rfl (ok_inc5 62 rfl rfl rfl (by first | omega | (simp [up_if]; omega) | (simp [up_if] at *; omega)) (ok_goto 63 40 rfl rfl rfl ?_))
                exact ok_fg [some (vr 0), some (vi s), some (vi w), some (vi _), some (vi _), some (vi (k + 1)), none] ⟨rfl, rfl, rfl, rfl, rfl, rfl, trivial⟩ (ih _ _ (k + 1) υ ⟨g1, by omega, by omega⟩ (by omega))
          · obtain ⟨xp, np1⟩ := left_pos hnW ev (left_or hz h60)
            clear hz
            refine ok_iload 35 rfl rfl rfl (ok_aload_n 36 rfl rfl rfl (ok_iload 37 rfl rfl rfl (ok_iload 38 rfl rfl rfl (ok_iconst 39 rfl rfl (by decide) (ok_mmin 40 rfl rfl ml_X12_271 ⟨Nat.le_of_ble_eq_true rfl, Nat.le_of_ble_eq_true rfl⟩ (ok_callSI (M' := M_Mo_ruleOf) (as := [_, _]) 41 rfl rfl ml_X12_320 (s_Mo_ruleOf ⟨by omega, by omega⟩) ⟨Nat.le_of_ble_eq_true rfl, Nat.le_of_ble_eq_true rfl⟩ rfl (Nat.le_of_ble_eq_true rfl) (fun σ' z hz => ?_)))))))
            rw [hz.1, hz.2]
            clear hz z σ'
            refine ok_callVI (M' := M_Mo_peels) (as := [_]) 42 rfl rfl ml_X12_288 (s_Mo_peels hnW ev ⟨xp, by omega⟩) rfl rfl (Nat.le_of_ble_eq_true rfl) ⟨Nat.le_of_ble_eq_true rfl, Nat.le_of_ble_eq_true rfl⟩ rfl (Nat.le_of_ble_eq_true rfl) (fun υ' z' hz => ?_)
            obtain ⟨y1, y2, y3, y4, y5, -⟩ := hz
            refine ok_if_le 43 87 rfl rfl rfl (fun h80 => ?_) (fun h80 => ?_)
            · refine ok_iconst 46 rfl rfl (by decide) (ok_callSI (M' := M_Mo_one) (as := [_]) 47 rfl rfl ml_X12_192 (s_Mo_one) ⟨Nat.le_of_ble_eq_true rfl, Nat.le_of_ble_eq_true rfl⟩ rfl (Nat.le_of_ble_eq_true rfl) (fun σ' z hz => ?_))
              rw [hz.1, hz.2]
              clear hz z σ'
              refine ok_iadd 48 rfl rfl (by first | omega | (simp [up_if]; omega) | (simp [up_if] at *; omega)) (ok_ist6 49 rfl rfl rfl (ok_goto 50 56 rfl rfl rfl ?_))
              first | (exfalso; omega) | exact ih2 (c + 1) (x - z') υ' ⟨g1.tr (y3.mono (fun c k q => by simp only [rgS]; omega)), by omega, by omega, by omega, by omega, by rw [y3 0 22 (by omega)]; exact f22, by rw [y3 0 22 (by omega)]; exact y4⟩ (by omega)
            · refine ok_iconst 44 rfl rfl (by decide) (ok_goto 45 88 rfl rfl rfl (ok_callSI (M' := M_Mo_one) (as := [_]) 47 rfl rfl ml_X12_192 (s_Mo_one) ⟨Nat.le_of_ble_eq_true rfl, Nat.le_of_ble_eq_true rfl⟩ rfl (Nat.le_of_ble_eq_true rfl) (fun σ' z hz => ?_)))
              rw [hz.1, hz.2]
              clear hz z σ'
              refine ok_iadd 48 rfl rfl (by first | omega | (simp [up_if]; omega) | (simp [up_if] at *; omega)) (ok_ist6 49 rfl rfl rfl (ok_goto 50 56 rfl rfl rfl ?_))
              first | (exfalso; omega) | exact ih2 (c + 1) (x - z') υ' ⟨g1.tr (y3.mono (fun c k q => by simp only [rgS]; omega)), by omega, by omega, by omega, by omega, by rw [y3 0 22 (by omega)]; exact f22, by rw [y3 0 22 (by omega)]; exact y4⟩ (by omega)
      · refine ok_iconst 16 rfl rfl (by decide) (ok_iret 17 rfl rfl rfl ?_)
        exact ⟨_, rfl, fr.rf⟩
end
section
theorem sm_add (f : Int → Int) (a : Nat) : ∀ b : Nat, sm f (a + b) = sm f a + sm (fun k => f (a + k)) b
  | 0 => by simp [sm]
  | b + 1 => by
    show sm f (a + b + 1) = _
    have e1 : sm f (a + b + 1) = sm f (a + b) + f ((a + b : Nat) : Int) := rfl
    have e2 : sm (fun k => f (a + k)) (b + 1) = sm (fun k => f (a + k)) b + f ((a : Int) + ((b : Nat) : Int)) := rfl
    rw [e1, e2, sm_add f a b, show ((a + b : Nat) : Int) = (a : Int) + b by omega]
    omega
theorem sm_ex {f : Int → Int} : ∀ {n : Nat}, sm f n ≠ 0 → ∃ k : Int, 0 ≤ k ∧ k < n ∧ f k ≠ 0
  | 0, h => absurd rfl h
  | n + 1, h => by
    by_cases q : f (n : Int) = 0
    · have e : sm f (n + 1) = sm f n + f (n : Int) := rfl
      rw [e, q, Int.add_zero] at h
      obtain ⟨k, a, b, c⟩ := sm_ex h
      exact ⟨k, a, by omega, c⟩
    · exact ⟨n, by omega, by omega, q⟩
def tg (n v : Int) (c : Int → Int → Int) (row col : Int → Int) (i j a b : Int) : Int :=
  if a < n then (if b < n then (if a < i ∨ (a = i ∧ b < j) then c a b else 0) else (if a < i ∧ b = n + a then v - row a else 0))
  else (if b < n then (if b < i ∧ a = n + b then v - col b else 0) else (if b - n < i ∨ (b - n = i ∧ a - n < j) then c (b - n) (a - n) else 0))
theorem tg_s {n v : Int} {c : Int → Int → Int} {row col : Int → Int} {i j a b : Int} (hi : 0 ≤ i ∧ i < n) (hj : 0 ≤ j ∧ j < n) :
    (if a = n + j ∧ b = n + i then c i j else if a = i ∧ b = j then c i j else tg n v c row col i j a b) = tg n v c row col i (j + 1) a b := by
  by_cases q1 : a = n + j ∧ b = n + i
  · rw [if_pos q1]
    unfold tg
    rw [if_neg (by omega), if_neg (by omega), if_pos (by omega), show b - n = i by omega, show a - n = j by omega]
  · rw [if_neg q1]
    by_cases q2 : a = i ∧ b = j
    · rw [if_pos q2]
      unfold tg
      rw [if_pos (by omega), if_pos (by omega), if_pos (by omega), q2.1, q2.2]
    · rw [if_neg q2]
      unfold tg
      by_cases r1 : a < n
      · rw [if_pos r1, if_pos r1]
        by_cases r2 : b < n
        · rw [if_pos r2, if_pos r2]
          by_cases r3 : a < i ∨ (a = i ∧ b < j)
          · rw [if_pos r3, if_pos (by omega)]
          · rw [if_neg r3, if_neg (by omega)]
        · rw [if_neg r2, if_neg r2]
      · rw [if_neg r1, if_neg r1]
        by_cases r2 : b < n
        · rw [if_pos r2, if_pos r2]
        · rw [if_neg r2, if_neg r2]
          by_cases r3 : b - n < i ∨ (b - n = i ∧ a - n < j)
          · rw [if_pos r3, if_pos (by omega)]
          · rw [if_neg r3, if_neg (by omega)]
theorem tg_d {n v : Int} {c : Int → Int → Int} {row col : Int → Int} {i a b : Int} (hi : 0 ≤ i ∧ i < n) (ha : 0 ≤ a ∧ a < 2 * n) (hb : 0 ≤ b ∧ b < 2 * n) :
    (if a = n + i ∧ b = i then v - col i else if a = i ∧ b = n + i then v - row i else tg n v c row col i n a b) = tg n v c row col (i + 1) 0 a b := by
  by_cases q1 : a = n + i ∧ b = i
  · rw [if_pos q1]
    unfold tg
    rw [if_neg (by omega), if_pos (by omega), if_pos (by omega), q1.2]
  · rw [if_neg q1]
    by_cases q2 : a = i ∧ b = n + i
    · rw [if_pos q2]
      unfold tg
      rw [if_pos (by omega), if_neg (by omega), if_pos (by omega), q2.1]
    · rw [if_neg q2]
      unfold tg
      by_cases r1 : a < n
      · rw [if_pos r1, if_pos r1]
        by_cases r2 : b < n
        · rw [if_pos r2, if_pos r2]
          by_cases r3 : a < i ∨ (a = i ∧ b < n)
          · rw [if_pos r3, if_pos (by omega)]
          · rw [if_neg r3, if_neg (by omega)]
        · rw [if_neg r2, if_neg r2]
          by_cases r3 : a < i ∧ b = n + a
          · rw [if_pos r3, if_pos (by omega)]
          · rw [if_neg r3, if_neg (by omega)]
      · rw [if_neg r1, if_neg r1]
        by_cases r2 : b < n
        · rw [if_pos r2, if_pos r2]
          by_cases r3 : b < i ∧ a = n + b
          · rw [if_pos r3, if_pos (by omega)]
          · rw [if_neg r3, if_neg (by omega)]
        · rw [if_neg r2, if_neg r2]
          by_cases r3 : b - n < i ∨ (b - n = i ∧ a - n < n)
          · rw [if_pos r3, if_pos (by omega)]
          · rw [if_neg r3, if_neg (by omega)]
theorem tg_0 {n v : Int} {c : Int → Int → Int} {row col : Int → Int} {a b : Int} (ha : 0 ≤ a ∧ a < 2 * n) (hb : 0 ≤ b ∧ b < 2 * n) : tg n v c row col 0 0 a b = 0 := by
  unfold tg
  by_cases r1 : a < n
  · rw [if_pos r1]
    by_cases r2 : b < n
    · rw [if_pos r2, if_neg (by omega)]
    · rw [if_neg r2, if_neg (by omega)]
  · rw [if_neg r1]
    by_cases r2 : b < n
    · rw [if_pos r2, if_neg (by omega)]
    · rw [if_neg r2, if_neg (by omega)]
theorem tg_ev {n v : Int} {c : Int → Int → Int} (hn : 0 ≤ n) (hc : ∀ i j, 0 ≤ i → i < n → 0 ≤ j → j < n → 0 ≤ c i j)
    (hr : ∀ i, 0 ≤ i → i < n → sm (fun j => c i j) n.toNat ≤ v) (hk : ∀ j, 0 ≤ j → j < n → sm (fun i => c i j) n.toNat ≤ v) :
    EvW (2 * n) (tg n v c (fun i => sm (fun j => c i j) n.toNat) (fun j => sm (fun i => c i j) n.toNat) n 0) v := by
  have en : (2 * n).toNat = n.toNat + n.toNat := by omega
  have en2 : ((n.toNat : Nat) : Int) = n := by omega
  refine ⟨fun a b a1 a2 b1 b2 => ?_, fun a a1 a2 => ?_, fun b b1 b2 => ?_⟩
  · unfold tg
    by_cases r1 : a < n
    · rw [if_pos r1]
      by_cases r2 : b < n
      · rw [if_pos r2, if_pos (by omega)]; exact hc a b a1 r1 b1 r2
      · rw [if_neg r2]
        have := hr a a1 r1
        dsimp only
        split <;> omega
    · rw [if_neg r1]
      by_cases r2 : b < n
      · rw [if_pos r2]
        have := hk b b1 r2
        dsimp only
        split <;> omega
      · rw [if_neg r2, if_pos (by omega)]; exact hc _ _ (by omega) (by omega) (by omega) (by omega)
  · rw [en, sm_add, en2]
    by_cases r1 : a < n
    · have e1 : sm (fun b => tg n v c (fun i => sm (fun j => c i j) n.toNat) (fun j => sm (fun i => c i j) n.toNat) n 0 a b) n.toNat = sm (fun j => c a j) n.toNat :=
        sm_cg (fun k k1 k2 => by unfold tg; rw [if_pos r1, if_pos (by omega), if_pos (by omega)])
      have e2 : sm (fun k => tg n v c (fun i => sm (fun j => c i j) n.toNat) (fun j => sm (fun i => c i j) n.toNat) n 0 a (n + k)) n.toNat = sm (fun k => if k = a then v - sm (fun j => c a j) n.toNat else 0) n.toNat :=
        sm_cg (fun k k1 k2 => by
          unfold tg; rw [if_pos r1, if_neg (by omega)]
          by_cases q : k = a
          · rw [if_pos (by omega), if_pos q]
          · rw [if_neg (by omega), if_neg q])
      rw [e1, e2, sm_one _ a1 (by omega)]
      omega
    · have e1 : sm (fun b => tg n v c (fun i => sm (fun j => c i j) n.toNat) (fun j => sm (fun i => c i j) n.toNat) n 0 a b) n.toNat = sm (fun k => if k = a - n then v - sm (fun i => c i (a - n)) n.toNat else 0) n.toNat :=
        sm_cg (fun k k1 k2 => by
          unfold tg; rw [if_neg r1, if_pos (by omega)]
          by_cases q : k = a - n
          · rw [if_pos (by omega), if_pos q, q]
          · rw [if_neg (by omega), if_neg q])
      have e2 : sm (fun k => tg n v c (fun i => sm (fun j => c i j) n.toNat) (fun j => sm (fun i => c i j) n.toNat) n 0 a (n + k)) n.toNat = sm (fun i => c i (a - n)) n.toNat :=
        sm_cg (fun k k1 k2 => by unfold tg; rw [if_neg r1, if_neg (by omega), if_pos (by omega), show n + k - n = k by omega])
      rw [e1, e2, sm_one _ (by omega) (by omega)]
      omega
  · rw [en, sm_add, en2]
    by_cases r1 : b < n
    · have e1 : sm (fun a => tg n v c (fun i => sm (fun j => c i j) n.toNat) (fun j => sm (fun i => c i j) n.toNat) n 0 a b) n.toNat = sm (fun i => c i b) n.toNat :=
        sm_cg (fun k k1 k2 => by unfold tg; rw [if_pos (by omega), if_pos r1, if_pos (by omega)])
      have e2 : sm (fun k => tg n v c (fun i => sm (fun j => c i j) n.toNat) (fun j => sm (fun i => c i j) n.toNat) n 0 (n + k) b) n.toNat = sm (fun k => if k = b then v - sm (fun i => c i b) n.toNat else 0) n.toNat :=
        sm_cg (fun k k1 k2 => by
          unfold tg; rw [if_neg (by omega), if_pos r1]
          by_cases q : k = b
          · rw [if_pos (by omega), if_pos q]
          · rw [if_neg (by omega), if_neg q])
      rw [e1, e2, sm_one _ b1 (by omega)]
      omega
    · have e1 : sm (fun a => tg n v c (fun i => sm (fun j => c i j) n.toNat) (fun j => sm (fun i => c i j) n.toNat) n 0 a b) n.toNat = sm (fun k => if k = b - n then v - sm (fun j => c (b - n) j) n.toNat else 0) n.toNat :=
        sm_cg (fun k k1 k2 => by
          unfold tg; rw [if_pos (by omega), if_neg r1]
          by_cases q : k = b - n
          · rw [if_pos (by omega), if_pos q, q]
          · rw [if_neg (by omega), if_neg q])
      have e2 : sm (fun k => tg n v c (fun i => sm (fun j => c i j) n.toNat) (fun j => sm (fun i => c i j) n.toNat) n 0 (n + k) b) n.toNat = sm (fun j => c (b - n) j) n.toNat :=
        sm_cg (fun k k1 k2 => by unfold tg; rw [if_neg (by omega), if_neg r1, if_pos (by omega), show n + k - n = k by omega])
      rw [e1, e2, sm_one _ (by omega) (by omega)]
      omega
theorem EvW_cg {n m : Int} {w w' : Int → Int → Int} (h : EvW n w m) (e : ∀ a b, 0 ≤ a → a < n → 0 ≤ b → b < n → w' a b = w a b) : EvW n w' m :=
  ⟨fun i j a b c d => by rw [e i j a b c d]; exact h.1 i j a b c d, fun i a b => by rw [← h.2.1 i a b]; exact sm_cg (fun k c d => e i k a b c (by omega)), fun j a b => by rw [← h.2.2 j a b]; exact sm_cg (fun k c d => e k j c (by omega) a b)⟩
theorem wk_up {σ : eS} {N a b z a' b' : Int} (hN : σ 0 22 = N) (hN1 : 1 ≤ N ∧ N ≤ 8) (hb : 0 ≤ b ∧ b < N) (hb' : 0 ≤ b' ∧ b' < N) : wk (up σ 9 (N * a + b) z) a' b' = if a' = a ∧ b' = b then z else wk σ a' b' := by
  unfold wk
  rw [up_ne _ _ _ _ (show (0 : Nat) ≠ 9 by decide), hN, up_if]
  by_cases q : a' = a ∧ b' = b
  · rw [if_pos q, if_pos ⟨rfl, by rw [q.1, q.2]⟩]
  · rw [if_neg q, if_neg (fun y => q (ix_inj hN1 hb' hb y.2))]
end
section
theorem cnt_ex {σ : eS} {s : Int} (hn : 0 ≤ σ 1 s ∧ σ 1 s ≤ 8) (h : ¬ cntB σ s = 0) : ∃ i j, 0 ≤ i ∧ i < σ 1 s ∧ 0 ≤ j ∧ j < σ 1 s ∧ 0 < cB σ s i j := by
  obtain ⟨k, a, b, c⟩ := sm_ex h
  have c' : 0 < σ 3 (64 * s + k) := by
    by_cases q : 0 < σ 3 (64 * s + k)
    · exact q
    · exact absurd (if_neg q) c
  have q8 := sq8 hn
  obtain ⟨n, en⟩ : ∃ n, n = σ 1 s := ⟨_, rfl⟩
  have hn0 : n ≠ 0 := by
    intro q
    rw [← en, q] at b
    simp at b
    omega
  rw [← en] at hn b q8
  have g1 := Int.mul_ediv_add_emod k n
  have g2 := Int.emod_nonneg k hn0
  have g3 := Int.emod_lt_of_pos k (by omega : 0 < n)
  have g4 : k / n < n := Int.ediv_lt_of_lt_mul (by omega) (by omega)
  have g5 : 0 ≤ k / n := Int.ediv_nonneg a (by omega)
  refine ⟨k / n, k % n, g5, by omega, g2, by omega, ?_⟩
  unfold cB
  rw [← en, show 64 * s + n * (k / n) + k % n = 64 * s + k by omega]
  exact c'
end
section
theorem iK.two {σ : eS} (h : iK σ) (q : σ 0 30 = 2) : 1 ≤ σ 0 27 ∧ 1 ≤ σ 0 31 ∧ σ 0 31 ≤ 4 ∧ σ 0 28 = 2 * σ 0 31 := h.2.2.2.2.2.2.2.2 q
theorem s_Mo_isJob {σ : eS} {j : Int} (h : iK σ) : MtI shB M_Mo_isJob [vr 0, vi j] σ (fun σ' z => σ' = σ ∧ ((z = 1 ∧ σ 0 30 = 2 ∧ 0 ≤ j ∧ j < σ 0 31) ∨ (z = 0 ∧ ¬ (σ 0 30 = 2 ∧ 0 ≤ j ∧ j < σ 0 31)))) := by
  refine Mt.of okM_Mo_isJob (Nat.le_of_ble_eq_true rfl) (fun hk hg => ?_)
  refine ok_aload_n 0 rfl rfl rfl (ok_getI 1 rfl rfl fl_X12_282 rfl rfl (Or.inl rfl) (ok_iconst 2 rfl rfl (by decide) (ok_icmp_ne 3 28 rfl rfl rfl (fun h5 => ?_) (fun h5 => ?_))))
  · refine ok_iconst 16 rfl rfl (by decide) (ok_zret 17 rfl rfl rfl (by first | omega | (simp [up_if]; omega) | (simp [up_if] at *; omega)) ?_)
    exact ⟨_, rfl, rfl, by omega⟩
  · have t := h.two (by omega)
    refine ok_iload_n 4 rfl rfl rfl (ok_i2l 5 rfl rfl (ok_lconst (w := 0) 6 rfl rfl rfl (by decide) (ok_aload_n 7 rfl rfl rfl (ok_getI 8 rfl rfl fl_X12_363 rfl rfl (Or.inl rfl) (ok_iconst 9 rfl rfl (by decide) (ok_isub 10 rfl rfl (by first | omega | (simp [up_if]; omega) | (simp [up_if] at *; omega)) (ok_i2l 11 rfl rfl (ok_callSI (M' := M_Mo_isIn) (as := [_, _, _]) 12 rfl rfl ml_X12_99 (s_Mo_isIn_r) ⟨Nat.le_of_ble_eq_true rfl, Nat.le_of_ble_eq_true rfl⟩ rfl (Nat.le_of_ble_eq_true rfl) (fun σ' z hz => ?_)))))))))
    obtain ⟨hs_, hz⟩ := hz
    rw [hs_]; clear hs_ σ'
    refine ok_if_eq 13 28 rfl rfl rfl (fun h21 => ?_) (fun h21 => ?_)
    · refine ok_iconst 16 rfl rfl (by decide) (ok_zret 17 rfl rfl rfl (by first | omega | (simp [up_if]; omega) | (simp [up_if] at *; omega)) ?_)
      exact ⟨_, rfl, rfl, by omega⟩
    · refine ok_iconst 14 rfl rfl (by decide) (ok_goto 15 29 rfl rfl rfl (ok_zret 17 rfl rfl rfl (by first | omega | (simp [up_if]; omega) | (simp [up_if] at *; omega)) ?_))
      exact ⟨_, rfl, rfl, by omega⟩
theorem s_Mo_job {σ : eS} {j w : Int} (h : iK σ) : MtI shB M_Mo_job [vr 0, vi j, vi w] σ (fun σ' _ => σ' = σ) := by
  refine Mt.of okM_Mo_job (Nat.le_of_ble_eq_true rfl) (fun hk hg => ?_)
  obtain ⟨k1, k2, k3, k4, k5, k6, -⟩ := id h
  refine ok_aload_n 0 rfl rfl rfl (ok_iload_n 1 rfl rfl rfl (ok_callVI (M' := M_Mo_isJob) (as := [_]) 2 rfl rfl ml_X12_366 (s_Mo_isJob h) rfl rfl (Nat.le_of_ble_eq_true rfl) ⟨Nat.le_of_ble_eq_true rfl, Nat.le_of_ble_eq_true rfl⟩ rfl (Nat.le_of_ble_eq_true rfl) (fun σ' z1 a1 => ?_)))
  obtain ⟨hs_, a1⟩ := a1
  rw [hs_]; clear hs_ σ'
  refine ok_if_eq 3 20 rfl rfl rfl (fun h5 => ?_) (fun h5 => ?_)
  · refine ok_iconst 10 rfl rfl (by decide) (ok_iret 11 rfl rfl rfl ?_)
    exact ⟨_, rfl, rfl⟩
  · refine ok_iload_n 4 rfl rfl rfl (ok_i2l 5 rfl rfl (ok_lconst (w := 0) 6 rfl rfl rfl (by decide) (ok_ldc2 7 (2) rfl rfl kc_X12_306 (by decide) (ok_callSI (M' := M_Mo_isIn) (as := [_, _, _]) 8 rfl rfl ml_X12_99 (s_Mo_isIn_r) ⟨Nat.le_of_ble_eq_true rfl, Nat.le_of_ble_eq_true rfl⟩ rfl (Nat.le_of_ble_eq_true rfl) (fun σ' z2 a2 => ?_)))))
    obtain ⟨hs_, a2⟩ := a2
    rw [hs_]; clear hs_ σ'
    refine ok_if_ne 9 22 rfl rfl rfl (fun h17 => ?_) (fun h17 => ?_)
    · refine ok_iconst 12 rfl rfl (by decide) (ok_ist3 13 rfl rfl rfl (ok_iconst 14 rfl rfl (by decide) (ok_ist4 15 rfl rfl rfl (ok_iconst 16 rfl rfl (by decide) (ok_ist5 17 rfl rfl rfl (ok_iconst 18 rfl rfl (by decide) (ok_ist6 19 rfl rfl rfl (ok_iconst 20 rfl rfl (by decide) (ok_ist7 21 rfl rfl rfl (ok_iconst 22 rfl rfl (by decide) (ok_ist8 23 rfl rfl rfl ?_)))))))))))
      have r1 := yes1 a1 h5
      have r3 := h.two r1.1
      refine lpO3 (fun (x p : Int) (y : Int × Int × Int × Int) => [some (vr 0), some (vi j), some (vi w), some (vi x), some (vi y.1), some (vi y.2.1), some (vi y.2.2.1), some (vi y.2.2.2), some (vi p), none]) (fun _ _ _ => σ) (fun x p y => 0 ≤ p ∧ p ≤ σ 0 27 ∧ x = sm (fun q => σ 12 q) p.toNat ∧ 0 ≤ y.2.1 ∧ y.2.1 ≤ p ∧ 0 ≤ y.2.2.1 ∧ y.2.2.1 ≤ p) (fun _ p _ => (64 - p).toNat) ?_ 0 0 (0, 0, 0, -1) ⟨by omega, by omega, rfl, by decide, by decide, by decide, by decide⟩
      rintro x p ⟨y1, y2, y3, y4⟩ ⟨p1, p2, xe, c1, c2, c3, c4⟩ ih
      dsimp only at c1 c2 c3 c4 ⊢
      obtain ⟨w3, w4⟩ := wt_sum h p1 p2
      refine ok_iload 24 rfl rfl rfl (ok_aload_n 25 rfl rfl rfl (ok_getI 26 rfl rfl fl_X12_273 rfl rfl (Or.inl rfl) (ok_icmp_ge 27 126 rfl rfl rfl (fun h45 => ?_) (fun h45 => ?_))))
      · refine ok_iload_n 69 rfl rfl rfl (ok_if_ne 70 135 rfl rfl rfl (fun h127 => ?_) (fun h127 => ?_))
        · refine ok_iload_n 73 rfl rfl rfl (ok_iconst 74 rfl rfl (by decide) (ok_icmp_ne 75 145 rfl rfl rfl (fun h137 => ?_) (fun h137 => ?_)))
          · refine ok_iload 78 rfl rfl rfl (ok_iret 79 rfl rfl rfl ?_)
            exact ⟨_, rfl, rfl⟩
          · refine ok_iload 76 rfl rfl rfl (ok_goto 77 147 rfl rfl rfl (ok_iret 79 rfl rfl rfl ?_))
            exact ⟨_, rfl, rfl⟩
        · refine ok_iload 71 rfl rfl rfl (ok_goto 72 147 rfl rfl rfl (ok_iret 79 rfl rfl rfl ?_))
          exact ⟨_, rfl, rfl⟩
      · obtain ⟨w1, w2⟩ := wt_le h p1 (by omega)
        have e := sm_s (fun q => σ 12 q) p1
        have w5 := (wt_sum h (k := p + 1) (by omega) (by omega)).2
        refine ok_iload_n 28 rfl rfl rfl (ok_aload_n 29 rfl rfl rfl (ok_getR 30 rfl rfl fl_X12_48 rfl rfl (ok_iload 31 rfl rfl rfl (ok_iald 32 rfl rfl rfl (by first | omega | (simp [up_if]; omega) | (simp [up_if] at *; omega)) (ok_iadd 33 rfl rfl (by first | omega | (simp [up_if]; omega) | (simp [up_if] at *; omega)) (ok_ist3 34 rfl rfl rfl (ok_aload_n 35 rfl rfl rfl (ok_getR 36 rfl rfl fl_X12_51 rfl rfl (ok_bipush 37 rfl rfl (by decide) (by decide) (ok_iload 38 rfl rfl rfl (ok_imul 39 rfl rfl (by first | omega | (simp [up_if]; omega) | (simp [up_if] at *; omega)) (ok_iload_n 40 rfl rfl rfl (ok_iadd 41 rfl rfl (by first | omega | (simp [up_if]; omega) | (simp [up_if] at *; omega)) (ok_iald 42 rfl rfl rfl (by first | omega | (simp [up_if]; omega) | (simp [up_if] at *; omega)) (ok_ist9 43 rfl rfl rfl (ok_iload 44 rfl rfl rfl (ok_aload_n 45 rfl rfl rfl (ok_getI 46 rfl rfl fl_X12_363 rfl rfl (Or.inl rfl) (ok_icmp_lt 47 84 rfl rfl rfl (fun h78 => ?_) (fun h78 => ?_))))))))))))))))))))
        · refine ok_iload_n 49 rfl rfl rfl (ok_ist4 50 rfl rfl rfl (ok_inc5 51 rfl rfl rfl (by first | omega | (simp [up_if]; omega) | (simp [up_if] at *; omega)) (ok_iload 52 rfl rfl rfl (ok_iload 53 rfl rfl rfl (ok_iconst 54 rfl rfl (by decide) (ok_icmp_eq 55 109 rfl rfl rfl (fun h95 => ?_) (fun h95 => ?_)))))))
          · refine ok_iconst 61 rfl rfl (by decide) (ok_callSI (M' := M_Mo_one) (as := [_]) 62 rfl rfl ml_X12_192 (s_Mo_one) ⟨Nat.le_of_ble_eq_true rfl, Nat.le_of_ble_eq_true rfl⟩ rfl (Nat.le_of_ble_eq_true rfl) (fun σ' z hz => ?_))
            obtain ⟨hs_, hz⟩ := hz
            rw [hs_]; clear hs_ σ'
            have q1 : 0 ≤ z ∧ z ≤ 1 := by rw [hz]; split <;> omega
            refine ok_iadd 63 rfl rfl (by first | omega | (simp [up_if]; omega) | (simp [up_if] at *; omega)) (ok_ist6 64 rfl rfl rfl (ok_iload 65 rfl rfl rfl (ok_ist7 66 rfl rfl rfl (ok_inc8 67 rfl rfl rfl (by first | omega | (simp [up_if]; omega) | (simp [up_if] at *; omega)) (ok_goto 68 39 rfl rfl rfl ?_)))))
            exact ok_fg [some (vr 0), some (vi j), some (vi w), some (vi _), some (vi _), some (vi _), some (vi _), some (vi _), some (vi _), none] ⟨rfl, rfl, rfl, rfl, rfl, rfl, rfl, rfl, rfl, trivial⟩ (ih _ (p + 1) (_, _, _, _) ⟨by omega, by omega, by omega, by dsimp only; omega, by dsimp only; omega, by dsimp only; omega, by dsimp only; omega⟩ (by omega))
          · refine ok_iload 56 rfl rfl rfl (ok_iload 57 rfl rfl rfl (ok_icmp_eq 58 109 rfl rfl rfl (fun h102 => ?_) (fun h102 => ?_)))
            · refine ok_iconst 61 rfl rfl (by decide) (ok_callSI (M' := M_Mo_one) (as := [_]) 62 rfl rfl ml_X12_192 (s_Mo_one) ⟨Nat.le_of_ble_eq_true rfl, Nat.le_of_ble_eq_true rfl⟩ rfl (Nat.le_of_ble_eq_true rfl) (fun σ' z hz => ?_))
              obtain ⟨hs_, hz⟩ := hz
              rw [hs_]; clear hs_ σ'
              have q1 : 0 ≤ z ∧ z ≤ 1 := by rw [hz]; split <;> omega
              refine ok_iadd 63 rfl rfl (by first | omega | (simp [up_if]; omega) | (simp [up_if] at *; omega)) (ok_ist6 64 rfl rfl rfl (ok_iload 65 rfl rfl rfl (ok_ist7 66 rfl rfl rfl (ok_inc8 67 rfl rfl rfl (by first | omega | (simp [up_if]; omega) | (simp [up_if] at *; omega)) (ok_goto 68 39 rfl rfl rfl ?_)))))
              exact ok_fg [some (vr 0), some (vi j), some (vi w), some (vi _), some (vi _), some (vi _), some (vi _), some (vi _), some (vi _), none] ⟨rfl, rfl, rfl, rfl, rfl, rfl, rfl, rfl, rfl, trivial⟩ (ih _ (p + 1) (_, _, _, _) ⟨by omega, by omega, by omega, by dsimp only; omega, by dsimp only; omega, by dsimp only; omega, by dsimp only; omega⟩ (by omega))
            · refine ok_iconst 59 rfl rfl (by decide) (ok_goto 60 110 rfl rfl rfl (ok_callSI (M' := M_Mo_one) (as := [_]) 62 rfl rfl ml_X12_192 (s_Mo_one) ⟨Nat.le_of_ble_eq_true rfl, Nat.le_of_ble_eq_true rfl⟩ rfl (Nat.le_of_ble_eq_true rfl) (fun σ' z hz => ?_)))
              obtain ⟨hs_, hz⟩ := hz
              rw [hs_]; clear hs_ σ'
              have q1 : 0 ≤ z ∧ z ≤ 1 := by rw [hz]; split <;> omega
              refine ok_iadd 63 rfl rfl (by first | omega | (simp [up_if]; omega) | (simp [up_if] at *; omega)) (ok_ist6 64 rfl rfl rfl (ok_iload 65 rfl rfl rfl (ok_ist7 66 rfl rfl rfl (ok_inc8 67 rfl rfl rfl (by first | omega | (simp [up_if]; omega) | (simp [up_if] at *; omega)) (ok_goto 68 39 rfl rfl rfl ?_)))))
              exact ok_fg [some (vr 0), some (vi j), some (vi w), some (vi _), some (vi _), some (vi _), some (vi _), some (vi _), some (vi _), none] ⟨rfl, rfl, rfl, rfl, rfl, rfl, rfl, rfl, rfl, trivial⟩ (ih _ (p + 1) (_, _, _, _) ⟨by omega, by omega, by omega, by dsimp only; omega, by dsimp only; omega, by dsimp only; omega, by dsimp only; omega⟩ (by omega))
        · refine ok_goto 48 120 rfl rfl rfl (ok_inc8 67 rfl rfl rfl (by first | omega | (simp [up_if]; omega) | (simp [up_if] at *; omega)) (ok_goto 68 39 rfl rfl rfl ?_))
          exact ok_fg [some (vr 0), some (vi j), some (vi w), some (vi _), some (vi _), some (vi _), some (vi _), some (vi _), some (vi _), none] ⟨rfl, rfl, rfl, rfl, rfl, rfl, rfl, rfl, rfl, trivial⟩ (ih _ (p + 1) (_, _, _, _) ⟨by omega, by omega, by omega, by dsimp only; omega, by dsimp only; omega, by dsimp only; omega, by dsimp only; omega⟩ (by omega))
    · refine ok_iconst 10 rfl rfl (by decide) (ok_iret 11 rfl rfl rfl ?_)
      exact ⟨_, rfl, rfl⟩
theorem s_Mo_isLeast {σ : eS} {w : Int} : MtI shB M_Mo_isLeast [vi w] σ (fun σ' z => σ' = σ ∧ ((z = 1 ∧ 0 ≤ w ∧ w ≤ 99999999) ∨ (z = 0 ∧ ¬ (0 ≤ w ∧ w ≤ 99999999)))) := by
  refine Mt.of okM_Mo_isLeast (Nat.le_of_ble_eq_true rfl) (fun hk hg => ?_)
  refine ok_iload_n 0 rfl rfl rfl (ok_i2l 1 rfl rfl (ok_lconst (w := 0) 2 rfl rfl rfl (by decide) (ok_ldc2 3 (99999999) rfl rfl kc_X12_95 (by decide) (ok_callSI (M' := M_Mo_isIn) (as := [_, _, _]) 4 rfl rfl ml_X12_99 (s_Mo_isIn_r) ⟨Nat.le_of_ble_eq_true rfl, Nat.le_of_ble_eq_true rfl⟩ rfl (Nat.le_of_ble_eq_true rfl) (fun σ' z hz => ?_)))))
  obtain ⟨hs_, hz⟩ := hz
  rw [hs_]; clear hs_ σ'
  refine ok_zret 5 rfl rfl rfl (by omega) ?_
  exact ⟨_, rfl, rfl, hz⟩
end
section
abbrev rgW : Nat → Int → Prop := fun c k => c = 23 ∨ (c = 0 ∧ k = 42)
def tn (e : Int) : Int := if e < 0 then 0 else if e = 0 then 1 else if e = 1 then 10 else if e = 2 then 100 else if e = 3 then 1000 else if e = 4 then 10000 else if e = 5 then 100000 else if e = 6 then 1000000 else if e = 7 then 10000000 else if e = 8 then 100000000 else 1000000000
theorem tn_s {e : Int} (h : 0 ≤ e ∧ e ≤ 8) : tn e * 10 = tn (e + 1) ∧ 1 ≤ tn e ∧ tn e ≤ 100000000 := by
  rcases (show e = 0 ∨ e = 1 ∨ e = 2 ∨ e = 3 ∨ e = 4 ∨ e = 5 ∨ e = 6 ∨ e = 7 ∨ e = 8 by omega) with q | q | q | q | q | q | q | q | q <;> subst q <;> exact ⟨rfl, by decide, by decide⟩
theorem tn_d {e : Int} (h : 0 ≤ e ∧ e ≤ 8) : tn e / 10 = tn (e - 1) := by
  rcases (show e = 0 ∨ e = 1 ∨ e = 2 ∨ e = 3 ∨ e = 4 ∨ e = 5 ∨ e = 6 ∨ e = 7 ∨ e = 8 by omega) with q | q | q | q | q | q | q | q | q <;> subst q <;> rfl
theorem tn_8 : tn 8 = 100000000 := rfl
theorem tn_n {e : Int} (h : 1 ≤ tn e) : 0 ≤ e := by
  by_cases q : e < 0
  · unfold tn at h
    rw [if_pos q] at h
    omega
  · omega
end
section
theorem bit_x : ∀ s : Fin 256, ∀ j : Fin 8, bt (s.val : Int) (j.val : Int) = true → 0 ≤ ixor (s.val : Int) (ishl 1 (j.val : Int)) ∧ ixor (s.val : Int) (ishl 1 (j.val : Int)) < (s.val : Int) := by decide +kernel
theorem bitX {s j : Int} (h1 : 0 ≤ s ∧ s < 256) (h2 : 0 ≤ j ∧ j < 8) (h : bt s j = true) : 0 ≤ ixor s (ishl 1 j) ∧ ixor s (ishl 1 j) < s := fin2 (P := fun s j => bt s j = true → 0 ≤ ixor s (ishl 1 j) ∧ ixor s (ishl 1 j) < s) bit_x h1.1 h1.2 h2.1 h2.2 h
theorem Qch.fr1 {σ σ' : eS} {n z : Int} {op : Int → Int → Prop} (h : Qch σ n op σ' z) : fr rgS σ σ' := by
  rcases h with q | q
  · exact q.2.2.mono (fun c k y => by simp only [rgS]; omega)
  · exact q.2.2.1.mono (fun c k y => by simp only [rgS]; omega)
end
section
abbrev rgU : Nat → Int → Prop := fun c _ => c = 20
theorem mul_le_div {v p X : Int} (hv : 0 < v) (h : p ≤ X / v) : v * p ≤ X := by
  have a := Int.mul_le_mul_of_nonneg_left h (Int.le_of_lt hv)
  have b := Int.mul_ediv_add_emod X v
  have c := Int.emod_nonneg X (by omega : v ≠ 0)
  omega
theorem wo_bd {σ : eS} {s : Int} (hB : iB1 σ) (ht : tabB σ s) : nW (wo σ s (σ 1 s) (σ 1 s * σ 1 s)) ∧ wBd (wo σ s (σ 1 s) (σ 1 s * σ 1 s)) := by
  obtain ⟨u1, u2, u3⟩ := ht
  have tn := (hB.1 s u1 u2).2.1
  have e : wo σ s (σ 1 s) (σ 1 s * σ 1 s) 0 22 = σ 1 s := by simp [wo]
  refine ⟨⟨by omega, by omega⟩, fun i j a b c d => ?_⟩
  rw [e] at b d
  rw [wo_wk ⟨by omega, tn⟩ rfl ⟨a, b⟩ ⟨c, d⟩]
  have := cB_bd hB ⟨u1, u2⟩ ⟨a, b⟩ ⟨c, d⟩
  omega
end
section
def bz (ρ : eS) (m : Int) : Prop := ∀ k, 0 ≤ k → k < m → ρ 22 k = 0 ∨ ρ 22 k = 1
abbrev rgX : Nat → Int → Prop := fun c _ => c = 21 ∨ c = 22
end
section
theorem wr_q (z : Int) : ∃ q : Int, wr z = z + 4294967296 * q ∧ -2147483648 ≤ wr z ∧ wr z ≤ 2147483647 := by
  have e : wr z = z.bmod 4294967296 := Int32.toInt_ofInt
  rw [e, Int.bmod_def]
  have g := Int.mul_ediv_add_emod z 4294967296
  have g1 := Int.emod_nonneg z (by decide : (4294967296 : Int) ≠ 0)
  have g2 := Int.emod_lt_of_pos z (by decide : (0 : Int) < 4294967296)
  by_cases q : z % ((4294967296 : Nat) : Int) < (((4294967296 : Nat) : Int) + 1) / 2
  · rw [if_pos q]
    exact ⟨-(z / 4294967296), by omega, by omega, by omega⟩
  · rw [if_neg q]
    exact ⟨-(z / 4294967296) - 1, by omega, by omega, by omega⟩
theorem wr_add (a b : Int) : wr (wr a + b) = wr (a + b) := by
  obtain ⟨q1, h1, h2, h3⟩ := wr_q a
  obtain ⟨q2, h4, h5, h6⟩ := wr_q (a + b)
  obtain ⟨q3, h7, h8, h9⟩ := wr_q (wr a + b)
  omega
theorem wr_sub {a b : Int} (h : -2147483648 ≤ a - b ∧ a - b ≤ 2147483647) : wr (wr a - wr b) = a - b := by
  obtain ⟨q1, h1, h2, h3⟩ := wr_q a
  obtain ⟨q2, h4, h5, h6⟩ := wr_q b
  obtain ⟨q3, h7, h8, h9⟩ := wr_q (wr a - wr b)
  omega
theorem fl_sum {f : Int → Int} {b : Int} (hb : 1 ≤ b) : ∀ {n : Nat}, (∀ k : Int, 0 ≤ k → k < n → 0 ≤ f k) → b * sm (fun k => f k / b) n ≤ sm f n ∧ sm f n ≤ b * sm (fun k => f k / b) n + n * (b - 1)
  | 0, _ => by simp [sm]
  | n + 1, h => by
    have ih := fl_sum hb (n := n) (fun k a c => h k a (by omega))
    have g := Int.mul_ediv_add_emod (f n) b
    have g1 := Int.emod_nonneg (f n) (by omega : b ≠ 0)
    have g2 := Int.emod_lt_of_pos (f n) (by omega : 0 < b)
    have e1 : sm f (n + 1) = sm f n + f n := rfl
    have e2 : sm (fun k => f k / b) (n + 1) = sm (fun k => f k / b) n + f n / b := rfl
    rw [e1, e2, Int.mul_add, show ((n + 1 : Nat) : Int) * (b - 1) = n * (b - 1) + (b - 1) by rw [Int.natCast_add, Int.add_mul]; simp]
    omega
theorem fl_div {b g X m : Int} (hb : 1 ≤ b) (hm : 0 ≤ m) (h1 : b * g ≤ X) (h2 : X ≤ b * g + m * (b - 1)) : (g ≤ X / b ∧ X / b ≤ g + m) ∧ g ≤ (X + b - 1) / b ∧ (X + b - 1) / b ≤ g + m := by
  have e1 : b * g = g * b := Int.mul_comm _ _
  have e2 : (g + m + 1) * b = g * b + m * b + b := by rw [Int.add_mul, Int.add_mul, Int.one_mul]
  have e3 : m * (b - 1) = m * b - m := by rw [Int.mul_sub, Int.mul_one]
  have c1 : X / b < g + m + 1 := Int.ediv_lt_of_lt_mul (by omega) (by omega)
  have c2 : (X + b - 1) / b < g + m + 1 := Int.ediv_lt_of_lt_mul (by omega) (by omega)
  have c3 : g ≤ X / b := Int.le_ediv_of_mul_le (by omega) (by omega)
  have c4 : g ≤ (X + b - 1) / b := Int.le_ediv_of_mul_le (by omega) (by omega)
  omega
theorem s_Mo_cut {σ : eS} {x b : Int} (hx : 0 ≤ x) (hb : 1 ≤ b) : MtI shB M_Mo_cut [vl x, vi b] σ (fun σ' z => σ' = σ ∧ z = wr (x / b)) := by
  refine Mt.of okM_Mo_cut (Nat.le_of_ble_eq_true rfl) (fun hk hg => ?_)
  refine ok_lload_n 0 rfl rfl rfl (ok_iload_n 1 rfl rfl rfl (ok_i2l 2 rfl rfl (ok_ldiv 3 rfl rfl (by first | omega | (simp [up_if]; omega) | (simp [up_if] at *; omega)) (by first | omega | (simp [up_if]; omega) | (simp [up_if] at *; omega)) (ok_l2iW 4 rfl rfl (ok_iret 5 rfl rfl rfl ?_)))))
  exact ⟨_, rfl, rfl, rfl⟩
theorem s_Mo_up {σ : eS} {x b : Int} (hx : 0 ≤ x ∧ x ≤ 99999999999) (hb : 1 ≤ b ∧ b ≤ 999999) : MtI shB M_Mo_up [vl x, vi b] σ (fun σ' z => σ' = σ ∧ z = wr ((x + b - 1) / b)) := by
  refine Mt.of okM_Mo_up (Nat.le_of_ble_eq_true rfl) (fun hk hg => ?_)
  refine ok_lload_n 0 rfl rfl rfl (ok_iload_n 1 rfl rfl rfl (ok_i2l 2 rfl rfl (ok_ladd 3 rfl rfl (by first | omega | (simp [up_if]; omega) | (simp [up_if] at *; omega)) (ok_lconst (w := 1) 4 rfl rfl rfl (by decide) (ok_lsub 5 rfl rfl (by first | omega | (simp [up_if]; omega) | (simp [up_if] at *; omega)) (ok_iload_n 6 rfl rfl rfl (ok_i2l 7 rfl rfl (ok_ldiv 8 rfl rfl (by first | omega | (simp [up_if]; omega) | (simp [up_if] at *; omega)) (by first | omega | (simp [up_if]; omega) | (simp [up_if] at *; omega)) (ok_l2iW 9 rfl rfl (ok_iret 10 rfl rfl rfl ?_))))))))))
  exact ⟨_, rfl, rfl, rfl⟩
abbrev rgH : Nat → Int → Prop := fun c _ => c = 15 ∨ c = 16
def lhB (σ : eS) (n : Int) : Prop := ∀ k, ((0 ≤ k ∧ k < n) ∨ (8 ≤ k ∧ k < 8 + n)) → 0 ≤ σ 15 k ∧ σ 15 k ≤ 8 ∧ 0 ≤ σ 16 k ∧ σ 16 k ≤ 8
def lhT (σ : eS) : Prop := 0 ≤ σ 15 16 ∧ σ 15 16 ≤ 64 ∧ 0 ≤ σ 16 16 ∧ σ 16 16 ≤ 64
theorem up15 (σ : eS) (k z j : Int) : up σ 15 k z 2 j = σ 2 j := up_ne _ _ _ _ (by decide)
theorem up16 (σ : eS) (k z j : Int) : up σ 16 k z 2 j = σ 2 j := up_ne _ _ _ _ (by decide)
theorem s_Mo_laysBounds {σ : eS} {s : Int} (hB : iB1 σ) (ht : tabB σ s) : MtV shB M_Mo_laysBounds [vr 0, vi s] σ (fun σ' => fr rgH σ σ' ∧ lhB σ' (σ 1 s) ∧ lhT σ') := by
  refine Mt.of okM_Mo_laysBounds (Nat.le_of_ble_eq_true rfl) (fun hk hg => ?_)
  obtain ⟨u1, u2, u3⟩ := ht
  have tn := hB.1 s u1 u2
  obtain ⟨n, en⟩ : ∃ n, n = σ 1 s := ⟨_, rfl⟩
  obtain ⟨b, eb⟩ : ∃ b, b = σ 2 s := ⟨_, rfl⟩
  have hb : 1 ≤ b ∧ b ≤ 999999 := by have := tn.2.2 (by omega); omega
  have n1 : 1 ≤ n ∧ n ≤ 8 := by omega
  rw [← en]
  have E : ∀ τ : eS, fr rgH σ τ → iB1 τ ∧ τ 1 s = n ∧ cB τ s = cB σ s ∧ rowB τ s = rowB σ s ∧ colB τ s = colB σ s := fun τ g => by
    have e1 : ∀ k, τ 1 k = σ 1 k := fun k => g 1 k (by simp [rgH])
    have e3 : ∀ k, τ 3 k = σ 3 k := fun k => g 3 k (by simp [rgH])
    refine ⟨iB1_frS hB g (fun c k q => by simp only [rgH]; omega), by rw [e1, en], ?_, ?_, ?_⟩
    · funext a b; unfold cB; rw [e1, e3]
    · funext a; unfold rowB cB; simp only [e1, e3]
    · funext a; unfold colB cB; simp only [e1, e3]
  have A : ∀ (τ : eS) (i j : Int), fr rgH σ τ → 0 ≤ i ∧ i < n → 0 ≤ j ∧ j < n → MtI shB M_Mo_at [vr 0, vi s, vi i, vi j] τ (fun σ' z => σ' = τ ∧ z = cB σ s i j) := fun τ i j g hi hj => by
    obtain ⟨x1, x2, x3, x4, x5⟩ := E τ g
    rw [← x3]; exact s_Mo_at x1 ⟨u1, u2⟩ (by rw [x2]; exact hi) (by rw [x2]; exact hj)
  have R : ∀ (τ : eS) (i : Int), fr rgH σ τ → 0 ≤ i ∧ i < n → MtL shB M_Mo_rowOf [vr 0, vi s, vi i] τ (fun σ' z => σ' = τ ∧ z = rowB σ s i) := fun τ i g hi => by
    obtain ⟨x1, x2, x3, x4, x5⟩ := E τ g
    rw [← x4]; exact s_Mo_rowOf x1 ⟨u1, u2⟩ (by rw [x2]; exact hi)
  have C : ∀ (τ : eS) (i : Int), fr rgH σ τ → 0 ≤ i ∧ i < n → MtL shB M_Mo_columnOf [vr 0, vi s, vi i] τ (fun σ' z => σ' = τ ∧ z = colB σ s i) := fun τ i g hi => by
    obtain ⟨x1, x2, x3, x4, x5⟩ := E τ g
    rw [← x5]; exact s_Mo_columnOf x1 ⟨u1, u2⟩ (by rw [x2]; exact hi)
  refine ok_aload_n 0 rfl rfl rfl (ok_getR 1 rfl rfl fl_X12_7 rfl rfl (ok_iload_n 2 rfl rfl rfl (ok_iald 3 rfl rfl rfl (by first | omega | (simp [up_if]; omega) | (simp [up_if] at *; omega)) ?_)))
  rw [← en]
  refine ok_ist2 4 rfl rfl rfl (ok_lconst (w := 0) 5 rfl rfl rfl (by decide) (ok_lst3 6 rfl rfl rfl (ok_iconst 7 rfl rfl (by decide) (ok_ist5 8 rfl rfl rfl (ok_iconst 9 rfl rfl (by decide) (ok_ist6 10 rfl rfl rfl ?_))))))
  refine lpO4 (fun (t v i : Int) (_ : eS) => [some (vr 0), some (vi s), some (vi n), some (vl t), none, some (vi v), some (vi i), none, none, none]) (fun _ _ _ ρ => ρ) (fun t v i ρ => 0 ≤ i ∧ i ≤ n ∧ fr rgH σ ρ ∧ 0 ≤ t ∧ t ≤ 799999992 * i ∧ lhB ρ i ∧ ∃ G, v = wr G ∧ b * G ≤ t ∧ t ≤ b * G + 8 * i * (b - 1)) (fun _ _ i _ => (n - i).toNat) ?_ 0 0 0 σ ⟨by omega, by omega, fr.rf, by omega, by omega, fun k q => by omega, 0, rfl, by omega, by omega⟩
  rintro t v i ρ ⟨i1, i2, f, t1, t2, lb, G, ev, G1, G2⟩ ih
  have e2 : ρ 2 s = b := by rw [f 2 s (by simp [rgH]), eb]
  refine ok_iload 11 rfl rfl rfl (ok_iload_n 12 rfl rfl rfl (ok_icmp_ge 13 223 rfl rfl rfl (fun h18 => ?_) (fun h18 => ?_)))
  · have ei : i = n := by omega
    have q0 := fl_div hb.1 (show 0 ≤ 8 * i by omega) G1 G2
    obtain ⟨q1, q2⟩ := q0
    refine ok_aload_n 130 rfl rfl rfl (ok_getR 131 rfl rfl fl_X12_57 rfl rfl (ok_bipush 132 rfl rfl (by decide) (by decide) (ok_lload_n 133 rfl rfl rfl (ok_aload_n 134 rfl rfl rfl (ok_getR 135 rfl rfl fl_X12_13 rfl rfl (ok_iload_n 136 rfl rfl rfl (ok_iald 137 rfl rfl rfl (by first | omega | (simp [up_if]; omega) | (simp [up_if] at *; omega)) ?_)))))))
    rw [e2]
    refine ok_callSI (M' := M_Mo_cut) (as := [_, _]) 138 rfl rfl ml_X12_323 (s_Mo_cut t1 hb.1) ⟨Nat.le_of_ble_eq_true rfl, Nat.le_of_ble_eq_true rfl⟩ rfl (Nat.le_of_ble_eq_true rfl) (fun σ' z hz => ?_)
    rw [hz.1, hz.2]
    clear hz z σ'
    rw [ev]
    refine ok_iload 139 rfl rfl rfl (ok_isubW 140 rfl rfl ?_)
    rw [wr_sub ⟨by omega, by omega⟩]
    refine ok_iast 141 rfl rfl rfl (by first | omega | (simp [up_if]; omega) | (simp [up_if] at *; omega)) (ok_aload_n 142 rfl rfl rfl (ok_getR 143 rfl rfl fl_X12_60 rfl rfl (ok_bipush 144 rfl rfl (by decide) (by decide) (ok_lload_n 145 rfl rfl rfl (ok_aload_n 146 rfl rfl rfl (ok_getR 147 rfl rfl fl_X12_13 rfl rfl (ok_iload_n 148 rfl rfl rfl (ok_iald 149 rfl rfl rfl (by first | omega | (simp [up_if]; omega) | (simp [up_if] at *; omega)) ?_))))))))
    rw [up15, e2]
    refine ok_callSI (M' := M_Mo_up) (as := [_, _]) 150 rfl rfl ml_X12_327 (s_Mo_up ⟨by omega, by omega⟩ hb) ⟨Nat.le_of_ble_eq_true rfl, Nat.le_of_ble_eq_true rfl⟩ rfl (Nat.le_of_ble_eq_true rfl) (fun σ' z hz => ?_)
    rw [hz.1, hz.2]
    clear hz z σ'
    refine ok_iload 151 rfl rfl rfl (ok_isubW 152 rfl rfl ?_)
    rw [wr_sub ⟨by omega, by omega⟩]
    refine ok_iast 153 rfl rfl rfl (by first | omega | (simp [up_if]; omega) | (simp [up_if] at *; omega)) (ok_vret 154 rfl rfl rfl ?_)
    refine ⟨rfl, fr_up (fr_up f (by simp [rgH])) (by simp [rgH]), fun k q => ?_, ?_⟩
    · have old := lb k (by omega)
      simp only [up_if]
      rw [if_neg (by omega), if_neg (by omega), if_neg (by omega), if_neg (by omega)]
      exact old
    · unfold lhT
      simp only [up_if]
      simp
      omega
  · refine ok_iconst 14 rfl rfl (by decide) (ok_ist7 15 rfl rfl rfl (ok_iconst 16 rfl rfl (by decide) (ok_ist8 17 rfl rfl rfl (ok_iconst 18 rfl rfl (by decide) (ok_ist9 19 rfl rfl rfl ?_)))))
    have il : i < n := by omega
    refine lpO3 (fun (a c j : Int) => [some (vr 0), some (vi s), some (vi n), some (vl t), none, some (vi v), some (vi i), some (vi a), some (vi c), some (vi j)]) (fun _ _ _ => ρ) (fun a c j => 0 ≤ j ∧ j ≤ n ∧ a = sm (fun k => cB σ s i k / b) j.toNat ∧ c = sm (fun k => cB σ s k i / b) j.toNat) (fun _ _ j => (n - j).toNat) ?_ 0 0 0 ⟨by omega, by omega, rfl, rfl⟩
    rintro a c j ⟨j1, j2, ea, ec⟩ ih2
    have sa := sm_bd (f := fun k => cB σ s i k / b) (B := 99999999) (by decide) (n := j.toNat) (fun k a c => div_bd (cB_bd hB ⟨u1, u2⟩ ⟨by omega, by omega⟩ ⟨by omega, by omega⟩) hb.1)
    have sc := sm_bd (f := fun k => cB σ s k i / b) (B := 99999999) (by decide) (n := j.toNat) (fun k a c => div_bd (cB_bd hB ⟨u1, u2⟩ ⟨by omega, by omega⟩ ⟨by omega, by omega⟩) hb.1)
    rw [← ea] at sa
    rw [← ec] at sc
    refine ok_iload 20 rfl rfl rfl (ok_iload_n 21 rfl rfl rfl (ok_icmp_ge 22 90 rfl rfl rfl (fun h33 => ?_) (fun h33 => ?_)))
    · have ej : j = n := by omega
      have rb := rowB_bd hB ⟨u1, u2⟩ (i := i) ⟨by omega, by omega⟩
      have cb := colB_bd hB ⟨u1, u2⟩ (j := i) ⟨by omega, by omega⟩
      have fr1 := fl_sum (f := fun k => cB σ s i k) hb.1 (n := n.toNat) (fun k a c => (cB_bd hB ⟨u1, u2⟩ (i := i) (j := k) ⟨by omega, by omega⟩ ⟨by omega, by omega⟩).1)
      have fc1 := fl_sum (f := fun k => cB σ s k i) hb.1 (n := n.toNat) (fun k a c => (cB_bd hB ⟨u1, u2⟩ (i := k) (j := i) ⟨by omega, by omega⟩ ⟨by omega, by omega⟩).1)
      have er : sm (fun k => cB σ s i k) n.toNat = rowB σ s i := by unfold rowB; rw [en]
      have el : sm (fun k => cB σ s k i) n.toNat = colB σ s i := by unfold colB; rw [en]
      rw [er, show ((n.toNat : Nat) : Int) = n by omega] at fr1
      rw [el, show ((n.toNat : Nat) : Int) = n by omega] at fc1
      rw [ej] at ea ec
      rw [← ea] at fr1
      rw [← ec] at fc1
      obtain ⟨q1, q2⟩ := fl_div hb.1 (by omega) fr1.1 fr1.2
      obtain ⟨q3, q4⟩ := fl_div hb.1 (by omega) fc1.1 fc1.2
      have w1 := wr_id (z := rowB σ s i / b) ⟨by omega, by omega⟩
      have w2 := wr_id (z := (rowB σ s i + b - 1) / b) ⟨by omega, by omega⟩
      have w3 := wr_id (z := colB σ s i / b) ⟨by omega, by omega⟩
      have w4 := wr_id (z := (colB σ s i + b - 1) / b) ⟨by omega, by omega⟩
      clear ih2
      refine ok_aload_n 53 rfl rfl rfl (ok_getR 54 rfl rfl fl_X12_57 rfl rfl (ok_iload 55 rfl rfl rfl (ok_aload_n 56 rfl rfl rfl (ok_iload_n 57 rfl rfl rfl (ok_iload 58 rfl rfl rfl (ok_callVL (M' := M_Mo_rowOf) (as := [_, _]) 59 rfl rfl ml_X12_114 (R _ _ f ⟨by omega, by omega⟩) rfl rfl (Nat.le_of_ble_eq_true rfl) ⟨Nat.le_of_ble_eq_true rfl, Nat.le_of_ble_eq_true rfl⟩ rfl (Nat.le_of_ble_eq_true rfl) (fun σ' z hz => ?_)))))))
      rw [hz.1, hz.2]
      clear hz z σ'
      refine ok_aload_n 60 rfl rfl rfl (ok_getR 61 rfl rfl fl_X12_13 rfl rfl (ok_iload_n 62 rfl rfl rfl (ok_iald 63 rfl rfl rfl (by first | omega | (simp [up_if]; omega) | (simp [up_if] at *; omega)) ?_)))
      rw [e2]
      refine ok_callSI (M' := M_Mo_cut) (as := [_, _]) 64 rfl rfl ml_X12_323 (s_Mo_cut rb.1 hb.1) ⟨Nat.le_of_ble_eq_true rfl, Nat.le_of_ble_eq_true rfl⟩ rfl (Nat.le_of_ble_eq_true rfl) (fun σ' z hz => ?_)
      rw [hz.1, hz.2]
      clear hz z σ'
      rw [w1]
      refine ok_iload 65 rfl rfl rfl (ok_isub 66 rfl rfl (by first | omega | (simp [up_if]; omega) | (simp [up_if] at *; omega)) (ok_iast 67 rfl rfl rfl (by first | omega | (simp [up_if]; omega) | (simp [up_if] at *; omega)) (ok_aload_n 68 rfl rfl rfl (ok_getR 69 rfl rfl fl_X12_60 rfl rfl (ok_iload 70 rfl rfl rfl (ok_aload_n 71 rfl rfl rfl (ok_iload_n 72 rfl rfl rfl (ok_iload 73 rfl rfl rfl (ok_callVL (M' := M_Mo_rowOf) (as := [_, _]) 74 rfl rfl ml_X12_114 (R _ _ (fr_up f (by simp [rgH])) ⟨by omega, by omega⟩) rfl rfl (Nat.le_of_ble_eq_true rfl) ⟨Nat.le_of_ble_eq_true rfl, Nat.le_of_ble_eq_true rfl⟩ rfl (Nat.le_of_ble_eq_true rfl) (fun σ' z hz => ?_))))))))))
      rw [hz.1, hz.2]
      clear hz z σ'
      refine ok_aload_n 75 rfl rfl rfl (ok_getR 76 rfl rfl fl_X12_13 rfl rfl (ok_iload_n 77 rfl rfl rfl (ok_iald 78 rfl rfl rfl (by first | omega | (simp [up_if]; omega) | (simp [up_if] at *; omega)) ?_)))
      rw [up15, e2]
      refine ok_callSI (M' := M_Mo_up) (as := [_, _]) 79 rfl rfl ml_X12_327 (s_Mo_up ⟨by omega, by omega⟩ hb) ⟨Nat.le_of_ble_eq_true rfl, Nat.le_of_ble_eq_true rfl⟩ rfl (Nat.le_of_ble_eq_true rfl) (fun σ' z hz => ?_)
      rw [hz.1, hz.2]
      clear hz z σ'
      rw [w2]
      refine ok_iload 80 rfl rfl rfl (ok_isub 81 rfl rfl (by first | omega | (simp [up_if]; omega) | (simp [up_if] at *; omega)) (ok_iast 82 rfl rfl rfl (by first | omega | (simp [up_if]; omega) | (simp [up_if] at *; omega)) (ok_aload_n 83 rfl rfl rfl (ok_getR 84 rfl rfl fl_X12_57 rfl rfl (ok_bipush 85 rfl rfl (by decide) (by decide) (ok_iload 86 rfl rfl rfl (ok_iadd 87 rfl rfl (by first | omega | (simp [up_if]; omega) | (simp [up_if] at *; omega)) (ok_aload_n 88 rfl rfl rfl (ok_iload_n 89 rfl rfl rfl (ok_iload 90 rfl rfl rfl (ok_callVL (M' := M_Mo_columnOf) (as := [_, _]) 91 rfl rfl ml_X12_122 (C _ _ (fr_up (fr_up f (by simp [rgH])) (by simp [rgH])) ⟨by omega, by omega⟩) rfl rfl (Nat.le_of_ble_eq_true rfl) ⟨Nat.le_of_ble_eq_true rfl, Nat.le_of_ble_eq_true rfl⟩ rfl (Nat.le_of_ble_eq_true rfl) (fun σ' z hz => ?_))))))))))))
      rw [hz.1, hz.2]
      clear hz z σ'
      refine ok_aload_n 92 rfl rfl rfl (ok_getR 93 rfl rfl fl_X12_13 rfl rfl (ok_iload_n 94 rfl rfl rfl (ok_iald 95 rfl rfl rfl (by first | omega | (simp [up_if]; omega) | (simp [up_if] at *; omega)) ?_)))
      rw [up16, up15, e2]
      refine ok_callSI (M' := M_Mo_cut) (as := [_, _]) 96 rfl rfl ml_X12_323 (s_Mo_cut cb.1 hb.1) ⟨Nat.le_of_ble_eq_true rfl, Nat.le_of_ble_eq_true rfl⟩ rfl (Nat.le_of_ble_eq_true rfl) (fun σ' z hz => ?_)
      rw [hz.1, hz.2]
      clear hz z σ'
      rw [w3]
      refine ok_iload 97 rfl rfl rfl (ok_isub 98 rfl rfl (by first | omega | (simp [up_if]; omega) | (simp [up_if] at *; omega)) (ok_iast 99 rfl rfl rfl (by first | omega | (simp [up_if]; omega) | (simp [up_if] at *; omega)) (ok_aload_n 100 rfl rfl rfl (ok_getR 101 rfl rfl fl_X12_60 rfl rfl (ok_bipush 102 rfl rfl (by decide) (by decide) (ok_iload 103 rfl rfl rfl (ok_iadd 104 rfl rfl (by first | omega | (simp [up_if]; omega) | (simp [up_if] at *; omega)) (ok_aload_n 105 rfl rfl rfl (ok_iload_n 106 rfl rfl rfl (ok_iload 107 rfl rfl rfl (ok_callVL (M' := M_Mo_columnOf) (as := [_, _]) 108 rfl rfl ml_X12_122 (C _ _ (fr_up (fr_up (fr_up f (by simp [rgH])) (by simp [rgH])) (by simp [rgH])) ⟨by omega, by omega⟩) rfl rfl (Nat.le_of_ble_eq_true rfl) ⟨Nat.le_of_ble_eq_true rfl, Nat.le_of_ble_eq_true rfl⟩ rfl (Nat.le_of_ble_eq_true rfl) (fun σ' z hz => ?_))))))))))))
      rw [hz.1, hz.2]
      clear hz z σ'
      refine ok_aload_n 109 rfl rfl rfl (ok_getR 110 rfl rfl fl_X12_13 rfl rfl (ok_iload_n 111 rfl rfl rfl (ok_iald 112 rfl rfl rfl (by first | omega | (simp [up_if]; omega) | (simp [up_if] at *; omega)) ?_)))
      rw [up15, up16, up15, e2]
      refine ok_callSI (M' := M_Mo_up) (as := [_, _]) 113 rfl rfl ml_X12_327 (s_Mo_up ⟨by omega, by omega⟩ hb) ⟨Nat.le_of_ble_eq_true rfl, Nat.le_of_ble_eq_true rfl⟩ rfl (Nat.le_of_ble_eq_true rfl) (fun σ' z hz => ?_)
      rw [hz.1, hz.2]
      clear hz z σ'
      rw [w4]
      refine ok_iload 114 rfl rfl rfl (ok_isub 115 rfl rfl (by first | omega | (simp [up_if]; omega) | (simp [up_if] at *; omega)) (ok_iast 116 rfl rfl rfl (by first | omega | (simp [up_if]; omega) | (simp [up_if] at *; omega)) (ok_lload_n 117 rfl rfl rfl (ok_aload_n 118 rfl rfl rfl (ok_iload_n 119 rfl rfl rfl (ok_iload 120 rfl rfl rfl (ok_callVL (M' := M_Mo_rowOf) (as := [_, _]) 121 rfl rfl ml_X12_114 (R _ _ (fr_up (fr_up (fr_up (fr_up f (by simp [rgH])) (by simp [rgH])) (by simp [rgH])) (by simp [rgH])) ⟨by omega, by omega⟩) rfl rfl (Nat.le_of_ble_eq_true rfl) ⟨Nat.le_of_ble_eq_true rfl, Nat.le_of_ble_eq_true rfl⟩ rfl (Nat.le_of_ble_eq_true rfl) (fun σ' z hz => ?_))))))))
      rw [hz.1, hz.2]
      clear hz z σ'
      refine ok_ladd 122 rfl rfl (by first | omega | (simp [up_if]; omega) | (simp [up_if] at *; omega)) (ok_lst3 123 rfl rfl rfl (ok_iload 124 rfl rfl rfl (ok_iload 125 rfl rfl rfl (ok_iaddW 126 rfl rfl (ok_ist5 127 rfl rfl rfl (ok_inc6 128 rfl rfl rfl (by first | omega | (simp [up_if]; omega) | (simp [up_if] at *; omega)) (ok_goto 129 15 rfl rfl rfl ?_)))))))
      refine ok_fg [some (vr 0), some (vi s), some (vi n), some (vl _), none, some (vi _), some (vi (i + 1)), none, none, none] ⟨rfl, rfl, rfl, rfl, rfl, rfl, trivial⟩ (ih _ _ (i + 1) _ ⟨by omega, by omega, fr_up (fr_up (fr_up (fr_up f (by simp [rgH])) (by simp [rgH])) (by simp [rgH])) (by simp [rgH]), by omega, by omega, fun k q => ?_, G + a, by rw [ev, wr_add], ?_, ?_⟩ (by omega))
      · have old := lb k
        simp only [up_if]
        by_cases y1 : k = i
        · subst y1; simp [show ¬ (k = 8 + k) by omega]; omega
        · by_cases y2 : k = 8 + i
          · subst y2; simp; omega
          · rw [if_neg (by omega), if_neg (by omega), if_neg (by omega), if_neg (by omega), if_neg (by omega), if_neg (by omega), if_neg (by omega), if_neg (by omega)]
            exact old (by omega)
      · rw [Int.mul_add]; omega
      · have m1 : n * (b - 1) ≤ 8 * (b - 1) := Int.mul_le_mul_of_nonneg_right (by omega) (by omega)
        rw [Int.mul_add, show 8 * (i + 1) * (b - 1) = 8 * i * (b - 1) + 8 * (b - 1) by rw [Int.mul_add, Int.add_mul]; omega]
        omega
    · have d1 := div_bd (cB_bd hB ⟨u1, u2⟩ (i := i) (j := j) ⟨by omega, by omega⟩ ⟨by omega, by omega⟩) hb.1
      have d2 := div_bd (cB_bd hB ⟨u1, u2⟩ (i := j) (j := i) ⟨by omega, by omega⟩ ⟨by omega, by omega⟩) hb.1
      have d3 := cB_bd hB ⟨u1, u2⟩ (i := i) (j := j) ⟨by omega, by omega⟩ ⟨by omega, by omega⟩
      have d4 := cB_bd hB ⟨u1, u2⟩ (i := j) (j := i) ⟨by omega, by omega⟩ ⟨by omega, by omega⟩
      have w1 := wr_id (z := cB σ s i j / b) ⟨by omega, by omega⟩
      have w2 := wr_id (z := cB σ s j i / b) ⟨by omega, by omega⟩
      have s1 := sm_s (fun k => cB σ s i k / b) j1
      have s2 := sm_s (fun k => cB σ s k i / b) j1
      refine ok_iload 23 rfl rfl rfl (ok_aload_n 24 rfl rfl rfl (ok_iload_n 25 rfl rfl rfl (ok_iload 26 rfl rfl rfl (ok_iload 27 rfl rfl rfl (ok_callVI (M' := M_Mo_at) (as := [_, _, _]) 28 rfl rfl ml_X12_107 (A _ _ _ f ⟨by omega, by omega⟩ ⟨by omega, by omega⟩) rfl rfl (Nat.le_of_ble_eq_true rfl) ⟨Nat.le_of_ble_eq_true rfl, Nat.le_of_ble_eq_true rfl⟩ rfl (Nat.le_of_ble_eq_true rfl) (fun σ' z hz => ?_))))))
      rw [hz.1, hz.2]
      clear hz z σ'
      refine ok_i2l 29 rfl rfl (ok_aload_n 30 rfl rfl rfl (ok_getR 31 rfl rfl fl_X12_13 rfl rfl (ok_iload_n 32 rfl rfl rfl (ok_iald 33 rfl rfl rfl (by first | omega | (simp [up_if]; omega) | (simp [up_if] at *; omega)) ?_))))
      rw [e2]
      refine ok_callSI (M' := M_Mo_cut) (as := [_, _]) 34 rfl rfl ml_X12_323 (s_Mo_cut d3.1 hb.1) ⟨Nat.le_of_ble_eq_true rfl, Nat.le_of_ble_eq_true rfl⟩ rfl (Nat.le_of_ble_eq_true rfl) (fun σ' z hz => ?_)
      rw [hz.1, hz.2]
      clear hz z σ'
      rw [w1]
      refine ok_iadd 35 rfl rfl (by first | omega | (simp [up_if]; omega) | (simp [up_if] at *; omega)) (ok_ist7 36 rfl rfl rfl (ok_iload 37 rfl rfl rfl (ok_aload_n 38 rfl rfl rfl (ok_iload_n 39 rfl rfl rfl (ok_iload 40 rfl rfl rfl (ok_iload 41 rfl rfl rfl (ok_callVI (M' := M_Mo_at) (as := [_, _, _]) 42 rfl rfl ml_X12_107 (A _ _ _ f ⟨by omega, by omega⟩ ⟨by omega, by omega⟩) rfl rfl (Nat.le_of_ble_eq_true rfl) ⟨Nat.le_of_ble_eq_true rfl, Nat.le_of_ble_eq_true rfl⟩ rfl (Nat.le_of_ble_eq_true rfl) (fun σ' z hz => ?_))))))))
      rw [hz.1, hz.2]
      clear hz z σ'
      refine ok_i2l 43 rfl rfl (ok_aload_n 44 rfl rfl rfl (ok_getR 45 rfl rfl fl_X12_13 rfl rfl (ok_iload_n 46 rfl rfl rfl (ok_iald 47 rfl rfl rfl (by first | omega | (simp [up_if]; omega) | (simp [up_if] at *; omega)) ?_))))
      rw [e2]
      refine ok_callSI (M' := M_Mo_cut) (as := [_, _]) 48 rfl rfl ml_X12_323 (s_Mo_cut d4.1 hb.1) ⟨Nat.le_of_ble_eq_true rfl, Nat.le_of_ble_eq_true rfl⟩ rfl (Nat.le_of_ble_eq_true rfl) (fun σ' z hz => ?_)
      rw [hz.1, hz.2]
      clear hz z σ'
      rw [w2]
      refine ok_iadd 49 rfl rfl (by first | omega | (simp [up_if]; omega) | (simp [up_if] at *; omega)) (ok_ist8 50 rfl rfl rfl (ok_inc9 51 rfl rfl rfl (by first | omega | (simp [up_if]; omega) | (simp [up_if] at *; omega)) (ok_goto 52 30 rfl rfl rfl ?_)))
      exact ih2 _ _ (j + 1) ⟨by omega, by omega, by rw [s1, ea], by rw [s2, ec]⟩ (by omega)
end
section
abbrev rgC : Nat → Int → Prop := fun c _ => c = 17
def capB (σ : eS) (B : Int) : Prop := ∀ k, 0 ≤ k → k < 400 → -B ≤ σ 17 k ∧ σ 17 k ≤ B
theorem capB_mono {σ : eS} {B B' : Int} (h : capB σ B) (hb : B ≤ B') : capB σ B' := fun k a b => by have := h k a b; omega
theorem capB_up {σ : eS} {B d k z : Int} (h : capB σ B) (hd : 0 ≤ d) (hz : -(B + d) ≤ z ∧ z ≤ B + d) : capB (up σ 17 k z) (B + d) := fun q a b => by
  rw [up_if]
  by_cases y : q = k
  · rw [if_pos ⟨rfl, y⟩]; exact hz
  · rw [if_neg (fun w => y w.2)]; have := h q a b; omega
theorem s_Mo_edge {σ : eS} {f t lo hi B : Int} (hf : 0 ≤ f ∧ f ≤ 17) (ht : 0 ≤ t ∧ t ≤ 19) (hl : 0 ≤ lo ∧ lo ≤ 64) (hh : 0 ≤ hi ∧ hi ≤ 64) (hB : capB σ B) (hB1 : 0 ≤ B ∧ B ≤ 1000000) : MtV shB M_Mo_edge [vr 0, vi f, vi t, vi lo, vi hi] σ (fun σ' => fr rgC σ σ' ∧ capB σ' (B + 192)) := by
  refine Mt.of okM_Mo_edge (Nat.le_of_ble_eq_true rfl) (fun hk hg => ?_)
  have c1 := hB (20 * f + t) (by omega) (by omega)
  have h1 := capB_up (d := 64) (k := 20 * f + t) (z := σ 17 (20 * f + t) + (hi - lo)) hB (by omega) ⟨by omega, by omega⟩
  obtain ⟨τ, eτ⟩ : ∃ τ, τ = up σ 17 (20 * f + t) (σ 17 (20 * f + t) + (hi - lo)) := ⟨_, rfl⟩
  rw [← eτ] at h1
  have c2 := h1 (360 + t) (by omega) (by omega)
  have h2 := capB_up (d := 64) (k := 360 + t) (z := τ 17 (360 + t) + lo) h1 (by omega) ⟨by omega, by omega⟩
  obtain ⟨υ, eυ⟩ : ∃ υ, υ = up τ 17 (360 + t) (τ 17 (360 + t) + lo) := ⟨_, rfl⟩
  rw [← eυ] at h2
  have c3 := h2 (20 * f + 19) (by omega) (by omega)
  have h3 := capB_up (d := 64) (k := 20 * f + 19) (z := υ 17 (20 * f + 19) + lo) h2 (by omega) ⟨by omega, by omega⟩
  have f1 : fr rgC σ τ := by rw [eτ]; exact fr_up fr.rf rfl
  have f2 : fr rgC σ υ := by rw [eυ]; exact fr_up f1 rfl
  refine ok_aload_n 0 rfl rfl rfl (ok_getR 1 rfl rfl fl_X12_63 rfl rfl (ok_bipush 2 rfl rfl (by decide) (by decide) (ok_iload_n 3 rfl rfl rfl (ok_imul 4 rfl rfl (by first | omega | (simp [up_if]; omega) | (simp [up_if] at *; omega)) (ok_iload_n 5 rfl rfl rfl (ok_iadd 6 rfl rfl (by first | omega | (simp [up_if]; omega) | (simp [up_if] at *; omega)) (ok_dup2 7 rfl rfl ⟨rfl, rfl⟩ (ok_iald 8 rfl rfl rfl (by first | omega | (simp [up_if]; omega) | (simp [up_if] at *; omega)) (ok_iload 9 rfl rfl rfl (ok_iload_n 10 rfl rfl rfl (ok_isub 11 rfl rfl (by first | omega | (simp [up_if]; omega) | (simp [up_if] at *; omega)) (ok_iadd 12 rfl rfl (by first | omega | (simp [up_if]; omega) | (simp [up_if] at *; omega)) (ok_iast 13 rfl rfl rfl (by first | omega | (simp [up_if]; omega) | (simp [up_if] at *; omega)) ?_)))))))))))))
  rw [← eτ]
  refine ok_aload_n 14 rfl rfl rfl (ok_getR 15 rfl rfl fl_X12_63 rfl rfl (ok_sipush 16 rfl rfl (by decide) (by decide) (ok_iload_n 17 rfl rfl rfl (ok_iadd 18 rfl rfl (by first | omega | (simp [up_if]; omega) | (simp [up_if] at *; omega)) (ok_dup2 19 rfl rfl ⟨rfl, rfl⟩ (ok_iald 20 rfl rfl rfl (by first | omega | (simp [up_if]; omega) | (simp [up_if] at *; omega)) (ok_iload_n 21 rfl rfl rfl (ok_iadd 22 rfl rfl (by first | omega | (simp [up_if]; omega) | (simp [up_if] at *; omega)) (ok_iast 23 rfl rfl rfl (by first | omega | (simp [up_if]; omega) | (simp [up_if] at *; omega)) ?_)))))))))
  rw [← eυ]
  refine ok_aload_n 24 rfl rfl rfl (ok_getR 25 rfl rfl fl_X12_63 rfl rfl (ok_bipush 26 rfl rfl (by decide) (by decide) (ok_iload_n 27 rfl rfl rfl (ok_imul 28 rfl rfl (by first | omega | (simp [up_if]; omega) | (simp [up_if] at *; omega)) (ok_bipush 29 rfl rfl (by decide) (by decide) (ok_iadd 30 rfl rfl (by first | omega | (simp [up_if]; omega) | (simp [up_if] at *; omega)) (ok_dup2 31 rfl rfl ⟨rfl, rfl⟩ (ok_iald 32 rfl rfl rfl (by first | omega | (simp [up_if]; omega) | (simp [up_if] at *; omega)) (ok_iload_n 33 rfl rfl rfl (ok_iadd 34 rfl rfl (by first | omega | (simp [up_if]; omega) | (simp [up_if] at *; omega)) (ok_iast 35 rfl rfl rfl (by first | omega | (simp [up_if]; omega) | (simp [up_if] at *; omega)) (ok_vret 36 rfl rfl rfl ?_))))))))))))
  exact ⟨rfl, fr_up f2 rfl, capB_mono h3 (by omega)⟩
def nD (τ : eS) : Int := sm (fun v => if τ 18 v = -1 then 0 else 1) 20
def TrB (τ : eS) (tl : Int) (rk : Int → Int) : Prop := (∀ v, 0 ≤ v → v < 20 → τ 18 v ≠ -1 → 0 ≤ rk v ∧ rk v < tl ∧ 0 ≤ τ 18 v ∧ τ 18 v < 20 ∧ (v ≠ 18 → τ 18 (τ 18 v) ≠ -1 ∧ rk (τ 18 v) < rk v ∧ 0 < τ 17 (20 * τ 18 v + v))) ∧ τ 18 18 = 18 ∧ (∀ q, 0 ≤ q → q < tl → 0 ≤ τ 19 q ∧ τ 19 q < 20 ∧ τ 18 (τ 19 q) ≠ -1) ∧ nD τ = tl ∧ 1 ≤ tl
abbrev rgY : Nat → Int → Prop := fun c _ => c = 18 ∨ c = 19
theorem nD_bd (τ : eS) : 0 ≤ nD τ ∧ nD τ ≤ 20 := by
  have := sm_bd (f := fun v => if τ 18 v = -1 then (0 : Int) else 1) (B := 1) (by decide) (n := 20) (fun k _ _ => by split <;> omega)
  unfold nD
  omega
theorem nD_up {τ : eS} {v z : Int} (hv : 0 ≤ v ∧ v < 20) (h : τ 18 v = -1) (hz : z ≠ -1) (x y : Int) : nD (up (up τ 18 v z) 19 x y) = nD τ + 1 := by
  have e : nD (up (up τ 18 v z) 19 x y) = nD τ + sm (fun k => if k = v then (1 : Int) else 0) 20 := by
    have key : ∀ n : Nat, sm (fun k => if up (up τ 18 v z) 19 x y 18 k = -1 then (0 : Int) else 1) n = sm (fun k => if τ 18 k = -1 then (0 : Int) else 1) n + sm (fun k => if k = v then (1 : Int) else 0) n := by
      intro n
      induction n with
      | zero => rfl
      | succ n ih =>
        have e1 : ∀ f : Int → Int, sm f (n + 1) = sm f n + f n := fun f => rfl
        rw [e1, e1, e1, ih, up_ne _ _ _ _ (by decide), up_if]
        by_cases q : (n : Int) = v
        · rw [if_pos (⟨rfl, q⟩ : (18 : Nat) = 18 ∧ (n : Int) = v), if_neg hz, if_pos q, q, if_pos h]; omega
        · rw [if_neg (fun w => q w.2 : ¬ ((18 : Nat) = 18 ∧ (n : Int) = v)), if_neg q]; omega
    exact key 20
  rw [e, sm_one _ hv.1 (by omega)]
theorem TrB_s {τ : eS} {tl h v : Int} {rk : Int → Int} (H : TrB τ tl rk) (hh : 0 ≤ h ∧ h < tl) (hv : 0 ≤ v ∧ v < 20) (hn : τ 18 v = -1) (hc : 0 < τ 17 (20 * τ 19 h + v)) : tl < 20 ∧ ∃ rk', TrB (up (up τ 18 v (τ 19 h)) 19 tl v) (tl + 1) rk' := by
  obtain ⟨rk', er⟩ : ∃ rk' : Int → Int, ∀ u, rk' u = if u = v then tl else rk u := ⟨fun u => if u = v then tl else rk u, fun _ => rfl⟩
  obtain ⟨h1, h2, h3, h4, h5⟩ := H
  obtain ⟨g1, g2, g3⟩ := h3 h hh.1 hh.2
  have hu := nD_up (τ := τ) (v := v) (z := τ 19 h) hv hn (by omega) tl v
  have hb := nD_bd (up (up τ 18 v (τ 19 h)) 19 tl v)
  have v18 : v ≠ 18 := by intro q; rw [q, h2] at hn; omega
  have e18 : ∀ k, up (up τ 18 v (τ 19 h)) 19 tl v 18 k = if k = v then τ 19 h else τ 18 k := fun k => by
    rw [up_ne _ _ _ _ (by decide), up_if]
    by_cases q : k = v
    · rw [if_pos ⟨rfl, q⟩, if_pos q]
    · rw [if_neg (fun w => q w.2), if_neg q]
  have e17 : ∀ k, up (up τ 18 v (τ 19 h)) 19 tl v 17 k = τ 17 k := fun k => by rw [up_ne _ _ _ _ (by decide), up_ne _ _ _ _ (by decide)]
  have e19 : ∀ k, up (up τ 18 v (τ 19 h)) 19 tl v 19 k = if k = tl then v else τ 19 k := fun k => by
    rw [up_if]
    by_cases q : k = tl
    · rw [if_pos ⟨rfl, q⟩, if_pos q]
    · rw [if_neg (fun w => q w.2), if_neg q, up_ne _ _ _ _ (by decide)]
  have hne : τ 19 h ≠ v := fun q => g3 (by rw [q]; exact hn)
  refine ⟨by omega, rk', fun u a b c => ?_, by rw [e18, if_neg (fun q => v18 q.symm)]; exact h2, fun q a b => ?_, by rw [hu]; omega, by omega⟩
  · rw [e18] at c ⊢
    by_cases q : u = v
    · rw [if_pos q]
      have r := h1 (τ 19 h) g1 g2 g3
      refine ⟨by rw [er, if_pos q]; omega, by rw [er, if_pos q]; omega, g1, g2, fun _ => ?_⟩
      rw [e18, if_neg hne, e17, er, er, if_neg hne, if_pos q, q]
      exact ⟨g3, by omega, hc⟩
    · rw [if_neg q] at c ⊢
      obtain ⟨r1, r2, r3, r4, r5⟩ := h1 u a b c
      refine ⟨by rw [er, if_neg q]; exact r1, by rw [er, if_neg q]; omega, r3, r4, fun w => ?_⟩
      obtain ⟨s1, s2, s3⟩ := r5 w
      have hne2 : τ 18 u ≠ v := fun q => s1 (by rw [q]; exact hn)
      rw [e18, if_neg hne2, e17, er, er, if_neg q, if_neg hne2]
      exact ⟨s1, s2, s3⟩
  · rw [e19, e18]
    by_cases w : q = tl
    · rw [if_pos w, if_pos rfl]; exact ⟨hv.1, hv.2, by omega⟩
    · rw [if_neg w]
      obtain ⟨s1, s2, s3⟩ := h3 q a (by omega)
      rw [if_neg (fun y => s3 (by rw [y]; exact hn))]
      exact ⟨s1, s2, s3⟩
def Qwy (σ σ' : eS) (z : Int) : Prop := fr rgY σ σ' ∧ (z = 0 ∨ (z = 1 ∧ σ' 18 19 ≠ -1 ∧ ∃ tl rk, tl ≤ 20 ∧ TrB σ' tl rk))
theorem s_Mo_isWay {σ : eS} : MtI shB M_Mo_isWay [vr 0] σ (Qwy σ) := by
  refine Mt.of okM_Mo_isWay (Nat.le_of_ble_eq_true rfl) (fun hk hg => ?_)
  refine ok_iconst 0 rfl rfl (by decide) (ok_ist1 1 rfl rfl rfl ?_)
  refine lpO2 (fun (k : Int) (_ : eS) => [some (vr 0), some (vi k), none, none]) (fun _ ρ => ρ) (fun k ρ => 0 ≤ k ∧ k ≤ 20 ∧ fr rgY σ ρ ∧ ∀ v, 0 ≤ v → v < k → ρ 18 v = -1) (fun k _ => (20 - k).toNat) ?_ 0 σ ⟨by omega, by omega, fr.rf, fun v a b => by omega⟩
  rintro k ρ ⟨k1, k2, f, hn⟩ ih
  refine ok_iload_n 2 rfl rfl rfl (ok_bipush 3 rfl rfl (by decide) (by decide) (ok_icmp_ge 4 21 rfl rfl rfl (fun h5 => ?_) (fun h5 => ?_)))
  · refine ok_iconst 12 rfl rfl (by decide) (ok_ist1 13 rfl rfl rfl (ok_aload_n 14 rfl rfl rfl (ok_getR 15 rfl rfl fl_X12_69 rfl rfl (ok_iconst 16 rfl rfl (by decide) (ok_bipush 17 rfl rfl (by decide) (by decide) (ok_iast 18 rfl rfl rfl (by first | omega | (simp [up_if]; omega) | (simp [up_if] at *; omega)) (ok_aload_n 19 rfl rfl rfl (ok_getR 20 rfl rfl fl_X12_66 rfl rfl (ok_bipush 21 rfl rfl (by decide) (by decide) (ok_bipush 22 rfl rfl (by decide) (by decide) (ok_iast 23 rfl rfl rfl (by first | omega | (simp [up_if]; omega) | (simp [up_if] at *; omega)) (ok_iconst 24 rfl rfl (by decide) (ok_ist2 25 rfl rfl rfl ?_)))))))))))))
    obtain ⟨τ, eτ⟩ : ∃ τ, τ = up (up ρ 19 0 18) 18 18 18 := ⟨_, rfl⟩
    have g : fr rgY σ τ := by rw [eτ]; exact fr_up (fr_up f (by simp [rgY])) (by simp [rgY])
    have H : TrB τ 1 (fun _ => 0) := by
      have e18 : ∀ v, 0 ≤ v → v < 20 → τ 18 v = if v = 18 then 18 else -1 := fun v a b => by
        rw [eτ, up_if]
        by_cases q : v = 18
        · rw [if_pos ⟨rfl, q⟩, if_pos q]
        · rw [if_neg (fun w => q w.2), if_neg q, up_ne _ _ _ _ (by decide)]; exact hn v a (by omega)
      have e0 : τ 19 0 = 18 := by rw [eτ]; simp [up_if]
      refine ⟨fun v a b c => ?_, by rw [e18 18 (by omega) (by omega)]; simp, fun q a b => ?_, ?_, by omega⟩
      · have : v = 18 := by
          by_cases q : v = 18
          · exact q
          · rw [e18 v a b, if_neg q] at c; exact absurd rfl c
        subst this
        rw [e18 18 (by omega) (by omega), if_pos rfl]
        exact ⟨by decide, by decide, by omega, by omega, fun w => absurd rfl w⟩
      · rw [show q = 0 by omega, e0, e18 18 (by omega) (by omega), if_pos rfl]; omega
      · unfold nD
        have : sm (fun v => if τ 18 v = -1 then (0 : Int) else 1) 20 = sm (fun v => if v = 18 then (1 : Int) else 0) 20 := sm_cg (fun v a b => by
          rw [e18 v a (by omega)]
          by_cases q : v = 18
          · rw [if_pos q, if_pos q, if_neg (by decide)]
          · rw [if_neg q, if_neg q, if_pos rfl])
        rw [this, sm_one _ (by omega) (by omega)]
    rw [← eτ]
    clear eτ
    refine lpO3 (fun (tl h : Int) (_ : eS) => [some (vr 0), some (vi tl), some (vi h), none]) (fun _ _ τ => τ) (fun tl h τ => 0 ≤ h ∧ h ≤ tl ∧ tl ≤ 20 ∧ fr rgY σ τ ∧ ∃ rk, TrB τ tl rk) (fun _ h _ => (20 - h).toNat) ?_ 1 0 τ ⟨by omega, by omega, by omega, g, _, H⟩
    clear H g τ ih hn f k1 k2 h5 k ρ
    rintro tl h τ ⟨i1, i2, i3, g, rk, H⟩ ih
    refine ok_iload_n 26 rfl rfl rfl (ok_iload_n 27 rfl rfl rfl (ok_icmp_ge 28 121 rfl rfl rfl (fun h44 => ?_) (fun h44 => ?_)))
    · refine ok_aload_n 71 rfl rfl rfl (ok_getR 72 rfl rfl fl_X12_66 rfl rfl (ok_bipush 73 rfl rfl (by decide) (by decide) (ok_iald 74 rfl rfl rfl (by first | omega | (simp [up_if]; omega) | (simp [up_if] at *; omega)) (ok_iconst 75 rfl rfl (by decide) (ok_icmp_eq 76 136 rfl rfl rfl (fun h129 => ?_) (fun h129 => ?_))))))
      · refine ok_iconst 79 rfl rfl (by decide) (ok_zret 80 rfl rfl rfl (by first | omega | (simp [up_if]; omega) | (simp [up_if] at *; omega)) ?_)
        refine ⟨_, rfl, g, ?_⟩
        first
          | exact Or.inl rfl
          | exact Or.inr ⟨rfl, by omega, tl, rk, i3, H⟩
      · refine ok_iconst 77 rfl rfl (by decide) (ok_goto 78 137 rfl rfl rfl (ok_zret 80 rfl rfl rfl (by first | omega | (simp [up_if]; omega) | (simp [up_if] at *; omega)) ?_))
        refine ⟨_, rfl, g, ?_⟩
        first
          | exact Or.inl rfl
          | exact Or.inr ⟨rfl, by omega, tl, rk, i3, H⟩
    · refine ok_iconst 29 rfl rfl (by decide) (ok_ist3 30 rfl rfl rfl ?_)
      have hl : h < tl := by omega
      refine lpO3 (fun (tl v : Int) (_ : eS) => [some (vr 0), some (vi tl), some (vi h), some (vi v)]) (fun _ _ τ => τ) (fun tl v τ => 0 ≤ v ∧ v ≤ 20 ∧ h < tl ∧ tl ≤ 20 ∧ fr rgY σ τ ∧ ∃ rk, TrB τ tl rk) (fun _ v _ => (20 - v).toNat) ?_ tl 0 τ ⟨by omega, by omega, hl, i3, g, rk, H⟩
      clear H g i2 i3 hl h44 τ tl rk
      rintro tl v τ ⟨v1, v2, hl, i3, g, rk, H⟩ ih2
      have hq := H.2.2.1 h i1 hl
      refine ok_iload_n 31 rfl rfl rfl (ok_bipush 32 rfl rfl (by decide) (by decide) (ok_icmp_ge 33 115 rfl rfl rfl (fun h52 => ?_) (fun h52 => ?_)))
      · refine ok_inc2 69 rfl rfl rfl (by first | omega | (simp [up_if]; omega) | (simp [up_if] at *; omega)) (ok_goto 70 42 rfl rfl rfl ?_)
        exact ok_fg [some (vr 0), some (vi _), some (vi (h + 1)), none] ⟨rfl, rfl, rfl, trivial⟩ (ih tl (h + 1) τ ⟨by omega, by omega, i3, g, rk, H⟩ (by omega))
      · refine ok_aload_n 34 rfl rfl rfl (ok_getR 35 rfl rfl fl_X12_66 rfl rfl (ok_iload_n 36 rfl rfl rfl (ok_iald 37 rfl rfl rfl (by first | omega | (simp [up_if]; omega) | (simp [up_if] at *; omega)) (ok_iconst 38 rfl rfl (by decide) (ok_icmp_ne 39 109 rfl rfl rfl (fun h62 => ?_) (fun h62 => ?_))))))
        · refine ok_inc3 67 rfl rfl rfl (by first | omega | (simp [up_if]; omega) | (simp [up_if] at *; omega)) (ok_goto 68 49 rfl rfl rfl ?_)
          exact ih2 tl (v + 1) τ ⟨by omega, by omega, hl, i3, g, rk, H⟩ (by omega)
        · refine ok_aload_n 40 rfl rfl rfl (ok_getR 41 rfl rfl fl_X12_63 rfl rfl (ok_bipush 42 rfl rfl (by decide) (by decide) (ok_aload_n 43 rfl rfl rfl (ok_getR 44 rfl rfl fl_X12_69 rfl rfl (ok_iload_n 45 rfl rfl rfl (ok_iald 46 rfl rfl rfl (by first | omega | (simp [up_if]; omega) | (simp [up_if] at *; omega)) (ok_imul 47 rfl rfl (by first | omega | (simp [up_if]; omega) | (simp [up_if] at *; omega)) (ok_iload_n 48 rfl rfl rfl (ok_iadd 49 rfl rfl (by first | omega | (simp [up_if]; omega) | (simp [up_if] at *; omega)) (ok_iald 50 rfl rfl rfl (by first | omega | (simp [up_if]; omega) | (simp [up_if] at *; omega)) (ok_if_gt 51 87 rfl rfl rfl (fun h81 => ?_) (fun h81 => ?_))))))))))))
          · obtain ⟨t1, rk', H'⟩ := TrB_s (h := h) (v := v) H ⟨i1, hl⟩ ⟨v1, by omega⟩ (by omega) (by omega)
            refine ok_aload_n 53 rfl rfl rfl (ok_getR 54 rfl rfl fl_X12_66 rfl rfl (ok_iload_n 55 rfl rfl rfl (ok_aload_n 56 rfl rfl rfl (ok_getR 57 rfl rfl fl_X12_69 rfl rfl (ok_iload_n 58 rfl rfl rfl (ok_iald 59 rfl rfl rfl (by first | omega | (simp [up_if]; omega) | (simp [up_if] at *; omega)) (ok_iast 60 rfl rfl rfl (by first | omega | (simp [up_if]; omega) | (simp [up_if] at *; omega)) (ok_aload_n 61 rfl rfl rfl (ok_getR 62 rfl rfl fl_X12_69 rfl rfl (ok_iload_n 63 rfl rfl rfl (ok_iload_n 64 rfl rfl rfl (ok_iast 65 rfl rfl rfl (by first | omega | (simp [up_if]; omega) | (simp [up_if] at *; omega)) (ok_inc1 66 rfl rfl rfl (by first | omega | (simp [up_if]; omega) | (simp [up_if] at *; omega)) (ok_inc3 67 rfl rfl rfl (by first | omega | (simp [up_if]; omega) | (simp [up_if] at *; omega)) (ok_goto 68 49 rfl rfl rfl ?_)))))))))))))))
            exact ih2 (tl + 1) (v + 1) _ ⟨by omega, by omega, by omega, by omega, fr_up (fr_up g (by simp [rgY])) (by simp [rgY]), rk', H'⟩ (by omega)
          · refine ok_goto 52 109 rfl rfl rfl (ok_inc3 67 rfl rfl rfl (by first | omega | (simp [up_if]; omega) | (simp [up_if] at *; omega)) (ok_goto 68 49 rfl rfl rfl ?_))
            exact ih2 tl (v + 1) τ ⟨by omega, by omega, hl, i3, g, rk, H⟩ (by omega)
  · refine ok_aload_n 5 rfl rfl rfl (ok_getR 6 rfl rfl fl_X12_66 rfl rfl (ok_iload_n 7 rfl rfl rfl (ok_iconst 8 rfl rfl (by decide) (ok_iast 9 rfl rfl rfl (by first | omega | (simp [up_if]; omega) | (simp [up_if] at *; omega)) (ok_inc1 10 rfl rfl rfl (by first | omega | (simp [up_if]; omega) | (simp [up_if] at *; omega)) (ok_goto 11 2 rfl rfl rfl ?_))))))
    refine ih (k + 1) _ ⟨by omega, by omega, fr_up f (by simp [rgY]), lt_ext (fun v a b => ?_) ?_⟩ (by omega)
    · rw [up_nk _ _ _ _ (by omega)]; exact hn v a b
    · rw [up_same]
end
section
theorem ph_dec {f f' : Int → Int} {v : Int} (hv : 0 ≤ v ∧ v < 20) (h1 : 0 < f v) (h : ∀ k, 0 ≤ k → k < 20 → f' k = if k = v then f k - 1 else f k) : sm (fun k => max 0 (f' k)) 20 = sm (fun k => max 0 (f k)) 20 - 1 := by
  have e : sm (fun k => max 0 (f' k)) 20 = sm (fun k => max 0 (f k) - if k = v then 1 else 0) 20 := sm_cg (fun k a b => by
    rw [h k a (by omega)]
    by_cases q : k = v
    · rw [if_pos q, if_pos q, q]; omega
    · rw [if_neg q, if_neg q]; omega)
  rw [e, sm_sub, sm_one _ hv.1 (by omega)]
def Ph (τ : eS) : Int := sm (fun k => max 0 (τ 17 (360 + k))) 20
abbrev rgQ : Nat → Int → Prop := fun c _ => c = 17 ∨ c = 18 ∨ c = 19
theorem Ph_bd {τ : eS} {B : Int} (h : capB τ B) (hB : 0 ≤ B) : 0 ≤ Ph τ ∧ Ph τ ≤ B * 20 := by
  have := sm_bd (f := fun k => max 0 (τ 17 (360 + k))) (B := B) hB (n := 20) (fun k a b => by have := h (360 + k) (by omega) (by omega); omega)
  unfold Ph
  omega
theorem Ph_nn (τ : eS) : 0 ≤ Ph τ := by
  have key : ∀ n, 0 ≤ sm (fun k => max 0 (τ 17 (360 + k))) n := by
    intro n
    induction n with
    | zero => exact Int.le_refl 0
    | succ n ih =>
      have e : sm (fun k => max 0 (τ 17 (360 + k))) (n + 1) = sm (fun k => max 0 (τ 17 (360 + k))) n + max 0 (τ 17 (360 + (n : Int))) := rfl
      rw [e]
      omega
  exact key 20
theorem Ph_cg {τ υ : eS} (h : ∀ k, υ 17 k = τ 17 k) : Ph υ = Ph τ := by unfold Ph; simp only [h]
theorem s_Mo_isKept {σ : eS} {n : Int} (hn : 1 ≤ n ∧ n ≤ 8) (hl : lhB σ n) (ht : lhT σ) : MtI shB M_Mo_isKept [vr 0, vi n] σ (fun σ' _ => fr rgQ σ σ') := by
  refine Mt.of okM_Mo_isKept (Nat.le_of_ble_eq_true rfl) (fun hk hg => ?_)
  have L : ∀ τ : eS, fr rgQ σ τ → (∀ k, τ 15 k = σ 15 k) ∧ ∀ k, τ 16 k = σ 16 k := fun τ g => ⟨fun k => g 15 k (by simp [rgQ]), fun k => g 16 k (by simp [rgQ])⟩
  have gC : ∀ (τ υ : eS), fr rgQ σ τ → fr rgC τ υ → fr rgQ σ υ := fun τ υ a b => a.tr (b.mono (fun c k q => Or.inl q))
  refine ok_iconst 0 rfl rfl (by decide) (ok_ist2 1 rfl rfl rfl ?_)
  refine lpO2 (fun (k : Int) (_ : eS) => [some (vr 0), some (vi n), some (vi k), none]) (fun _ ρ => ρ) (fun k ρ => 0 ≤ k ∧ k ≤ 400 ∧ fr rgQ σ ρ ∧ ∀ v, 0 ≤ v → v < k → ρ 17 v = 0) (fun k _ => (400 - k).toNat) ?_ 0 σ ⟨by omega, by omega, fr.rf, fun v a b => by omega⟩
  rintro k ρ ⟨k1, k2, f, hz⟩ ih
  refine ok_iload_n 2 rfl rfl rfl (ok_sipush 3 rfl rfl (by decide) (by decide) (ok_icmp_ge 4 22 rfl rfl rfl (fun h6 => ?_) (fun h6 => ?_)))
  · refine ok_iconst 12 rfl rfl (by decide) (ok_ist2 13 rfl rfl rfl ?_)
    have c0 : capB ρ (384 * 0) := fun q a b => by rw [hz q a (by omega)]; omega
    refine lpO2 (fun (i : Int) (_ : eS) => [some (vr 0), some (vi n), some (vi i), none]) (fun _ ρ => ρ) (fun i ρ => 0 ≤ i ∧ i ≤ n ∧ fr rgQ σ ρ ∧ capB ρ (384 * i)) (fun i _ => (n - i).toNat) ?_ 0 ρ ⟨by omega, by omega, f, c0⟩
    clear c0 hz ih f k1 k2 h6 k ρ
    rintro i ρ ⟨i1, i2, f, hc⟩ ih
    obtain ⟨l1, l2⟩ := L ρ f
    refine ok_iload_n 14 rfl rfl rfl (ok_iload_n 15 rfl rfl rfl (ok_icmp_ge 16 83 rfl rfl rfl (fun h26 => ?_) (fun h26 => ?_)))
    · obtain ⟨b1, b2, b3, b4⟩ := id ht
      rw [← l1] at b1 b2
      rw [← l2] at b3 b4
      refine ok_aload_n 51 rfl rfl rfl (ok_bipush 52 rfl rfl (by decide) (by decide) (ok_iconst 53 rfl rfl (by decide) (ok_aload_n 54 rfl rfl rfl (ok_getR 55 rfl rfl fl_X12_57 rfl rfl (ok_bipush 56 rfl rfl (by decide) (by decide) (ok_iald 57 rfl rfl rfl (by first | omega | (simp [up_if]; omega) | (simp [up_if] at *; omega)) (ok_aload_n 58 rfl rfl rfl (ok_getR 59 rfl rfl fl_X12_60 rfl rfl (ok_bipush 60 rfl rfl (by decide) (by decide) (ok_iald 61 rfl rfl rfl (by first | omega | (simp [up_if]; omega) | (simp [up_if] at *; omega)) (ok_callVV (M' := M_Mo_edge) (as := [_, _, _, _]) 62 rfl rfl ml_X12_330 (s_Mo_edge ⟨by omega, by omega⟩ ⟨by omega, by omega⟩ ⟨by omega, by omega⟩ ⟨by omega, by omega⟩ hc ⟨by omega, by omega⟩) rfl rfl (Nat.le_of_ble_eq_true rfl) ⟨Nat.le_of_ble_eq_true rfl, Nat.le_of_ble_eq_true rfl⟩ rfl (Nat.le_of_ble_eq_true rfl) (fun τ hz => ?_))))))))))))
      have g := gC ρ τ f hz.1
      have gc := capB_mono hz.2 (show 384 * i + 192 ≤ 192 * (17 + 8 * 0) by omega)
      refine ok_iconst 63 rfl rfl (by decide) (ok_ist2 64 rfl rfl rfl ?_)
      refine lpO2 (fun (i : Int) (_ : eS) => [some (vr 0), some (vi n), some (vi i), none]) (fun _ ρ => ρ) (fun i ρ => 0 ≤ i ∧ i ≤ n ∧ fr rgQ σ ρ ∧ capB ρ (192 * (17 + 8 * i))) (fun i _ => (n - i).toNat) ?_ 0 τ ⟨by omega, by omega, g, gc⟩
      clear ih gc g hz τ f hc l1 l2 b1 b2 b3 b4 ρ
      clear h26 i1 i2 i
      rintro i ρ ⟨i1, i2, f, hc⟩ ih
      refine ok_iload_n 65 rfl rfl rfl (ok_iload_n 66 rfl rfl rfl (ok_icmp_ge 67 184 rfl rfl rfl (fun h108 => ?_) (fun h108 => ?_)))
      · refine ok_iconst 112 rfl rfl (by decide) (ok_ist2 113 rfl rfl rfl (ok_iconst 114 rfl rfl (by decide) (ok_ist3 115 rfl rfl rfl ?_)))
        replace hc := capB_mono hc (show 192 * (17 + 8 * i) ≤ 15552 by omega)
        clear ih i1 i2 h108 i
        refine lpO2 (fun (x k : Int) => [some (vr 0), some (vi n), some (vi x), some (vi k)]) (fun _ _ => ρ) (fun x k => 0 ≤ k ∧ k ≤ 20 ∧ -(15552 * k) ≤ x ∧ x ≤ 15552 * k) (fun _ k => (20 - k).toNat) ?_ 0 0 ⟨by omega, by omega, by omega, by omega⟩
        rintro x k ⟨k1, k2, x1, x2⟩ ih
        refine ok_iload_n 116 rfl rfl rfl (ok_bipush 117 rfl rfl (by decide) (by decide) (ok_icmp_ge 118 213 rfl rfl rfl (fun h191 => ?_) (fun h191 => ?_)))
        · have ph := Ph_bd hc (by omega)
          obtain ⟨P, eP⟩ : ∃ P, P = Ph ρ := ⟨_, rfl⟩
          rw [← eP] at ph
          refine ok_fg [some (vr 0), some (vi n), some (vi x), none] ⟨rfl, rfl, rfl, trivial⟩ (lpO2 (fun (x : Int) (_ : eS) => [some (vr 0), some (vi n), some (vi x), none]) (fun _ τ => τ) (fun x τ => fr rgQ σ τ ∧ capB τ (15552 + 40 * (P - Ph τ)) ∧ Ph τ ≤ P ∧ -(311040 + (P - Ph τ)) ≤ x ∧ x ≤ 311040) (fun _ τ => (Ph τ).toNat) ?_ x ρ ⟨f, capB_mono hc (by omega), by omega, by omega, by omega⟩)
          clear ih x1 x2 k1 k2 h191 x f hc k eP ρ
          rintro x τ ⟨f, hc, p1, x1, x2⟩ ih
          have p0 := Ph_nn τ
          refine ok_aload_n 130 rfl rfl rfl (ok_callVI (M' := M_Mo_isWay) (as := []) 131 rfl rfl ml_X12_334 (s_Mo_isWay) rfl rfl (Nat.le_of_ble_eq_true rfl) ⟨Nat.le_of_ble_eq_true rfl, Nat.le_of_ble_eq_true rfl⟩ rfl (Nat.le_of_ble_eq_true rfl) (fun τ' z hz => ?_))
          obtain ⟨g1, g2⟩ := hz
          have g : fr rgQ σ τ' := f.tr (g1.mono (fun c k q => Or.inr q))
          have e17 : ∀ k, τ' 17 k = τ 17 k := fun k => g1 17 k (by simp [rgY])
          have ep := Ph_cg e17
          have hc' : capB τ' (15552 + 40 * (P - Ph τ)) := fun k a b => by rw [e17]; exact hc k a b
          refine ok_if_eq 132 285 rfl rfl rfl (fun h217 => ?_) (fun h217 => ?_)
          · clear g2
            refine ok_iload_n 176 rfl rfl rfl (ok_if_ne 177 293 rfl rfl rfl (fun h286 => ?_) (fun h286 => ?_))
            · refine ok_iconst 180 rfl rfl (by decide) (ok_zret 181 rfl rfl rfl (by first | omega | (simp [up_if]; omega) | (simp [up_if] at *; omega)) ?_)
              exact ⟨_, rfl, g⟩
            · refine ok_iconst 178 rfl rfl (by decide) (ok_goto 179 294 rfl rfl rfl (ok_zret 181 rfl rfl rfl (by first | omega | (simp [up_if]; omega) | (simp [up_if] at *; omega)) ?_))
              exact ⟨_, rfl, g⟩
          · obtain ⟨hf, tl, rk, t20, T1, T2, T3, T4, T5⟩ : τ' 18 19 ≠ -1 ∧ ∃ tl rk, tl ≤ 20 ∧ TrB τ' tl rk := by
              rcases g2 with q | q
              · exact absurd q h217
              · exact q.2
            clear g2 T3 T4 T5
            refine ok_bipush 133 rfl rfl (by decide) (by decide) (ok_ist3 134 rfl rfl rfl ?_)
            have r19 := T1 19 (by omega) (by omega) hf
            refine lpO2 (fun (v : Int) (_ : eS) => [some (vr 0), some (vi n), some (vi x), some (vi v)]) (fun _ υ => υ) (fun v υ => 0 ≤ v ∧ v < 20 ∧ τ' 18 v ≠ -1 ∧ fr rgC τ' υ ∧ capB υ (15552 + 40 * (P - Ph τ) + 2 * (19 - rk v)) ∧ (v ≠ 18 → ∀ k, 0 ≤ k → k < 20 → υ 17 (360 + k) = τ' 17 (360 + k)) ∧ (v = 18 → Ph υ = Ph τ - 1)) (fun v _ => (rk v).toNat) ?_ 19 τ' ⟨by omega, by omega, hf, fr.rf, capB_mono hc' (by omega), fun _ k _ _ => rfl, fun q => by omega⟩
            clear r19 hf
            rintro v υ ⟨v1, v2, v3, fu, hu, s1, s2⟩ ih2
            obtain ⟨r1, r2, r3, r4, r5⟩ := T1 v v1 v2 v3
            have e18 : ∀ k, υ 18 k = τ' 18 k := fun k => fu 18 k (by simp [rgC])
            have e18v := e18 v
            refine ok_iload_n 135 rfl rfl rfl (ok_bipush 136 rfl rfl (by decide) (by decide) (ok_icmp_eq 137 279 rfl rfl rfl (fun h226 => ?_) (fun h226 => ?_)))
            · have e : v = 18 := by omega
              have hp := s2 e
              clear s1 s2 r5
              refine ok_inc2 174 rfl rfl rfl (by first | omega | (simp [up_if]; omega) | (simp [up_if] at *; omega)) (ok_goto 175 213 rfl rfl rfl ?_)
              exact ok_fg [some (vr 0), some (vi n), some (vi (x - 1)), none] ⟨rfl, rfl, rfl, trivial⟩ (ih (x - 1) υ ⟨gC τ' υ g fu, capB_mono hu (by omega), by omega, by omega, by omega⟩ (by have := Ph_nn υ; omega))
            · have vne : v ≠ 18 := by omega
              obtain ⟨q1, q2, q3⟩ := r5 vne
              have s1 := s1 vne
              clear r5 s2
              obtain ⟨w, ew⟩ : ∃ w, w = τ' 18 v := ⟨_, rfl⟩
              rw [← ew] at e18v r3 r4 q1 q2 q3
              have cb1 := hu (20 * w + v) (by omega) (by omega)
              have hA := capB_up (d := 1) (k := 20 * w + v) (z := υ 17 (20 * w + v) - 1) hu (by omega) ⟨by omega, by omega⟩
              obtain ⟨A, eA⟩ : ∃ A, A = up υ 17 (20 * w + v) (υ 17 (20 * w + v) - 1) := ⟨_, rfl⟩
              rw [← eA] at hA
              have cb2 := hA (20 * v + w) (by omega) (by omega)
              have hA2 := capB_up (d := 1) (k := 20 * v + w) (z := A 17 (20 * v + w) + 1) hA (by omega) ⟨by omega, by omega⟩
              have fA : fr rgC τ' A := by rw [eA]; exact fr_up fu rfl
              have a18 : A 18 v = w := by rw [eA, up_ne _ _ _ _ (by decide)]; exact e18v
              refine ok_aload_n 138 rfl rfl rfl (ok_getR 139 rfl rfl fl_X12_63 rfl rfl (ok_bipush 140 rfl rfl (by decide) (by decide) (ok_aload_n 141 rfl rfl rfl (ok_getR 142 rfl rfl fl_X12_66 rfl rfl (ok_iload_n 143 rfl rfl rfl (ok_iald 144 rfl rfl rfl (by first | omega | (simp [up_if]; omega) | (simp [up_if] at *; omega)) ?_))))))
              rw [e18v]
              refine ok_imul 145 rfl rfl (by first | omega | (simp [up_if]; omega) | (simp [up_if] at *; omega)) (ok_iload_n 146 rfl rfl rfl (ok_iadd 147 rfl rfl (by first | omega | (simp [up_if]; omega) | (simp [up_if] at *; omega)) (ok_dup2 148 rfl rfl ⟨rfl, rfl⟩ (ok_iald 149 rfl rfl rfl (by first | omega | (simp [up_if]; omega) | (simp [up_if] at *; omega)) (ok_iconst 150 rfl rfl (by decide) (ok_isub 151 rfl rfl (by first | omega | (simp [up_if]; omega) | (simp [up_if] at *; omega)) (ok_iast 152 rfl rfl rfl (by first | omega | (simp [up_if]; omega) | (simp [up_if] at *; omega)) ?_)))))))
              rw [← eA]
              refine ok_aload_n 153 rfl rfl rfl (ok_getR 154 rfl rfl fl_X12_63 rfl rfl (ok_bipush 155 rfl rfl (by decide) (by decide) (ok_iload_n 156 rfl rfl rfl (ok_imul 157 rfl rfl (by first | omega | (simp [up_if]; omega) | (simp [up_if] at *; omega)) (ok_aload_n 158 rfl rfl rfl (ok_getR 159 rfl rfl fl_X12_66 rfl rfl (ok_iload_n 160 rfl rfl rfl (ok_iald 161 rfl rfl rfl (by first | omega | (simp [up_if]; omega) | (simp [up_if] at *; omega)) ?_))))))))
              rw [a18]
              refine ok_iadd 162 rfl rfl (by first | omega | (simp [up_if]; omega) | (simp [up_if] at *; omega)) (ok_dup2 163 rfl rfl ⟨rfl, rfl⟩ (ok_iald 164 rfl rfl rfl (by first | omega | (simp [up_if]; omega) | (simp [up_if] at *; omega)) (ok_iconst 165 rfl rfl (by decide) (ok_iadd 166 rfl rfl (by first | omega | (simp [up_if]; omega) | (simp [up_if] at *; omega)) (ok_iast 167 rfl rfl rfl (by first | omega | (simp [up_if]; omega) | (simp [up_if] at *; omega)) (ok_aload_n 168 rfl rfl rfl (ok_getR 169 rfl rfl fl_X12_66 rfl rfl (ok_iload_n 170 rfl rfl rfl (ok_iald 171 rfl rfl rfl (by first | omega | (simp [up_if]; omega) | (simp [up_if] at *; omega)) ?_)))))))))
              rw [up_ne _ _ _ _ (show (18 : Nat) ≠ 17 by decide), a18]
              refine ok_ist3 172 rfl rfl rfl (ok_goto 173 223 rfl rfl rfl ?_)
              have r6 := (T1 w r3 r4 q1).1
              refine ih2 w _ ⟨r3, r4, q1, fr_up fA rfl, capB_mono hA2 (by omega), fun w18 k a b => ?_, fun w18 => ?_⟩ (by omega)
              · rw [up_nk _ _ _ _ (by omega), eA, up_nk _ _ _ _ (by omega)]; exact s1 k a b
              · rw [← ep]
                rw [w18] at q3 eA ⊢
                refine ph_dec (f := fun k => τ' 17 (360 + k)) (f' := fun k => up A 17 (20 * v + 18) (A 17 (20 * v + 18) + 1) 17 (360 + k)) ⟨v1, v2⟩ q3 (fun k a b => ?_)
                show up A 17 (20 * v + 18) (A 17 (20 * v + 18) + 1) 17 (360 + k) = if k = v then τ' 17 (360 + k) - 1 else τ' 17 (360 + k)
                rw [up_nk _ _ _ _ (by omega), eA, up_if, show (20 : Int) * 18 + v = 360 + v by omega]
                by_cases q : k = v
                · rw [if_pos ⟨rfl, by omega⟩, if_pos q, q, s1 v v1 v2]
                · rw [if_neg (by omega), if_neg q, s1 k a b]
        · have cb := hc (360 + k) (by omega) (by omega)
          refine ok_iload_n 119 rfl rfl rfl (ok_aload_n 120 rfl rfl rfl (ok_getR 121 rfl rfl fl_X12_63 rfl rfl (ok_sipush 122 rfl rfl (by decide) (by decide) (ok_iload_n 123 rfl rfl rfl (ok_iadd 124 rfl rfl (by first | omega | (simp [up_if]; omega) | (simp [up_if] at *; omega)) (ok_iald 125 rfl rfl rfl (by first | omega | (simp [up_if]; omega) | (simp [up_if] at *; omega)) (ok_iadd 126 rfl rfl (by first | omega | (simp [up_if]; omega) | (simp [up_if] at *; omega)) (ok_ist2 127 rfl rfl rfl (ok_inc3 128 rfl rfl rfl (by first | omega | (simp [up_if]; omega) | (simp [up_if] at *; omega)) (ok_goto 129 188 rfl rfl rfl ?_))))))))))
          exact ih _ (k + 1) ⟨by omega, by omega, by omega, by omega⟩ (by omega)
      · refine ok_iconst 68 rfl rfl (by decide) (ok_ist3 69 rfl rfl rfl ?_)
        refine lpO2 (fun (j : Int) (_ : eS) => [some (vr 0), some (vi n), some (vi i), some (vi j)]) (fun _ ρ => ρ) (fun j ρ => 0 ≤ j ∧ j ≤ n ∧ fr rgQ σ ρ ∧ capB ρ (192 * (17 + 8 * i + j))) (fun j _ => (n - j).toNat) ?_ 0 ρ ⟨by omega, by omega, f, capB_mono hc (by omega)⟩
        clear f hc ρ
        rintro j ρ ⟨j1, j2, f, hc⟩ ih2
        refine ok_iload_n 70 rfl rfl rfl (ok_iload_n 71 rfl rfl rfl (ok_icmp_ge 72 178 rfl rfl rfl (fun h115 => ?_) (fun h115 => ?_)))
        · refine ok_inc2 110 rfl rfl rfl (by first | omega | (simp [up_if]; omega) | (simp [up_if] at *; omega)) (ok_goto 111 106 rfl rfl rfl ?_)
          exact ok_fg [some (vr 0), some (vi n), some (vi (i + 1)), none] ⟨rfl, rfl, rfl, trivial⟩ (ih (i + 1) ρ ⟨by omega, by omega, f, capB_mono hc (by omega)⟩ (by omega))
        · have bm := ix8 (n := n) (i := i) (j := j) ⟨by omega, by omega⟩ ⟨by omega, by omega⟩ ⟨by omega, by omega⟩
          refine ok_aload_n 73 rfl rfl rfl (ok_iconst 74 rfl rfl (by decide) (ok_iload_n 75 rfl rfl rfl (ok_iadd 76 rfl rfl (by first | omega | (simp [up_if]; omega) | (simp [up_if] at *; omega)) (ok_bipush 77 rfl rfl (by decide) (by decide) (ok_iload_n 78 rfl rfl rfl (ok_iadd 79 rfl rfl (by first | omega | (simp [up_if]; omega) | (simp [up_if] at *; omega)) (ok_aload_n 80 rfl rfl rfl (ok_getR 81 rfl rfl fl_X12_54 rfl rfl (ok_iload_n 82 rfl rfl rfl (ok_iload_n 83 rfl rfl rfl (ok_imul 84 rfl rfl (by first | omega | (simp [up_if]; omega) | (simp [up_if] at *; omega)) (ok_iload_n 85 rfl rfl rfl (ok_iadd 86 rfl rfl (by first | omega | (simp [up_if]; omega) | (simp [up_if] at *; omega)) (ok_iald 87 rfl rfl rfl (by first | omega | (simp [up_if]; omega) | (simp [up_if] at *; omega)) (ok_iconst 88 rfl rfl (by decide) (ok_icmp_ne 89 144 rfl rfl rfl (fun h137 => ?_) (fun h137 => ?_)))))))))))))))))
          · refine ok_iconst 92 rfl rfl (by decide) (ok_callSI (M' := M_Mo_one) (as := [_]) 93 rfl rfl ml_X12_192 (s_Mo_one) ⟨Nat.le_of_ble_eq_true rfl, Nat.le_of_ble_eq_true rfl⟩ rfl (Nat.le_of_ble_eq_true rfl) (fun σ' y1 p1 => ?_))
            obtain ⟨hs_, p1⟩ := p1
            rw [hs_]; clear hs_ σ'
            have p1 : 0 ≤ y1 ∧ y1 ≤ 1 := by rw [p1]; split <;> omega
            refine ok_aload_n 94 rfl rfl rfl (ok_getR 95 rfl rfl fl_X12_54 rfl rfl (ok_iload_n 96 rfl rfl rfl (ok_iload_n 97 rfl rfl rfl (ok_imul 98 rfl rfl (by first | omega | (simp [up_if]; omega) | (simp [up_if] at *; omega)) (ok_iload_n 99 rfl rfl rfl (ok_iadd 100 rfl rfl (by first | omega | (simp [up_if]; omega) | (simp [up_if] at *; omega)) (ok_iald 101 rfl rfl rfl (by first | omega | (simp [up_if]; omega) | (simp [up_if] at *; omega)) (ok_if_le 102 165 rfl rfl rfl (fun h158 => ?_) (fun h158 => ?_)))))))))
            · refine ok_iconst 105 rfl rfl (by decide) (ok_callSI (M' := M_Mo_one) (as := [_]) 106 rfl rfl ml_X12_192 (s_Mo_one) ⟨Nat.le_of_ble_eq_true rfl, Nat.le_of_ble_eq_true rfl⟩ rfl (Nat.le_of_ble_eq_true rfl) (fun σ' y2 p2 => ?_))
              obtain ⟨hs_, p2⟩ := p2
              rw [hs_]; clear hs_ σ'
              have p2 : 0 ≤ y2 ∧ y2 ≤ 1 := by rw [p2]; split <;> omega
              refine ok_callVV (M' := M_Mo_edge) (as := [_, _, _, _]) 107 rfl rfl ml_X12_330 (s_Mo_edge ⟨by omega, by omega⟩ ⟨by omega, by omega⟩ ⟨by omega, by omega⟩ ⟨by omega, by omega⟩ hc ⟨by omega, by omega⟩) rfl rfl (Nat.le_of_ble_eq_true rfl) ⟨Nat.le_of_ble_eq_true rfl, Nat.le_of_ble_eq_true rfl⟩ rfl (Nat.le_of_ble_eq_true rfl) (fun τ hz => ?_)
              refine ok_inc3 108 rfl rfl rfl (by first | omega | (simp [up_if]; omega) | (simp [up_if] at *; omega)) (ok_goto 109 113 rfl rfl rfl ?_)
              exact ih2 (j + 1) τ ⟨by omega, by omega, gC ρ τ f hz.1, capB_mono hz.2 (by omega)⟩ (by omega)
            · refine ok_iconst 103 rfl rfl (by decide) (ok_goto 104 166 rfl rfl rfl (ok_callSI (M' := M_Mo_one) (as := [_]) 106 rfl rfl ml_X12_192 (s_Mo_one) ⟨Nat.le_of_ble_eq_true rfl, Nat.le_of_ble_eq_true rfl⟩ rfl (Nat.le_of_ble_eq_true rfl) (fun σ' y2 p2 => ?_)))
              obtain ⟨hs_, p2⟩ := p2
              rw [hs_]; clear hs_ σ'
              have p2 : 0 ≤ y2 ∧ y2 ≤ 1 := by rw [p2]; split <;> omega
              refine ok_callVV (M' := M_Mo_edge) (as := [_, _, _, _]) 107 rfl rfl ml_X12_330 (s_Mo_edge ⟨by omega, by omega⟩ ⟨by omega, by omega⟩ ⟨by omega, by omega⟩ ⟨by omega, by omega⟩ hc ⟨by omega, by omega⟩) rfl rfl (Nat.le_of_ble_eq_true rfl) ⟨Nat.le_of_ble_eq_true rfl, Nat.le_of_ble_eq_true rfl⟩ rfl (Nat.le_of_ble_eq_true rfl) (fun τ hz => ?_)
              refine ok_inc3 108 rfl rfl rfl (by first | omega | (simp [up_if]; omega) | (simp [up_if] at *; omega)) (ok_goto 109 113 rfl rfl rfl ?_)
              exact ih2 (j + 1) τ ⟨by omega, by omega, gC ρ τ f hz.1, capB_mono hz.2 (by omega)⟩ (by omega)
          · refine ok_iconst 90 rfl rfl (by decide) (ok_goto 91 145 rfl rfl rfl (ok_callSI (M' := M_Mo_one) (as := [_]) 93 rfl rfl ml_X12_192 (s_Mo_one) ⟨Nat.le_of_ble_eq_true rfl, Nat.le_of_ble_eq_true rfl⟩ rfl (Nat.le_of_ble_eq_true rfl) (fun σ' y1 p1 => ?_)))
            obtain ⟨hs_, p1⟩ := p1
            rw [hs_]; clear hs_ σ'
            have p1 : 0 ≤ y1 ∧ y1 ≤ 1 := by rw [p1]; split <;> omega
            refine ok_aload_n 94 rfl rfl rfl (ok_getR 95 rfl rfl fl_X12_54 rfl rfl (ok_iload_n 96 rfl rfl rfl (ok_iload_n 97 rfl rfl rfl (ok_imul 98 rfl rfl (by first | omega | (simp [up_if]; omega) | (simp [up_if] at *; omega)) (ok_iload_n 99 rfl rfl rfl (ok_iadd 100 rfl rfl (by first | omega | (simp [up_if]; omega) | (simp [up_if] at *; omega)) (ok_iald 101 rfl rfl rfl (by first | omega | (simp [up_if]; omega) | (simp [up_if] at *; omega)) (ok_if_le 102 165 rfl rfl rfl (fun h158 => ?_) (fun h158 => ?_)))))))))
            · refine ok_iconst 105 rfl rfl (by decide) (ok_callSI (M' := M_Mo_one) (as := [_]) 106 rfl rfl ml_X12_192 (s_Mo_one) ⟨Nat.le_of_ble_eq_true rfl, Nat.le_of_ble_eq_true rfl⟩ rfl (Nat.le_of_ble_eq_true rfl) (fun σ' y2 p2 => ?_))
              obtain ⟨hs_, p2⟩ := p2
              rw [hs_]; clear hs_ σ'
              have p2 : 0 ≤ y2 ∧ y2 ≤ 1 := by rw [p2]; split <;> omega
              refine ok_callVV (M' := M_Mo_edge) (as := [_, _, _, _]) 107 rfl rfl ml_X12_330 (s_Mo_edge ⟨by omega, by omega⟩ ⟨by omega, by omega⟩ ⟨by omega, by omega⟩ ⟨by omega, by omega⟩ hc ⟨by omega, by omega⟩) rfl rfl (Nat.le_of_ble_eq_true rfl) ⟨Nat.le_of_ble_eq_true rfl, Nat.le_of_ble_eq_true rfl⟩ rfl (Nat.le_of_ble_eq_true rfl) (fun τ hz => ?_)
              refine ok_inc3 108 rfl rfl rfl (by first | omega | (simp [up_if]; omega) | (simp [up_if] at *; omega)) (ok_goto 109 113 rfl rfl rfl ?_)
              exact ih2 (j + 1) τ ⟨by omega, by omega, gC ρ τ f hz.1, capB_mono hz.2 (by omega)⟩ (by omega)
            · refine ok_iconst 103 rfl rfl (by decide) (ok_goto 104 166 rfl rfl rfl (ok_callSI (M' := M_Mo_one) (as := [_]) 106 rfl rfl ml_X12_192 (s_Mo_one) ⟨Nat.le_of_ble_eq_true rfl, Nat.le_of_ble_eq_true rfl⟩ rfl (Nat.le_of_ble_eq_true rfl) (fun σ' y2 p2 => ?_)))
              obtain ⟨hs_, p2⟩ := p2
              rw [hs_]; clear hs_ σ'
              have p2 : 0 ≤ y2 ∧ y2 ≤ 1 := by rw [p2]; split <;> omega
              refine ok_callVV (M' := M_Mo_edge) (as := [_, _, _, _]) 107 rfl rfl ml_X12_330 (s_Mo_edge ⟨by omega, by omega⟩ ⟨by omega, by omega⟩ ⟨by omega, by omega⟩ ⟨by omega, by omega⟩ hc ⟨by omega, by omega⟩) rfl rfl (Nat.le_of_ble_eq_true rfl) ⟨Nat.le_of_ble_eq_true rfl, Nat.le_of_ble_eq_true rfl⟩ rfl (Nat.le_of_ble_eq_true rfl) (fun τ hz => ?_)
              refine ok_inc3 108 rfl rfl rfl (by first | omega | (simp [up_if]; omega) | (simp [up_if] at *; omega)) (ok_goto 109 113 rfl rfl rfl ?_)
              exact ih2 (j + 1) τ ⟨by omega, by omega, gC ρ τ f hz.1, capB_mono hz.2 (by omega)⟩ (by omega)
    · have b1 := hl i (by omega)
      have b2 := hl (8 + i) (by omega)
      rw [← l1, ← l2] at b1
      refine ok_aload_n 17 rfl rfl rfl (ok_iconst 18 rfl rfl (by decide) (ok_iconst 19 rfl rfl (by decide) (ok_iload_n 20 rfl rfl rfl (ok_iadd 21 rfl rfl (by first | omega | (simp [up_if]; omega) | (simp [up_if] at *; omega)) (ok_aload_n 22 rfl rfl rfl (ok_getR 23 rfl rfl fl_X12_57 rfl rfl (ok_iload_n 24 rfl rfl rfl (ok_iald 25 rfl rfl rfl (by first | omega | (simp [up_if]; omega) | (simp [up_if] at *; omega)) (ok_aload_n 26 rfl rfl rfl (ok_getR 27 rfl rfl fl_X12_60 rfl rfl (ok_iload_n 28 rfl rfl rfl (ok_iald 29 rfl rfl rfl (by first | omega | (simp [up_if]; omega) | (simp [up_if] at *; omega)) (ok_callVV (M' := M_Mo_edge) (as := [_, _, _, _]) 30 rfl rfl ml_X12_330 (s_Mo_edge ⟨by omega, by omega⟩ ⟨by omega, by omega⟩ ⟨by omega, by omega⟩ ⟨by omega, by omega⟩ hc ⟨by omega, by omega⟩) rfl rfl (Nat.le_of_ble_eq_true rfl) ⟨Nat.le_of_ble_eq_true rfl, Nat.le_of_ble_eq_true rfl⟩ rfl (Nat.le_of_ble_eq_true rfl) (fun τ hz => ?_))))))))))))))
      have g := gC ρ τ f hz.1
      obtain ⟨l3, l4⟩ := L τ g
      rw [← l3, ← l4] at b2
      refine ok_aload_n 31 rfl rfl rfl (ok_bipush 32 rfl rfl (by decide) (by decide) (ok_iload_n 33 rfl rfl rfl (ok_iadd 34 rfl rfl (by first | omega | (simp [up_if]; omega) | (simp [up_if] at *; omega)) (ok_bipush 35 rfl rfl (by decide) (by decide) (ok_aload_n 36 rfl rfl rfl (ok_getR 37 rfl rfl fl_X12_57 rfl rfl (ok_bipush 38 rfl rfl (by decide) (by decide) (ok_iload_n 39 rfl rfl rfl (ok_iadd 40 rfl rfl (by first | omega | (simp [up_if]; omega) | (simp [up_if] at *; omega)) (ok_iald 41 rfl rfl rfl (by first | omega | (simp [up_if]; omega) | (simp [up_if] at *; omega)) (ok_aload_n 42 rfl rfl rfl (ok_getR 43 rfl rfl fl_X12_60 rfl rfl (ok_bipush 44 rfl rfl (by decide) (by decide) (ok_iload_n 45 rfl rfl rfl (ok_iadd 46 rfl rfl (by first | omega | (simp [up_if]; omega) | (simp [up_if] at *; omega)) (ok_iald 47 rfl rfl rfl (by first | omega | (simp [up_if]; omega) | (simp [up_if] at *; omega)) (ok_callVV (M' := M_Mo_edge) (as := [_, _, _, _]) 48 rfl rfl ml_X12_330 (s_Mo_edge ⟨by omega, by omega⟩ ⟨by omega, by omega⟩ ⟨by omega, by omega⟩ ⟨by omega, by omega⟩ hz.2 ⟨by omega, by omega⟩) rfl rfl (Nat.le_of_ble_eq_true rfl) ⟨Nat.le_of_ble_eq_true rfl, Nat.le_of_ble_eq_true rfl⟩ rfl (Nat.le_of_ble_eq_true rfl) (fun υ hz2 => ?_))))))))))))))))))
      refine ok_inc2 49 rfl rfl rfl (by first | omega | (simp [up_if]; omega) | (simp [up_if] at *; omega)) (ok_goto 50 24 rfl rfl rfl ?_)
      exact ih (i + 1) υ ⟨by omega, by omega, gC τ υ g hz2.1, capB_mono hz2.2 (by omega)⟩ (by omega)
  · refine ok_aload_n 5 rfl rfl rfl (ok_getR 6 rfl rfl fl_X12_63 rfl rfl (ok_iload_n 7 rfl rfl rfl (ok_iconst 8 rfl rfl (by decide) (ok_iast 9 rfl rfl rfl (by first | omega | (simp [up_if]; omega) | (simp [up_if] at *; omega)) (ok_inc2 10 rfl rfl rfl (by first | omega | (simp [up_if]; omega) | (simp [up_if] at *; omega)) (ok_goto 11 2 rfl rfl rfl ?_))))))
    refine ih (k + 1) _ ⟨by omega, by omega, fr_up f (by simp [rgQ]), lt_ext (fun v a b => ?_) ?_⟩ (by omega)
    · rw [up_nk _ _ _ _ (by omega)]; exact hz v a b
    · rw [up_same]
end
