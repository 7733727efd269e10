theorem s_Mo_fewest {σ : eS} {s : Int} (hB : iB1 σ) (ht : tabB σ s) (h3 : σ 1 s ≤ 3) : MtI shB M_Mo_fewest [vr 0, vi s] σ (fun σ' z => σ' = σ) := by
  refine Mt.of okM_Mo_fewest (Nat.le_of_ble_eq_true rfl) (fun hk hg => ?_)
  obtain ⟨t1, t2, t3⟩ := ht
  refine ok_aload_n 0 rfl rfl rfl (ok_getR 1 rfl rfl fl_X12_7 rfl rfl (ok_iload_n 2 rfl rfl rfl (ok_iald 3 rfl rfl rfl (by first | omega | (simp [up_if]; omega) | (simp [up_if] at *; omega)) (ok_iconst 4 rfl rfl (by decide) (ok_icmp_ne 5 12 rfl rfl rfl (fun h7 => ?_) (fun h7 => ?_))))))
  · refine ok_aload_n 8 rfl rfl rfl (ok_getR 9 rfl rfl fl_X12_7 rfl rfl (ok_iload_n 10 rfl rfl rfl (ok_iald 11 rfl rfl rfl (by first | omega | (simp [up_if]; omega) | (simp [up_if] at *; omega)) (ok_iconst 12 rfl rfl (by decide) (ok_icmp_ne 13 60 rfl rfl rfl (fun h19 => ?_) (fun h19 => ?_))))))
    · refine ok_iconst 36 rfl rfl (by decide) (ok_ist2 37 rfl rfl rfl (ok_iconst 38 rfl rfl (by decide) (ok_ist3 39 rfl rfl rfl ?_)))
      have e3 : σ 1 s = 3 := by omega
      refine lpO2 (fun b k : Int => [some (vr 0), some (vi s), some (vi b), some (vi k), none, none, none, none, none, none, none, none, none]) (fun _ _ => σ) (fun _ k => 0 ≤ k ∧ k ≤ 6) (fun _ k => (6 - k).toNat) ?_ (-1) 0 ⟨by omega, by omega⟩
      rintro b k ⟨k1, k2⟩ ih
      have tail : ∀ x : Int, k < 6 → -99999999 ≤ x → x ≤ 99999999 → Ok shB M_Mo_fewest 102 [some (vr 0), some (vi s), some (vi b), some (vi k), none, none, none, none, none, none, none, none, none] [vl x] σ (fun σ' v => ∃ z, v = some (vi z) ∧ σ' = σ) := by
        intro x k6 x1 x2
        refine ok_lst4 65 rfl rfl rfl (ok_iconst 66 rfl rfl (by decide) (ok_ist6 67 rfl rfl rfl (ok_iconst 68 rfl rfl (by decide) (ok_ist7 69 rfl rfl rfl (ok_iconst 70 rfl rfl (by decide) (ok_ist8 71 rfl rfl rfl ?_))))))
        refine lpO3 (fun c o i : Int => [some (vr 0), some (vi s), some (vi b), some (vi k), some (vl x), none, some (vi c), some (vi o), some (vi i), none, none, none, none]) (fun _ _ _ => σ) (fun c _ i => 0 ≤ i ∧ i ≤ 3 ∧ 0 ≤ c ∧ c ≤ 2 * i) (fun _ _ i => (3 - i).toNat) ?_ 0 1 0 ⟨by omega, by omega, by omega, by omega⟩
        rintro c o i ⟨i1, i2, i3, i4⟩ ih2
        refine ok_iload 72 rfl rfl rfl (ok_iconst 73 rfl rfl (by decide) (ok_icmp_ge 74 221 rfl rfl rfl (fun h116 => ?_) (fun h116 => ?_)))
        · refine ok_iload 133 rfl rfl rfl (ok_if_eq 134 240 rfl rfl rfl (fun h223 => ?_) (fun h223 => ?_))
          · refine ok_inc3 143 rfl rfl rfl (by first | omega | (simp [up_if]; omega) | (simp [up_if] at *; omega)) (ok_goto 144 64 rfl rfl rfl ?_)
            exact ok_fg [some (vr 0), some (vi s), some (vi _), some (vi (k + 1)), none, none, none, none, none, none, none, none, none] ⟨rfl, rfl, rfl, rfl, trivial⟩ (ih _ (k + 1) ⟨by omega, by omega⟩ (by omega))
          · refine ok_iload_n 135 rfl rfl rfl (ok_iconst 136 rfl rfl (by decide) (ok_icmp_eq 137 237 rfl rfl rfl (fun h228 => ?_) (fun h228 => ?_)))
            · refine ok_iload 141 rfl rfl rfl (ok_ist2 142 rfl rfl rfl (ok_inc3 143 rfl rfl rfl (by first | omega | (simp [up_if]; omega) | (simp [up_if] at *; omega)) (ok_goto 144 64 rfl rfl rfl ?_)))
              exact ok_fg [some (vr 0), some (vi s), some (vi _), some (vi (k + 1)), none, none, none, none, none, none, none, none, none] ⟨rfl, rfl, rfl, rfl, trivial⟩ (ih _ (k + 1) ⟨by omega, by omega⟩ (by omega))
            · refine ok_iload 138 rfl rfl rfl (ok_iload_n 139 rfl rfl rfl (ok_icmp_ge 140 240 rfl rfl rfl (fun h234 => ?_) (fun h234 => ?_)))
              · refine ok_inc3 143 rfl rfl rfl (by first | omega | (simp [up_if]; omega) | (simp [up_if] at *; omega)) (ok_goto 144 64 rfl rfl rfl ?_)
                exact ok_fg [some (vr 0), some (vi s), some (vi _), some (vi (k + 1)), none, none, none, none, none, none, none, none, none] ⟨rfl, rfl, rfl, rfl, trivial⟩ (ih _ (k + 1) ⟨by omega, by omega⟩ (by omega))
              · refine ok_iload 141 rfl rfl rfl (ok_ist2 142 rfl rfl rfl (ok_inc3 143 rfl rfl rfl (by first | omega | (simp [up_if]; omega) | (simp [up_if] at *; omega)) (ok_goto 144 64 rfl rfl rfl ?_)))
                exact ok_fg [some (vr 0), some (vi s), some (vi _), some (vi (k + 1)), none, none, none, none, none, none, none, none, none] ⟨rfl, rfl, rfl, rfl, trivial⟩ (ih _ (k + 1) ⟨by omega, by omega⟩ (by omega))
        · refine ok_aload_n 75 rfl rfl rfl (ok_iload_n 76 rfl rfl rfl (ok_iload 77 rfl rfl rfl (ok_iconst 78 rfl rfl (by decide) (ok_callVL (M' := M_Mo_lies) (as := [_, _, _]) 79 rfl rfl ml_X12_314 (s_Mo_lies hB ⟨t1, t2⟩ e3 ⟨by omega, by omega⟩ ⟨by omega, by omega⟩) rfl rfl (Nat.le_of_ble_eq_true rfl) ⟨Nat.le_of_ble_eq_true rfl, Nat.le_of_ble_eq_true rfl⟩ rfl (Nat.le_of_ble_eq_true rfl) (fun σ' y hy => ?_)))))
          obtain ⟨hs_, hy⟩ := hy
          rw [hs_]; clear hs_ σ'
          refine ok_aload_n 80 rfl rfl rfl (ok_iload_n 81 rfl rfl rfl (ok_iconst 82 rfl rfl (by decide) (ok_iconst 83 rfl rfl (by decide) (ok_callVL (M' := M_Mo_lies) (as := [_, _, _]) 84 rfl rfl ml_X12_314 (s_Mo_lies hB ⟨t1, t2⟩ e3 ⟨by omega, by omega⟩ ⟨by omega, by omega⟩) rfl rfl (Nat.le_of_ble_eq_true rfl) ⟨Nat.le_of_ble_eq_true rfl, Nat.le_of_ble_eq_true rfl⟩ rfl (Nat.le_of_ble_eq_true rfl) (fun σ' y hy => ?_)))))
          obtain ⟨hs_, hy⟩ := hy
          rw [hs_]; clear hs_ σ'
          refine ok_lsub 85 rfl rfl (by first | omega | (simp [up_if]; omega) | (simp [up_if] at *; omega)) (ok_lload 86 rfl rfl rfl (ok_ladd 87 rfl rfl (by first | omega | (simp [up_if]; omega) | (simp [up_if] at *; omega)) (ok_lst9 88 rfl rfl rfl (ok_aload_n 89 rfl rfl rfl (ok_iload_n 90 rfl rfl rfl (ok_iconst 91 rfl rfl (by decide) (ok_iload 92 rfl rfl rfl (ok_callVL (M' := M_Mo_lies) (as := [_, _, _]) 93 rfl rfl ml_X12_314 (s_Mo_lies hB ⟨t1, t2⟩ e3 ⟨by omega, by omega⟩ ⟨by omega, by omega⟩) rfl rfl (Nat.le_of_ble_eq_true rfl) ⟨Nat.le_of_ble_eq_true rfl, Nat.le_of_ble_eq_true rfl⟩ rfl (Nat.le_of_ble_eq_true rfl) (fun σ' y hy => ?_)))))))))
          obtain ⟨hs_, hy⟩ := hy
          rw [hs_]; clear hs_ σ'
          refine ok_lload 94 rfl rfl rfl (ok_lsub 95 rfl rfl (by first | omega | (simp [up_if]; omega) | (simp [up_if] at *; omega)) (ok_lst11 96 rfl rfl rfl (ok_iload 97 rfl rfl rfl (ok_if_eq 98 176 rfl rfl rfl (fun h155 => ?_) (fun h155 => ?_)))))
          · refine ok_iconst 109 rfl rfl (by decide) (ok_ist7 110 rfl rfl rfl (ok_iload 111 rfl rfl rfl (ok_lload 112 rfl rfl rfl (ok_lconst (w := 0) 113 rfl rfl rfl (by decide) (ok_lcmp_le 114 115 192 rfl rfl rfl rfl rfl (fun h184 => ?_) (fun h184 => ?_))))))
            · refine ok_iconst 118 rfl rfl (by decide) (ok_callSI (M' := M_Mo_one) (as := [_]) 119 rfl rfl ml_X12_192 (s_Mo_one) ⟨Nat.le_of_ble_eq_true rfl, Nat.le_of_ble_eq_true rfl⟩ rfl (Nat.le_of_ble_eq_true rfl) (fun σ' z1 a1 => ?_))
              obtain ⟨hs_, a1⟩ := a1
              rw [hs_]; clear hs_ σ'
              have q1 : 0 ≤ z1 ∧ z1 ≤ 1 := by rw [a1]; split <;> omega
              refine ok_lload 120 rfl rfl rfl (ok_lconst (w := 0) 121 rfl rfl rfl (by decide) (ok_lcmp_le 122 123 207 rfl rfl rfl rfl rfl (fun h199 => ?_) (fun h199 => ?_)))
              · refine ok_iconst 126 rfl rfl (by decide) (ok_callSI (M' := M_Mo_one) (as := [_]) 127 rfl rfl ml_X12_192 (s_Mo_one) ⟨Nat.le_of_ble_eq_true rfl, Nat.le_of_ble_eq_true rfl⟩ rfl (Nat.le_of_ble_eq_true rfl) (fun σ' z2 a2 => ?_))
                obtain ⟨hs_, a2⟩ := a2
                rw [hs_]; clear hs_ σ'
                have q2 : 0 ≤ z2 ∧ z2 ≤ 1 := by rw [a2]; split <;> omega
                refine ok_iadd 128 rfl rfl (by first | omega | (simp [up_if]; omega) | (simp [up_if] at *; omega)) (ok_iadd 129 rfl rfl (by first | omega | (simp [up_if]; omega) | (simp [up_if] at *; omega)) (ok_ist6 130 rfl rfl rfl (ok_inc8 131 rfl rfl rfl (by first | omega | (simp [up_if]; omega) | (simp [up_if] at *; omega)) (ok_goto 132 113 rfl rfl rfl ?_))))
                exact ok_fg [some (vr 0), some (vi s), some (vi b), some (vi k), some (vl x), none, some (vi _), some (vi _), some (vi (i + 1)), none, none, none, none] ⟨rfl, rfl, rfl, rfl, rfl, rfl, rfl, rfl, trivial⟩ (ih2 _ _ (i + 1) ⟨by omega, by omega, by omega, by omega⟩ (by omega))
              · refine ok_iconst 124 rfl rfl (by decide) (ok_goto 125 208 rfl rfl rfl (ok_callSI (M' := M_Mo_one) (as := [_]) 127 rfl rfl ml_X12_192 (s_Mo_one) ⟨Nat.le_of_ble_eq_true rfl, Nat.le_of_ble_eq_true rfl⟩ rfl (Nat.le_of_ble_eq_true rfl) (fun σ' z2 a2 => ?_)))
                obtain ⟨hs_, a2⟩ := a2
                rw [hs_]; clear hs_ σ'
                have q2 : 0 ≤ z2 ∧ z2 ≤ 1 := by rw [a2]; split <;> omega
                refine ok_iadd 128 rfl rfl (by first | omega | (simp [up_if]; omega) | (simp [up_if] at *; omega)) (ok_iadd 129 rfl rfl (by first | omega | (simp [up_if]; omega) | (simp [up_if] at *; omega)) (ok_ist6 130 rfl rfl rfl (ok_inc8 131 rfl rfl rfl (by first | omega | (simp [up_if]; omega) | (simp [up_if] at *; omega)) (ok_goto 132 113 rfl rfl rfl ?_))))
                exact ok_fg [some (vr 0), some (vi s), some (vi b), some (vi k), some (vl x), none, some (vi _), some (vi _), some (vi (i + 1)), none, none, none, none] ⟨rfl, rfl, rfl, rfl, rfl, rfl, rfl, rfl, trivial⟩ (ih2 _ _ (i + 1) ⟨by omega, by omega, by omega, by omega⟩ (by omega))
            · refine ok_iconst 116 rfl rfl (by decide) (ok_goto 117 193 rfl rfl rfl (ok_callSI (M' := M_Mo_one) (as := [_]) 119 rfl rfl ml_X12_192 (s_Mo_one) ⟨Nat.le_of_ble_eq_true rfl, Nat.le_of_ble_eq_true rfl⟩ rfl (Nat.le_of_ble_eq_true rfl) (fun σ' z1 a1 => ?_)))
              obtain ⟨hs_, a1⟩ := a1
              rw [hs_]; clear hs_ σ'
              have q1 : 0 ≤ z1 ∧ z1 ≤ 1 := by rw [a1]; split <;> omega
              refine ok_lload 120 rfl rfl rfl (ok_lconst (w := 0) 121 rfl rfl rfl (by decide) (ok_lcmp_le 122 123 207 rfl rfl rfl rfl rfl (fun h199 => ?_) (fun h199 => ?_)))
              · refine ok_iconst 126 rfl rfl (by decide) (ok_callSI (M' := M_Mo_one) (as := [_]) 127 rfl rfl ml_X12_192 (s_Mo_one) ⟨Nat.le_of_ble_eq_true rfl, Nat.le_of_ble_eq_true rfl⟩ rfl (Nat.le_of_ble_eq_true rfl) (fun σ' z2 a2 => ?_))
                obtain ⟨hs_, a2⟩ := a2
                rw [hs_]; clear hs_ σ'
                have q2 : 0 ≤ z2 ∧ z2 ≤ 1 := by rw [a2]; split <;> omega
                refine ok_iadd 128 rfl rfl (by first | omega | (simp [up_if]; omega) | (simp [up_if] at *; omega)) (ok_iadd 129 rfl rfl (by first | omega | (simp [up_if]; omega) | (simp [up_if] at *; omega)) (ok_ist6 130 rfl rfl rfl (ok_inc8 131 rfl rfl rfl (by first | omega | (simp [up_if]; omega) | (simp [up_if] at *; omega)) (ok_goto 132 113 rfl rfl rfl ?_))))
                exact ok_fg [some (vr 0), some (vi s), some (vi b), some (vi k), some (vl x), none, some (vi _), some (vi _), some (vi (i + 1)), none, none, none, none] ⟨rfl, rfl, rfl, rfl, rfl, rfl, rfl, rfl, trivial⟩ (ih2 _ _ (i + 1) ⟨by omega, by omega, by omega, by omega⟩ (by omega))
              · refine ok_iconst 124 rfl rfl (by decide) (ok_goto 125 208 rfl rfl rfl (ok_callSI (M' := M_Mo_one) (as := [_]) 127 rfl rfl ml_X12_192 (s_Mo_one) ⟨Nat.le_of_ble_eq_true rfl, Nat.le_of_ble_eq_true rfl⟩ rfl (Nat.le_of_ble_eq_true rfl) (fun σ' z2 a2 => ?_)))
                obtain ⟨hs_, a2⟩ := a2
                rw [hs_]; clear hs_ σ'
                have q2 : 0 ≤ z2 ∧ z2 ≤ 1 := by rw [a2]; split <;> omega
                refine ok_iadd 128 rfl rfl (by first | omega | (simp [up_if]; omega) | (simp [up_if] at *; omega)) (ok_iadd 129 rfl rfl (by first | omega | (simp [up_if]; omega) | (simp [up_if] at *; omega)) (ok_ist6 130 rfl rfl rfl (ok_inc8 131 rfl rfl rfl (by first | omega | (simp [up_if]; omega) | (simp [up_if] at *; omega)) (ok_goto 132 113 rfl rfl rfl ?_))))
                exact ok_fg [some (vr 0), some (vi s), some (vi b), some (vi k), some (vl x), none, some (vi _), some (vi _), some (vi (i + 1)), none, none, none, none] ⟨rfl, rfl, rfl, rfl, rfl, rfl, rfl, rfl, trivial⟩ (ih2 _ _ (i + 1) ⟨by omega, by omega, by omega, by omega⟩ (by omega))
          · refine ok_lload 99 rfl rfl rfl (ok_lconst (w := 0) 100 rfl rfl rfl (by decide) (ok_lcmp_lt 101 102 176 rfl rfl rfl rfl rfl (fun h161 => ?_) (fun h161 => ?_)))
            · refine ok_iconst 109 rfl rfl (by decide) (ok_ist7 110 rfl rfl rfl (ok_iload 111 rfl rfl rfl (ok_lload 112 rfl rfl rfl (ok_lconst (w := 0) 113 rfl rfl rfl (by decide) (ok_lcmp_le 114 115 192 rfl rfl rfl rfl rfl (fun h184 => ?_) (fun h184 => ?_))))))
              · refine ok_iconst 118 rfl rfl (by decide) (ok_callSI (M' := M_Mo_one) (as := [_]) 119 rfl rfl ml_X12_192 (s_Mo_one) ⟨Nat.le_of_ble_eq_true rfl, Nat.le_of_ble_eq_true rfl⟩ rfl (Nat.le_of_ble_eq_true rfl) (fun σ' z1 a1 => ?_))
                obtain ⟨hs_, a1⟩ := a1
                rw [hs_]; clear hs_ σ'
                have q1 : 0 ≤ z1 ∧ z1 ≤ 1 := by rw [a1]; split <;> omega
                refine ok_lload 120 rfl rfl rfl (ok_lconst (w := 0) 121 rfl rfl rfl (by decide) (ok_lcmp_le 122 123 207 rfl rfl rfl rfl rfl (fun h199 => ?_) (fun h199 => ?_)))
                · refine ok_iconst 126 rfl rfl (by decide) (ok_callSI (M' := M_Mo_one) (as := [_]) 127 rfl rfl ml_X12_192 (s_Mo_one) ⟨Nat.le_of_ble_eq_true rfl, Nat.le_of_ble_eq_true rfl⟩ rfl (Nat.le_of_ble_eq_true rfl) (fun σ' z2 a2 => ?_))
                  obtain ⟨hs_, a2⟩ := a2
                  rw [hs_]; clear hs_ σ'
                  have q2 : 0 ≤ z2 ∧ z2 ≤ 1 := by rw [a2]; split <;> omega
                  refine ok_iadd 128 rfl rfl (by first | omega | (simp [up_if]; omega) | (simp [up_if] at *; omega)) (ok_iadd 129 rfl rfl (by first | omega | (simp [up_if]; omega) | (simp [up_if] at *; omega)) (ok_ist6 130 rfl rfl rfl (ok_inc8 131 rfl rfl rfl (by first | omega | (simp [up_if]; omega) | (simp [up_if] at *; omega)) (ok_goto 132 113 rfl rfl rfl ?_))))
                  exact ok_fg [some (vr 0), some (vi s), some (vi b), some (vi k), some (vl x), none, some (vi _), some (vi _), some (vi (i + 1)), none, none, none, none] ⟨rfl, rfl, rfl, rfl, rfl, rfl, rfl, rfl, trivial⟩ (ih2 _ _ (i + 1) ⟨by omega, by omega, by omega, by omega⟩ (by omega))
                · refine ok_iconst 124 rfl rfl (by decide) (ok_goto 125 208 rfl rfl rfl (ok_callSI (M' := M_Mo_one) (as := [_]) 127 rfl rfl ml_X12_192 (s_Mo_one) ⟨Nat.le_of_ble_eq_true rfl, Nat.le_of_ble_eq_true rfl⟩ rfl (Nat.le_of_ble_eq_true rfl) (fun σ' z2 a2 => ?_)))
                  obtain ⟨hs_, a2⟩ := a2
                  rw [hs_]; clear hs_ σ'
                  have q2 : 0 ≤ z2 ∧ z2 ≤ 1 := by rw [a2]; split <;> omega
                  refine ok_iadd 128 rfl rfl (by first | omega | (simp [up_if]; omega) | (simp [up_if] at *; omega)) (ok_iadd 129 rfl rfl (by first | omega | (simp [up_if]; omega) | (simp [up_if] at *; omega)) (ok_ist6 130 rfl rfl rfl (ok_inc8 131 rfl rfl rfl (by first | omega | (simp [up_if]; omega) | (simp [up_if] at *; omega)) (ok_goto 132 113 rfl rfl rfl ?_))))
                  exact ok_fg [some (vr 0), some (vi s), some (vi b), some (vi k), some (vl x), none, some (vi _), some (vi _), some (vi (i + 1)), none, none, none, none] ⟨rfl, rfl, rfl, rfl, rfl, rfl, rfl, rfl, trivial⟩ (ih2 _ _ (i + 1) ⟨by omega, by omega, by omega, by omega⟩ (by omega))
              · refine ok_iconst 116 rfl rfl (by decide) (ok_goto 117 193 rfl rfl rfl (ok_callSI (M' := M_Mo_one) (as := [_]) 119 rfl rfl ml_X12_192 (s_Mo_one) ⟨Nat.le_of_ble_eq_true rfl, Nat.le_of_ble_eq_true rfl⟩ rfl (Nat.le_of_ble_eq_true rfl) (fun σ' z1 a1 => ?_)))
                obtain ⟨hs_, a1⟩ := a1
                rw [hs_]; clear hs_ σ'
                have q1 : 0 ≤ z1 ∧ z1 ≤ 1 := by rw [a1]; split <;> omega
                refine ok_lload 120 rfl rfl rfl (ok_lconst (w := 0) 121 rfl rfl rfl (by decide) (ok_lcmp_le 122 123 207 rfl rfl rfl rfl rfl (fun h199 => ?_) (fun h199 => ?_)))
                · refine ok_iconst 126 rfl rfl (by decide) (ok_callSI (M' := M_Mo_one) (as := [_]) 127 rfl rfl ml_X12_192 (s_Mo_one) ⟨Nat.le_of_ble_eq_true rfl, Nat.le_of_ble_eq_true rfl⟩ rfl (Nat.le_of_ble_eq_true rfl) (fun σ' z2 a2 => ?_))
                  obtain ⟨hs_, a2⟩ := a2
                  rw [hs_]; clear hs_ σ'
                  have q2 : 0 ≤ z2 ∧ z2 ≤ 1 := by rw [a2]; split <;> omega
                  refine ok_iadd 128 rfl rfl (by first | omega | (simp [up_if]; omega) | (simp [up_if] at *; omega)) (ok_iadd 129 rfl rfl (by first | omega | (simp [up_if]; omega) | (simp [up_if] at *; omega)) (ok_ist6 130 rfl rfl rfl (ok_inc8 131 rfl rfl rfl (by first | omega | (simp [up_if]; omega) | (simp [up_if] at *; omega)) (ok_goto 132 113 rfl rfl rfl ?_))))
                  exact ok_fg [some (vr 0), some (vi s), some (vi b), some (vi k), some (vl x), none, some (vi _), some (vi _), some (vi (i + 1)), none, none, none, none] ⟨rfl, rfl, rfl, rfl, rfl, rfl, rfl, rfl, trivial⟩ (ih2 _ _ (i + 1) ⟨by omega, by omega, by omega, by omega⟩ (by omega))
                · refine ok_iconst 124 rfl rfl (by decide) (ok_goto 125 208 rfl rfl rfl (ok_callSI (M' := M_Mo_one) (as := [_]) 127 rfl rfl ml_X12_192 (s_Mo_one) ⟨Nat.le_of_ble_eq_true rfl, Nat.le_of_ble_eq_true rfl⟩ rfl (Nat.le_of_ble_eq_true rfl) (fun σ' z2 a2 => ?_)))
                  obtain ⟨hs_, a2⟩ := a2
                  rw [hs_]; clear hs_ σ'
                  have q2 : 0 ≤ z2 ∧ z2 ≤ 1 := by rw [a2]; split <;> omega
                  refine ok_iadd 128 rfl rfl (by first | omega | (simp [up_if]; omega) | (simp [up_if] at *; omega)) (ok_iadd 129 rfl rfl (by first | omega | (simp [up_if]; omega) | (simp [up_if] at *; omega)) (ok_ist6 130 rfl rfl rfl (ok_inc8 131 rfl rfl rfl (by first | omega | (simp [up_if]; omega) | (simp [up_if] at *; omega)) (ok_goto 132 113 rfl rfl rfl ?_))))
                  exact ok_fg [some (vr 0), some (vi s), some (vi b), some (vi k), some (vl x), none, some (vi _), some (vi _), some (vi (i + 1)), none, none, none, none] ⟨rfl, rfl, rfl, rfl, rfl, rfl, rfl, rfl, trivial⟩ (ih2 _ _ (i + 1) ⟨by omega, by omega, by omega, by omega⟩ (by omega))
            · refine ok_lload 103 rfl rfl rfl (ok_lconst (w := 0) 104 rfl rfl rfl (by decide) (ok_lcmp_lt 105 106 176 rfl rfl rfl rfl rfl (fun h168 => ?_) (fun h168 => ?_)))
              · refine ok_iconst 109 rfl rfl (by decide) (ok_ist7 110 rfl rfl rfl (ok_iload 111 rfl rfl rfl (ok_lload 112 rfl rfl rfl (ok_lconst (w := 0) 113 rfl rfl rfl (by decide) (ok_lcmp_le 114 115 192 rfl rfl rfl rfl rfl (fun h184 => ?_) (fun h184 => ?_))))))
                · refine ok_iconst 118 rfl rfl (by decide) (ok_callSI (M' := M_Mo_one) (as := [_]) 119 rfl rfl ml_X12_192 (s_Mo_one) ⟨Nat.le_of_ble_eq_true rfl, Nat.le_of_ble_eq_true rfl⟩ rfl (Nat.le_of_ble_eq_true rfl) (fun σ' z1 a1 => ?_))
                  obtain ⟨hs_, a1⟩ := a1
                  rw [hs_]; clear hs_ σ'
                  have q1 : 0 ≤ z1 ∧ z1 ≤ 1 := by rw [a1]; split <;> omega
                  refine ok_lload 120 rfl rfl rfl (ok_lconst (w := 0) 121 rfl rfl rfl (by decide) (ok_lcmp_le 122 123 207 rfl rfl rfl rfl rfl (fun h199 => ?_) (fun h199 => ?_)))
                  · refine ok_iconst 126 rfl rfl (by decide) (ok_callSI (M' := M_Mo_one) (as := [_]) 127 rfl rfl ml_X12_192 (s_Mo_one) ⟨Nat.le_of_ble_eq_true rfl, Nat.le_of_ble_eq_true rfl⟩ rfl (Nat.le_of_ble_eq_true rfl) (fun σ' z2 a2 => ?_))
                    obtain ⟨hs_, a2⟩ := a2
                    rw [hs_]; clear hs_ σ'
                    have q2 : 0 ≤ z2 ∧ z2 ≤ 1 := by rw [a2]; split <;> omega
                    refine ok_iadd 128 rfl rfl (by first | omega | (simp [up_if]; omega) | (simp [up_if] at *; omega)) (ok_iadd 129 rfl rfl (by first | omega | (simp [up_if]; omega) | (simp [up_if] at *; omega)) (ok_ist6 130 rfl rfl rfl (ok_inc8 131 rfl rfl rfl (by first | omega | (simp [up_if]; omega) | (simp [up_if] at *; omega)) (ok_goto 132 113 rfl rfl rfl ?_))))
                    exact ok_fg [some (vr 0), some (vi s), some (vi b), some (vi k), some (vl x), none, some (vi _), some (vi _), some (vi (i + 1)), none, none, none, none] ⟨rfl, rfl, rfl, rfl, rfl, rfl, rfl, rfl, trivial⟩ (ih2 _ _ (i + 1) ⟨by omega, by omega, by omega, by omega⟩ (by omega))
                  · refine ok_iconst 124 rfl rfl (by decide) (ok_goto 125 208 rfl rfl rfl (ok_callSI (M' := M_Mo_one) (as := [_]) 127 rfl rfl ml_X12_192 (s_Mo_one) ⟨Nat.le_of_ble_eq_true rfl, Nat.le_of_ble_eq_true rfl⟩ rfl (Nat.le_of_ble_eq_true rfl) (fun σ' z2 a2 => ?_)))
                    obtain ⟨hs_, a2⟩ := a2
                    rw [hs_]; clear hs_ σ'
                    have q2 : 0 ≤ z2 ∧ z2 ≤ 1 := by rw [a2]; split <;> omega
                    refine ok_iadd 128 rfl rfl (by first | omega | (simp [up_if]; omega) | (simp [up_if] at *; omega)) (ok_iadd 129 rfl rfl (by first | omega | (simp [up_if]; omega) | (simp [up_if] at *; omega)) (ok_ist6 130 rfl rfl rfl (ok_inc8 131 rfl rfl rfl (by first | omega | (simp [up_if]; omega) | (simp [up_if] at *; omega)) (ok_goto 132 113 rfl rfl rfl ?_))))
                    exact ok_fg [some (vr 0), some (vi s), some (vi b), some (vi k), some (vl x), none, some (vi _), some (vi _), some (vi (i + 1)), none, none, none, none] ⟨rfl, rfl, rfl, rfl, rfl, rfl, rfl, rfl, trivial⟩ (ih2 _ _ (i + 1) ⟨by omega, by omega, by omega, by omega⟩ (by omega))
                · refine ok_iconst 116 rfl rfl (by decide) (ok_goto 117 193 rfl rfl rfl (ok_callSI (M' := M_Mo_one) (as := [_]) 119 rfl rfl ml_X12_192 (s_Mo_one) ⟨Nat.le_of_ble_eq_true rfl, Nat.le_of_ble_eq_true rfl⟩ rfl (Nat.le_of_ble_eq_true rfl) (fun σ' z1 a1 => ?_)))
                  obtain ⟨hs_, a1⟩ := a1
                  rw [hs_]; clear hs_ σ'
                  have q1 : 0 ≤ z1 ∧ z1 ≤ 1 := by rw [a1]; split <;> omega
                  refine ok_lload 120 rfl rfl rfl (ok_lconst (w := 0) 121 rfl rfl rfl (by decide) (ok_lcmp_le 122 123 207 rfl rfl rfl rfl rfl (fun h199 => ?_) (fun h199 => ?_)))
                  · refine ok_iconst 126 rfl rfl (by decide) (ok_callSI (M' := M_Mo_one) (as := [_]) 127 rfl rfl ml_X12_192 (s_Mo_one) ⟨Nat.le_of_ble_eq_true rfl, Nat.le_of_ble_eq_true rfl⟩ rfl (Nat.le_of_ble_eq_true rfl) (fun σ' z2 a2 => ?_))
                    obtain ⟨hs_, a2⟩ := a2
                    rw [hs_]; clear hs_ σ'
                    have q2 : 0 ≤ z2 ∧ z2 ≤ 1 := by rw [a2]; split <;> omega
                    refine ok_iadd 128 rfl rfl (by first | omega | (simp [up_if]; omega) | (simp [up_if] at *; omega)) (ok_iadd 129 rfl rfl (by first | omega | (simp [up_if]; omega) | (simp [up_if] at *; omega)) (ok_ist6 130 rfl rfl rfl (ok_inc8 131 rfl rfl rfl (by first | omega | (simp [up_if]; omega) | (simp [up_if] at *; omega)) (ok_goto 132 113 rfl rfl rfl ?_))))
                    exact ok_fg [some (vr 0), some (vi s), some (vi b), some (vi k), some (vl x), none, some (vi _), some (vi _), some (vi (i + 1)), none, none, none, none] ⟨rfl, rfl, rfl, rfl, rfl, rfl, rfl, rfl, trivial⟩ (ih2 _ _ (i + 1) ⟨by omega, by omega, by omega, by omega⟩ (by omega))
                  · refine ok_iconst 124 rfl rfl (by decide) (ok_goto 125 208 rfl rfl rfl (ok_callSI (M' := M_Mo_one) (as := [_]) 127 rfl rfl ml_X12_192 (s_Mo_one) ⟨Nat.le_of_ble_eq_true rfl, Nat.le_of_ble_eq_true rfl⟩ rfl (Nat.le_of_ble_eq_true rfl) (fun σ' z2 a2 => ?_)))
                    obtain ⟨hs_, a2⟩ := a2
                    rw [hs_]; clear hs_ σ'
                    have q2 : 0 ≤ z2 ∧ z2 ≤ 1 := by rw [a2]; split <;> omega
                    refine ok_iadd 128 rfl rfl (by first | omega | (simp [up_if]; omega) | (simp [up_if] at *; omega)) (ok_iadd 129 rfl rfl (by first | omega | (simp [up_if]; omega) | (simp [up_if] at *; omega)) (ok_ist6 130 rfl rfl rfl (ok_inc8 131 rfl rfl rfl (by first | omega | (simp [up_if]; omega) | (simp [up_if] at *; omega)) (ok_goto 132 113 rfl rfl rfl ?_))))
                    exact ok_fg [some (vr 0), some (vi s), some (vi b), some (vi k), some (vl x), none, some (vi _), some (vi _), some (vi (i + 1)), none, none, none, none] ⟨rfl, rfl, rfl, rfl, rfl, rfl, rfl, rfl, trivial⟩ (ih2 _ _ (i + 1) ⟨by omega, by omega, by omega, by omega⟩ (by omega))
              · refine ok_iconst 107 rfl rfl (by decide) (ok_goto 108 177 rfl rfl rfl (ok_ist7 110 rfl rfl rfl (ok_iload 111 rfl rfl rfl (ok_lload 112 rfl rfl rfl (ok_lconst (w := 0) 113 rfl rfl rfl (by decide) (ok_lcmp_le 114 115 192 rfl rfl rfl rfl rfl (fun h184 => ?_) (fun h184 => ?_)))))))
                · refine ok_iconst 118 rfl rfl (by decide) (ok_callSI (M' := M_Mo_one) (as := [_]) 119 rfl rfl ml_X12_192 (s_Mo_one) ⟨Nat.le_of_ble_eq_true rfl, Nat.le_of_ble_eq_true rfl⟩ rfl (Nat.le_of_ble_eq_true rfl) (fun σ' z1 a1 => ?_))
                  obtain ⟨hs_, a1⟩ := a1
                  rw [hs_]; clear hs_ σ'
                  have q1 : 0 ≤ z1 ∧ z1 ≤ 1 := by rw [a1]; split <;> omega
                  refine ok_lload 120 rfl rfl rfl (ok_lconst (w := 0) 121 rfl rfl rfl (by decide) (ok_lcmp_le 122 123 207 rfl rfl rfl rfl rfl (fun h199 => ?_) (fun h199 => ?_)))
                  · refine ok_iconst 126 rfl rfl (by decide) (ok_callSI (M' := M_Mo_one) (as := [_]) 127 rfl rfl ml_X12_192 (s_Mo_one) ⟨Nat.le_of_ble_eq_true rfl, Nat.le_of_ble_eq_true rfl⟩ rfl (Nat.le_of_ble_eq_true rfl) (fun σ' z2 a2 => ?_))
                    obtain ⟨hs_, a2⟩ := a2
                    rw [hs_]; clear hs_ σ'
                    have q2 : 0 ≤ z2 ∧ z2 ≤ 1 := by rw [a2]; split <;> omega
                    refine ok_iadd 128 rfl rfl (by first | omega | (simp [up_if]; omega) | (simp [up_if] at *; omega)) (ok_iadd 129 rfl rfl (by first | omega | (simp [up_if]; omega) | (simp [up_if] at *; omega)) (ok_ist6 130 rfl rfl rfl (ok_inc8 131 rfl rfl rfl (by first | omega | (simp [up_if]; omega) | (simp [up_if] at *; omega)) (ok_goto 132 113 rfl rfl rfl ?_))))
                    exact ok_fg [some (vr 0), some (vi s), some (vi b), some (vi k), some (vl x), none, some (vi _), some (vi _), some (vi (i + 1)), none, none, none, none] ⟨rfl, rfl, rfl, rfl, rfl, rfl, rfl, rfl, trivial⟩ (ih2 _ _ (i + 1) ⟨by omega, by omega, by omega, by omega⟩ (by omega))
                  · refine ok_iconst 124 rfl rfl (by decide) (ok_goto 125 208 rfl rfl rfl (ok_callSI (M' := M_Mo_one) (as := [_]) 127 rfl rfl ml_X12_192 (s_Mo_one) ⟨Nat.le_of_ble_eq_true rfl, Nat.le_of_ble_eq_true rfl⟩ rfl (Nat.le_of_ble_eq_true rfl) (fun σ' z2 a2 => ?_)))
                    obtain ⟨hs_, a2⟩ := a2
                    rw [hs_]; clear hs_ σ'
                    have q2 : 0 ≤ z2 ∧ z2 ≤ 1 := by rw [a2]; split <;> omega
                    refine ok_iadd 128 rfl rfl (by first | omega | (simp [up_if]; omega) | (simp [up_if] at *; omega)) (ok_iadd 129 rfl rfl (by first | omega | (simp [up_if]; omega) | (simp [up_if] at *; omega)) (ok_ist6 130 rfl rfl rfl (ok_inc8 131 rfl rfl rfl (by first | omega | (simp [up_if]; omega) | (simp [up_if] at *; omega)) (ok_goto 132 113 rfl rfl rfl ?_))))
                    exact ok_fg [some (vr 0), some (vi s), some (vi b), some (vi k), some (vl x), none, some (vi _), some (vi _), some (vi (i + 1)), none, none, none, none] ⟨rfl, rfl, rfl, rfl, rfl, rfl, rfl, rfl, trivial⟩ (ih2 _ _ (i + 1) ⟨by omega, by omega, by omega, by omega⟩ (by omega))
                · refine ok_iconst 116 rfl rfl (by decide) (ok_goto 117 193 rfl rfl rfl (ok_callSI (M' := M_Mo_one) (as := [_]) 119 rfl rfl ml_X12_192 (s_Mo_one) ⟨Nat.le_of_ble_eq_true rfl, Nat.le_of_ble_eq_true rfl⟩ rfl (Nat.le_of_ble_eq_true rfl) (fun σ' z1 a1 => ?_)))
                  obtain ⟨hs_, a1⟩ := a1
                  rw [hs_]; clear hs_ σ'
                  have q1 : 0 ≤ z1 ∧ z1 ≤ 1 := by rw [a1]; split <;> omega
                  refine ok_lload 120 rfl rfl rfl (ok_lconst (w := 0) 121 rfl rfl rfl (by decide) (ok_lcmp_le 122 123 207 rfl rfl rfl rfl rfl (fun h199 => ?_) (fun h199 => ?_)))
                  · refine ok_iconst 126 rfl rfl (by decide) (ok_callSI (M' := M_Mo_one) (as := [_]) 127 rfl rfl ml_X12_192 (s_Mo_one) ⟨Nat.le_of_ble_eq_true rfl, Nat.le_of_ble_eq_true rfl⟩ rfl (Nat.le_of_ble_eq_true rfl) (fun σ' z2 a2 => ?_))
                    obtain ⟨hs_, a2⟩ := a2
                    rw [hs_]; clear hs_ σ'
                    have q2 : 0 ≤ z2 ∧ z2 ≤ 1 := by rw [a2]; split <;> omega
                    refine ok_iadd 128 rfl rfl (by first | omega | (simp [up_if]; omega) | (simp [up_if] at *; omega)) (ok_iadd 129 rfl rfl (by first | omega | (simp [up_if]; omega) | (simp [up_if] at *; omega)) (ok_ist6 130 rfl rfl rfl (ok_inc8 131 rfl rfl rfl (by first | omega | (simp [up_if]; omega) | (simp [up_if] at *; omega)) (ok_goto 132 113 rfl rfl rfl ?_))))
                    exact ok_fg [some (vr 0), some (vi s), some (vi b), some (vi k), some (vl x), none, some (vi _), some (vi _), some (vi (i + 1)), none, none, none, none] ⟨rfl, rfl, rfl, rfl, rfl, rfl, rfl, rfl, trivial⟩ (ih2 _ _ (i + 1) ⟨by omega, by omega, by omega, by omega⟩ (by omega))
                  · refine ok_iconst 124 rfl rfl (by decide) (ok_goto 125 208 rfl rfl rfl (ok_callSI (M' := M_Mo_one) (as := [_]) 127 rfl rfl ml_X12_192 (s_Mo_one) ⟨Nat.le_of_ble_eq_true rfl, Nat.le_of_ble_eq_true rfl⟩ rfl (Nat.le_of_ble_eq_true rfl) (fun σ' z2 a2 => ?_)))
                    obtain ⟨hs_, a2⟩ := a2
                    rw [hs_]; clear hs_ σ'
                    have q2 : 0 ≤ z2 ∧ z2 ≤ 1 := by rw [a2]; split <;> omega
                    refine ok_iadd 128 rfl rfl (by first | omega | (simp [up_if]; omega) | (simp [up_if] at *; omega)) (ok_iadd 129 rfl rfl (by first | omega | (simp [up_if]; omega) | (simp [up_if] at *; omega)) (ok_ist6 130 rfl rfl rfl (ok_inc8 131 rfl rfl rfl (by first | omega | (simp [up_if]; omega) | (simp [up_if] at *; omega)) (ok_goto 132 113 rfl rfl rfl ?_))))
                    exact ok_fg [some (vr 0), some (vi s), some (vi b), some (vi k), some (vl x), none, some (vi _), some (vi _), some (vi (i + 1)), none, none, none, none] ⟨rfl, rfl, rfl, rfl, rfl, rfl, rfl, rfl, trivial⟩ (ih2 _ _ (i + 1) ⟨by omega, by omega, by omega, by omega⟩ (by omega))
      refine ok_iload_n 40 rfl rfl rfl (ok_bipush 41 rfl rfl (by decide) (by decide) (ok_icmp_ge 42 246 rfl rfl rfl (fun h67 => ?_) (fun h67 => ?_)))
      · refine ok_iload_n 145 rfl rfl rfl (ok_iret 146 rfl rfl rfl ?_)
        exact ⟨_, rfl, rfl⟩
      · refine ok_iload_n 43 rfl rfl rfl (ok_iconst 44 rfl rfl (by decide) (ok_icmp_ge 45 85 rfl rfl rfl (fun h72 => ?_) (fun h72 => ?_)))
        · refine ok_aload_n 52 rfl rfl rfl (ok_iload_n 53 rfl rfl rfl (ok_iconst 54 rfl rfl (by decide) (ok_iconst 55 rfl rfl (by decide) (ok_callVL (M' := M_Mo_lies) (as := [_, _, _]) 56 rfl rfl ml_X12_314 (s_Mo_lies hB ⟨t1, t2⟩ e3 ⟨by omega, by omega⟩ ⟨by omega, by omega⟩) rfl rfl (Nat.le_of_ble_eq_true rfl) ⟨Nat.le_of_ble_eq_true rfl, Nat.le_of_ble_eq_true rfl⟩ rfl (Nat.le_of_ble_eq_true rfl) (fun σ' y hy => ?_)))))
          obtain ⟨hs_, hy⟩ := hy
          rw [hs_]; clear hs_ σ'
          refine ok_aload_n 57 rfl rfl rfl (ok_iload_n 58 rfl rfl rfl (ok_iload_n 59 rfl rfl rfl (ok_iconst 60 rfl rfl (by decide) (ok_isub 61 rfl rfl (by first | omega | (simp [up_if]; omega) | (simp [up_if] at *; omega)) (ok_iconst 62 rfl rfl (by decide) (ok_callVL (M' := M_Mo_lies) (as := [_, _, _]) 63 rfl rfl ml_X12_314 (s_Mo_lies hB ⟨t1, t2⟩ e3 ⟨by omega, by omega⟩ ⟨by omega, by omega⟩) rfl rfl (Nat.le_of_ble_eq_true rfl) ⟨Nat.le_of_ble_eq_true rfl, Nat.le_of_ble_eq_true rfl⟩ rfl (Nat.le_of_ble_eq_true rfl) (fun σ' y hy => ?_)))))))
          obtain ⟨hs_, hy⟩ := hy
          rw [hs_]; clear hs_ σ'
          refine ok_lsub 64 rfl rfl (by first | omega | (simp [up_if]; omega) | (simp [up_if] at *; omega)) ?_
          exact tail _ (by omega) (by omega) (by omega)
        · refine ok_aload_n 46 rfl rfl rfl (ok_iload_n 47 rfl rfl rfl (ok_iconst 48 rfl rfl (by decide) (ok_iload_n 49 rfl rfl rfl (ok_callVL (M' := M_Mo_lies) (as := [_, _, _]) 50 rfl rfl ml_X12_314 (s_Mo_lies hB ⟨t1, t2⟩ e3 ⟨by omega, by omega⟩ ⟨by omega, by omega⟩) rfl rfl (Nat.le_of_ble_eq_true rfl) ⟨Nat.le_of_ble_eq_true rfl, Nat.le_of_ble_eq_true rfl⟩ rfl (Nat.le_of_ble_eq_true rfl) (fun σ' y hy => ?_)))))
          obtain ⟨hs_, hy⟩ := hy
          rw [hs_]; clear hs_ σ'
          refine ok_goto 51 102 rfl rfl rfl ?_
          exact tail _ (by omega) (by omega) (by omega)
    · refine ok_aload_n 14 rfl rfl rfl (ok_iload_n 15 rfl rfl rfl (ok_iconst 16 rfl rfl (by decide) (ok_iconst 17 rfl rfl (by decide) (ok_callVI (M' := M_Mo_at) (as := [_, _, _]) 18 rfl rfl ml_X12_107 (s_Mo_at hB ⟨t1, t2⟩ ⟨by omega, by omega⟩ ⟨by omega, by omega⟩) rfl rfl (Nat.le_of_ble_eq_true rfl) ⟨Nat.le_of_ble_eq_true rfl, Nat.le_of_ble_eq_true rfl⟩ rfl (Nat.le_of_ble_eq_true rfl) (fun σ' z hz => ?_)))))
      rw [hz.1, hz.2]
      clear hz z σ'
      refine ok_if_le 19 36 rfl rfl rfl (fun h29 => ?_) (fun h29 => ?_)
      · refine ok_iconst 22 rfl rfl (by decide) (ok_callSI (M' := M_Mo_one) (as := [_]) 23 rfl rfl ml_X12_192 (s_Mo_one) ⟨Nat.le_of_ble_eq_true rfl, Nat.le_of_ble_eq_true rfl⟩ rfl (Nat.le_of_ble_eq_true rfl) (fun σ' z1 a1 => ?_))
        obtain ⟨hs_, a1⟩ := a1
        rw [hs_]; clear hs_ σ'
        have q1 : 0 ≤ z1 ∧ z1 ≤ 1 := by rw [a1]; split <;> omega
        refine ok_aload_n 24 rfl rfl rfl (ok_iload_n 25 rfl rfl rfl (ok_iconst 26 rfl rfl (by decide) (ok_iconst 27 rfl rfl (by decide) (ok_callVI (M' := M_Mo_at) (as := [_, _, _]) 28 rfl rfl ml_X12_107 (s_Mo_at hB ⟨t1, t2⟩ ⟨by omega, by omega⟩ ⟨by omega, by omega⟩) rfl rfl (Nat.le_of_ble_eq_true rfl) ⟨Nat.le_of_ble_eq_true rfl, Nat.le_of_ble_eq_true rfl⟩ rfl (Nat.le_of_ble_eq_true rfl) (fun σ' z hz => ?_)))))
        rw [hz.1, hz.2]
        clear hz z σ'
        refine ok_if_le 29 54 rfl rfl rfl (fun h47 => ?_) (fun h47 => ?_)
        · refine ok_iconst 32 rfl rfl (by decide) (ok_callSI (M' := M_Mo_one) (as := [_]) 33 rfl rfl ml_X12_192 (s_Mo_one) ⟨Nat.le_of_ble_eq_true rfl, Nat.le_of_ble_eq_true rfl⟩ rfl (Nat.le_of_ble_eq_true rfl) (fun σ' z2 a2 => ?_))
          obtain ⟨hs_, a2⟩ := a2
          rw [hs_]; clear hs_ σ'
          have q2 : 0 ≤ z2 ∧ z2 ≤ 1 := by rw [a2]; split <;> omega
          refine ok_iadd 34 rfl rfl (by first | omega | (simp [up_if]; omega) | (simp [up_if] at *; omega)) (ok_iret 35 rfl rfl rfl ?_)
          exact ⟨_, rfl, rfl⟩
        · refine ok_iconst 30 rfl rfl (by decide) (ok_goto 31 55 rfl rfl rfl (ok_callSI (M' := M_Mo_one) (as := [_]) 33 rfl rfl ml_X12_192 (s_Mo_one) ⟨Nat.le_of_ble_eq_true rfl, Nat.le_of_ble_eq_true rfl⟩ rfl (Nat.le_of_ble_eq_true rfl) (fun σ' z2 a2 => ?_)))
          obtain ⟨hs_, a2⟩ := a2
          rw [hs_]; clear hs_ σ'
          have q2 : 0 ≤ z2 ∧ z2 ≤ 1 := by rw [a2]; split <;> omega
          refine ok_iadd 34 rfl rfl (by first | omega | (simp [up_if]; omega) | (simp [up_if] at *; omega)) (ok_iret 35 rfl rfl rfl ?_)
          exact ⟨_, rfl, rfl⟩
      · refine ok_iconst 20 rfl rfl (by decide) (ok_goto 21 37 rfl rfl rfl (ok_callSI (M' := M_Mo_one) (as := [_]) 23 rfl rfl ml_X12_192 (s_Mo_one) ⟨Nat.le_of_ble_eq_true rfl, Nat.le_of_ble_eq_true rfl⟩ rfl (Nat.le_of_ble_eq_true rfl) (fun σ' z1 a1 => ?_)))
        obtain ⟨hs_, a1⟩ := a1
        rw [hs_]; clear hs_ σ'
        have q1 : 0 ≤ z1 ∧ z1 ≤ 1 := by rw [a1]; split <;> omega
        refine ok_aload_n 24 rfl rfl rfl (ok_iload_n 25 rfl rfl rfl (ok_iconst 26 rfl rfl (by decide) (ok_iconst 27 rfl rfl (by decide) (ok_callVI (M' := M_Mo_at) (as := [_, _, _]) 28 rfl rfl ml_X12_107 (s_Mo_at hB ⟨t1, t2⟩ ⟨by omega, by omega⟩ ⟨by omega, by omega⟩) rfl rfl (Nat.le_of_ble_eq_true rfl) ⟨Nat.le_of_ble_eq_true rfl, Nat.le_of_ble_eq_true rfl⟩ rfl (Nat.le_of_ble_eq_true rfl) (fun σ' z hz => ?_)))))
        rw [hz.1, hz.2]
        clear hz z σ'
        refine ok_if_le 29 54 rfl rfl rfl (fun h47 => ?_) (fun h47 => ?_)
        · refine ok_iconst 32 rfl rfl (by decide) (ok_callSI (M' := M_Mo_one) (as := [_]) 33 rfl rfl ml_X12_192 (s_Mo_one) ⟨Nat.le_of_ble_eq_true rfl, Nat.le_of_ble_eq_true rfl⟩ rfl (Nat.le_of_ble_eq_true rfl) (fun σ' z2 a2 => ?_))
          obtain ⟨hs_, a2⟩ := a2
          rw [hs_]; clear hs_ σ'
          have q2 : 0 ≤ z2 ∧ z2 ≤ 1 := by rw [a2]; split <;> omega
          refine ok_iadd 34 rfl rfl (by first | omega | (simp [up_if]; omega) | (simp [up_if] at *; omega)) (ok_iret 35 rfl rfl rfl ?_)
          exact ⟨_, rfl, rfl⟩
        · refine ok_iconst 30 rfl rfl (by decide) (ok_goto 31 55 rfl rfl rfl (ok_callSI (M' := M_Mo_one) (as := [_]) 33 rfl rfl ml_X12_192 (s_Mo_one) ⟨Nat.le_of_ble_eq_true rfl, Nat.le_of_ble_eq_true rfl⟩ rfl (Nat.le_of_ble_eq_true rfl) (fun σ' z2 a2 => ?_)))
          obtain ⟨hs_, a2⟩ := a2
          rw [hs_]; clear hs_ σ'
          have q2 : 0 ≤ z2 ∧ z2 ≤ 1 := by rw [a2]; split <;> omega
          refine ok_iadd 34 rfl rfl (by first | omega | (simp [up_if]; omega) | (simp [up_if] at *; omega)) (ok_iret 35 rfl rfl rfl ?_)
          exact ⟨_, rfl, rfl⟩
  · refine ok_iconst 6 rfl rfl (by decide) (ok_iret 7 rfl rfl rfl ?_)
    exact ⟨_, rfl, rfl⟩
theorem cnt_bd (σ : eS) (s : Int) (hn : 0 ≤ σ 1 s ∧ σ 1 s ≤ 8) : 0 ≤ cntB σ s ∧ cntB σ s ≤ 64 := by
  have q := sq8 hn
  have := sm_bd (f := fun k => if 0 < σ 3 (64 * s + k) then (1 : Int) else 0) (B := 1) (by decide) (n := (σ 1 s * σ 1 s).toNat) (fun k _ _ => by split <;> omega)
  unfold cntB
  omega
theorem s_Mo_bound {σ : eS} {s w : Int} (hB : iB1 σ) : MtI shB M_Mo_bound [vr 0, vi s, vi w] σ (fun σ' z => fr (fun c _ => c = 8) σ σ') := by
  refine Mt.of okM_Mo_bound (Nat.le_of_ble_eq_true rfl) (fun hk hg => ?_)
  refine ok_aload_n 0 rfl rfl rfl (ok_iload_n 1 rfl rfl rfl (ok_callVI (M' := M_Mo_isEven) (as := [_]) 2 rfl rfl ml_X12_202 (s_Mo_isEven hB) rfl rfl (Nat.le_of_ble_eq_true rfl) ⟨Nat.le_of_ble_eq_true rfl, Nat.le_of_ble_eq_true rfl⟩ rfl (Nat.le_of_ble_eq_true rfl) (fun σ' z1 a1 => ?_)))
  obtain ⟨hs_, a1⟩ := a1
  rw [hs_]; clear hs_ σ'
  refine ok_if_eq 3 33 rfl rfl rfl (fun h5 => ?_) (fun h5 => ?_)
  · refine ok_iconst 19 rfl rfl (by decide) (ok_iret 20 rfl rfl rfl ?_)
    exact ⟨_, rfl, fr.rf⟩
  · refine ok_iload_n 4 rfl rfl rfl (ok_i2l 5 rfl rfl (ok_lconst (w := 0) 6 rfl rfl rfl (by decide) (ok_lconst (w := 1) 7 rfl rfl rfl (by decide) (ok_callSI (M' := M_Mo_isIn) (as := [_, _, _]) 8 rfl rfl ml_X12_99 (s_Mo_isIn_r) ⟨Nat.le_of_ble_eq_true rfl, Nat.le_of_ble_eq_true rfl⟩ rfl (Nat.le_of_ble_eq_true rfl) (fun σ' z2 a2 => ?_)))))
    obtain ⟨hs_, a2⟩ := a2
    rw [hs_]; clear hs_ σ'
    refine ok_if_eq 9 33 rfl rfl rfl (fun h15 => ?_) (fun h15 => ?_)
    · refine ok_iconst 19 rfl rfl (by decide) (ok_iret 20 rfl rfl rfl ?_)
      exact ⟨_, rfl, fr.rf⟩
    · obtain ⟨u1, u2, u3⟩ := (yes1 a1 h5).1
      refine ok_iload_n 10 rfl rfl rfl (ok_iconst 11 rfl rfl (by decide) (ok_icmp_ne 12 35 rfl rfl rfl (fun h20 => ?_) (fun h20 => ?_)))
      · obtain ⟨ht, -⟩ := yes1 a1 h5
        obtain ⟨t1, t2, t3⟩ := id ht
        have tn := hB.1 s t1 t2
        have cb := cnt_bd σ s ⟨by omega, by omega⟩
        refine ok_iload_n 21 rfl rfl rfl (ok_if_ne 22 64 rfl rfl rfl (fun h36 => ?_) (fun h36 => ?_))
        · refine ok_aload_n 40 rfl rfl rfl (ok_iload_n 41 rfl rfl rfl (ok_callVI (M' := M_Mo_fewest) (as := [_]) 42 rfl rfl ml_X12_311 (s_Mo_fewest hB ht (by have := yes1 a2 h15; omega)) rfl rfl (Nat.le_of_ble_eq_true rfl) ⟨Nat.le_of_ble_eq_true rfl, Nat.le_of_ble_eq_true rfl⟩ rfl (Nat.le_of_ble_eq_true rfl) (fun σ' z hz => ?_)))
          refine ok_iret 43 rfl rfl rfl ?_
          first | exact ⟨_, rfl, hz.1⟩ | (rw [hz]; exact ⟨_, rfl, fr.rf⟩)
        · refine ok_aload_n 23 rfl rfl rfl (ok_iload_n 24 rfl rfl rfl (ok_callVI (M' := M_Mo_aboveNought) (as := [_]) 25 rfl rfl ml_X12_205 (s_Mo_aboveNought hB ⟨t1, t2⟩) rfl rfl (Nat.le_of_ble_eq_true rfl) ⟨Nat.le_of_ble_eq_true rfl, Nat.le_of_ble_eq_true rfl⟩ rfl (Nat.le_of_ble_eq_true rfl) (fun σ' z hz => ?_)))
          rw [hz.1, hz.2]
          clear hz z σ'
          refine ok_iconst 26 rfl rfl (by decide) (ok_aload_n 27 rfl rfl rfl (ok_getR 28 rfl rfl fl_X12_7 rfl rfl (ok_iload_n 29 rfl rfl rfl (ok_iald 30 rfl rfl rfl (by first | omega | (simp [up_if]; omega) | (simp [up_if] at *; omega)) (ok_imul 31 rfl rfl (by first | omega | (simp [up_if]; omega) | (simp [up_if] at *; omega)) (ok_isub 32 rfl rfl (by first | omega | (simp [up_if]; omega) | (simp [up_if] at *; omega)) (ok_aload_n 33 rfl rfl rfl (ok_iload_n 34 rfl rfl rfl (ok_callVI (M' := M_Mo_groupsOf) (as := [_]) 35 rfl rfl ml_X12_208 (s_Mo_groupsOf hB ⟨t1, t2⟩) rfl rfl (Nat.le_of_ble_eq_true rfl) ⟨Nat.le_of_ble_eq_true rfl, Nat.le_of_ble_eq_true rfl⟩ rfl (Nat.le_of_ble_eq_true rfl) (fun σ' z hz => ?_))))))))))
          have hz1 := hz.2
          refine ok_iadd 36 rfl rfl (by first | omega | (simp [up_if]; omega) | (simp [up_if] at *; omega)) (ok_iconst 37 rfl rfl (by decide) (ok_iadd 38 rfl rfl (by first | omega | (simp [up_if]; omega) | (simp [up_if] at *; omega)) (ok_goto 39 69 rfl rfl rfl (ok_iret 43 rfl rfl rfl ?_))))
          first | exact ⟨_, rfl, hz.1⟩ | (rw [hz]; exact ⟨_, rfl, fr.rf⟩)
      · refine ok_aload_n 13 rfl rfl rfl (ok_getR 14 rfl rfl fl_X12_7 rfl rfl (ok_iload_n 15 rfl rfl rfl (ok_iald 16 rfl rfl rfl (by first | omega | (simp [up_if]; omega) | (simp [up_if] at *; omega)) (ok_iconst 17 rfl rfl (by decide) (ok_icmp_le 18 35 rfl rfl rfl (fun h30 => ?_) (fun h30 => ?_))))))
        · obtain ⟨ht, -⟩ := yes1 a1 h5
          obtain ⟨t1, t2, t3⟩ := id ht
          have tn := hB.1 s t1 t2
          have cb := cnt_bd σ s ⟨by omega, by omega⟩
          refine ok_iload_n 21 rfl rfl rfl (ok_if_ne 22 64 rfl rfl rfl (fun h36 => ?_) (fun h36 => ?_))
          · refine ok_aload_n 40 rfl rfl rfl (ok_iload_n 41 rfl rfl rfl (ok_callVI (M' := M_Mo_fewest) (as := [_]) 42 rfl rfl ml_X12_311 (s_Mo_fewest hB ht (by have := yes1 a2 h15; omega)) rfl rfl (Nat.le_of_ble_eq_true rfl) ⟨Nat.le_of_ble_eq_true rfl, Nat.le_of_ble_eq_true rfl⟩ rfl (Nat.le_of_ble_eq_true rfl) (fun σ' z hz => ?_)))
            refine ok_iret 43 rfl rfl rfl ?_
            first | exact ⟨_, rfl, hz.1⟩ | (rw [hz]; exact ⟨_, rfl, fr.rf⟩)
          · refine ok_aload_n 23 rfl rfl rfl (ok_iload_n 24 rfl rfl rfl (ok_callVI (M' := M_Mo_aboveNought) (as := [_]) 25 rfl rfl ml_X12_205 (s_Mo_aboveNought hB ⟨t1, t2⟩) rfl rfl (Nat.le_of_ble_eq_true rfl) ⟨Nat.le_of_ble_eq_true rfl, Nat.le_of_ble_eq_true rfl⟩ rfl (Nat.le_of_ble_eq_true rfl) (fun σ' z hz => ?_)))
            rw [hz.1, hz.2]
            clear hz z σ'
            refine ok_iconst 26 rfl rfl (by decide) (ok_aload_n 27 rfl rfl rfl (ok_getR 28 rfl rfl fl_X12_7 rfl rfl (ok_iload_n 29 rfl rfl rfl (ok_iald 30 rfl rfl rfl (by first | omega | (simp [up_if]; omega) | (simp [up_if] at *; omega)) (ok_imul 31 rfl rfl (by first | omega | (simp [up_if]; omega) | (simp [up_if] at *; omega)) (ok_isub 32 rfl rfl (by first | omega | (simp [up_if]; omega) | (simp [up_if] at *; omega)) (ok_aload_n 33 rfl rfl rfl (ok_iload_n 34 rfl rfl rfl (ok_callVI (M' := M_Mo_groupsOf) (as := [_]) 35 rfl rfl ml_X12_208 (s_Mo_groupsOf hB ⟨t1, t2⟩) rfl rfl (Nat.le_of_ble_eq_true rfl) ⟨Nat.le_of_ble_eq_true rfl, Nat.le_of_ble_eq_true rfl⟩ rfl (Nat.le_of_ble_eq_true rfl) (fun σ' z hz => ?_))))))))))
            have hz1 := hz.2
            refine ok_iadd 36 rfl rfl (by first | omega | (simp [up_if]; omega) | (simp [up_if] at *; omega)) (ok_iconst 37 rfl rfl (by decide) (ok_iadd 38 rfl rfl (by first | omega | (simp [up_if]; omega) | (simp [up_if] at *; omega)) (ok_goto 39 69 rfl rfl rfl (ok_iret 43 rfl rfl rfl ?_))))
            first | exact ⟨_, rfl, hz.1⟩ | (rw [hz]; exact ⟨_, rfl, fr.rf⟩)
        · refine ok_iconst 19 rfl rfl (by decide) (ok_iret 20 rfl rfl rfl ?_)
          exact ⟨_, rfl, fr.rf⟩
theorem wo_wk {σ : eS} {s n i j : Int} (hn : 0 ≤ n ∧ n ≤ 8) (he : n = σ 1 s) (hi : 0 ≤ i ∧ i < n) (hj : 0 ≤ j ∧ j < n) : wk (wo σ s n (n * n)) i j = cB σ s i j := by
  have g := ix8 hn hi hj
  have e : wo σ s n (n * n) 0 22 = n := by simp [wo]
  unfold wk
  rw [e]
  show (if (9 : Nat) = 0 ∧ n * i + j = 22 then n else if (9 : Nat) = 9 ∧ 0 ≤ n * i + j ∧ n * i + j < n * n then σ 3 (64 * s + (n * i + j)) else _) = _
  rw [if_neg (by omega), if_pos ⟨rfl, by omega, by omega⟩, he]
  unfold cB
  congr 1
  omega
theorem wo_ev {σ : eS} {s : Int} (hB : iB1 σ) (h : evB σ s) : EvW (σ 1 s) (wk (wo σ s (σ 1 s) (σ 1 s * σ 1 s))) (rowB σ s 0) := by
  obtain ⟨⟨t1, t2, t3⟩, h0, hr, hc⟩ := h
  have tn := (hB.1 s t1 t2).2.1
  refine ⟨fun i j a b c d => ?_, fun i a b => ?_, fun j a b => ?_⟩
  · rw [wo_wk ⟨by omega, tn⟩ rfl ⟨a, b⟩ ⟨c, d⟩]
    exact (cB_bd hB ⟨t1, t2⟩ ⟨a, b⟩ ⟨c, d⟩).1
  · rw [← hr i a b]
    exact sm_cg (fun k c d => wo_wk ⟨by omega, tn⟩ rfl ⟨a, b⟩ ⟨c, by omega⟩)
  · rw [← hc j a b]
    exact sm_cg (fun k c d => wo_wk ⟨by omega, tn⟩ rfl ⟨c, by omega⟩ ⟨a, b⟩)
abbrev rgS : Nat → Int → Prop := fun c k => (c = 0 ∧ k = 22) ∨ c = 9 ∨ c = 10 ∨ c = 11
theorem wo_fr (σ : eS) (s n j : Int) : fr rgS σ (wo σ s n j) := by
  intro c k h
  simp only [rgS] at h
  show (if c = 0 ∧ k = 22 then n else if c = 9 ∧ 0 ≤ k ∧ k < j then σ 3 (64 * s + k) else σ c k) = _
  rw [if_neg (by omega), if_neg (by omega)]
abbrev rgP : Nat → Int → Prop := fun c k => (c = 0 ∧ (k = 22 ∨ (27 ≤ k ∧ k ≤ 31))) ∨ c = 9 ∨ c = 10 ∨ c = 11 ∨ c = 12 ∨ c = 13
def QP (σ σ' : eS) : Prop := fr rgP σ σ' ∧ (iK σ → iK σ')
theorem QK.iK {σ σ' : eS} {k m z : Int} (hn : nW σ) (hm : 0 ≤ m ∧ m ≤ 799999992) (h : QK σ k m σ' z) (h2 : k = 2 → 1 ≤ σ 0 31 ∧ σ 0 31 ≤ 4 ∧ σ 0 22 = 2 * σ 0 31) : iK σ' := by
  obtain ⟨f, e, z1, z2, e28, e29, e30, hw, hc⟩ := h
  obtain ⟨n1, n2⟩ := hn
  refine ⟨by omega, by omega, by omega, by omega, by omega, by omega, by rw [← e, e29]; exact hw, by rw [← e, e28]; exact hc, fun q => ?_⟩
  have := h2 (by omega)
  rw [f 0 31 (by simp only [rgK]; omega)]
  omega
