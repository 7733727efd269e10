theorem s_Mo_groupsOf {σ : eS} {s : Int} (hB : iB1 σ) (hs : 0 ≤ s ∧ s < 4) : MtI shB M_Mo_groupsOf [vr 0, vi s] σ (fun σ' z => fr (fun c _ => c = 8) σ σ' ∧ 0 ≤ z ∧ z ≤ 16) := by
  refine Mt.of okM_Mo_groupsOf (Nat.le_of_ble_eq_true rfl) (fun hk hg => ?_)
  obtain ⟨n, en⟩ : ∃ x, x = σ 1 s := ⟨_, rfl⟩
  obtain ⟨g1, g2, -⟩ := hB.1 s hs.1 hs.2
  rw [← en] at g1 g2
  have hF : ∀ τ : eS, fr (fun c _ => c = 8) σ τ → iB1 τ ∧ τ 1 s = n := fun τ f => ⟨hB.fr (fun c k q => f c k (by omega)), by rw [f 1 s (by omega), en]⟩
  refine ok_aload_n 0 rfl rfl rfl (ok_getR 1 rfl rfl fl_X12_7 rfl rfl (ok_iload_n 2 rfl rfl rfl (ok_iald 3 rfl rfl rfl (by first | omega | (simp [up_if]; omega) | (simp [up_if] at *; omega)) (ok_ist2 4 rfl rfl rfl (ok_iconst 5 rfl rfl (by decide) (ok_ist3 6 rfl rfl rfl ?_))))))
  rw [← en]
  refine lpO2 (fun (k : Int) (_ : eS) => [some (vr 0), some (vi s), some (vi n), some (vi k), none, none, none]) (fun _ τ => τ) (fun k τ => 0 ≤ k ∧ k ≤ 16 ∧ fr (fun c _ => c = 8) σ τ) (fun k _ => (16 - k).toNat) ?_ 0 σ ⟨by omega, by omega, fr.rf⟩
  rintro k τ ⟨i1, i2, i3⟩ ih
  refine ok_iload_n 7 rfl rfl rfl (ok_bipush 8 rfl rfl (by decide) (by decide) (ok_icmp_ge 9 28 rfl rfl rfl (fun h12 => ?_) (fun h12 => ?_)))
  · refine ok_iconst 17 rfl rfl (by decide) (ok_ist3 18 rfl rfl rfl ?_)
    clear ih i1 i2 h12
    refine lpO2 (fun (i : Int) (_ : eS) => [some (vr 0), some (vi s), some (vi n), some (vi i), none, none, none]) (fun _ τ => τ) (fun i τ => 0 ≤ i ∧ i ≤ n ∧ fr (fun c _ => c = 8) σ τ) (fun i _ => (n - i).toNat) ?_ 0 τ ⟨by omega, by omega, i3⟩
    clear i3 τ k
    rintro i τ ⟨i1, i2, i3⟩ ih
    refine ok_iload_n 19 rfl rfl rfl (ok_iload_n 20 rfl rfl rfl (ok_icmp_ge 21 134 rfl rfl rfl (fun h32 => ?_) (fun h32 => ?_)))
    · refine ok_iconst 72 rfl rfl (by decide) (ok_ist3 73 rfl rfl rfl (ok_iconst 74 rfl rfl (by decide) (ok_ist4 75 rfl rfl rfl ?_)))
      clear ih i1 i2 h32
      refine lpO2 (fun (a k : Int) => [some (vr 0), some (vi s), some (vi n), some (vi a), some (vi k), none, none]) (fun _ _ => τ) (fun a k => 0 ≤ k ∧ k ≤ n ∧ 0 ≤ a ∧ a ≤ 2 * k) (fun _ k => (n - k).toNat) ?_ 0 0 ⟨by omega, by omega, by omega, by omega⟩
      rintro a k ⟨k1, k2, k3, k4⟩ ih
      refine ok_iload 76 rfl rfl rfl (ok_iload_n 77 rfl rfl rfl (ok_icmp_ge 78 201 rfl rfl rfl (fun h142 => ?_) (fun h142 => ?_)))
      · refine ok_iload_n 109 rfl rfl rfl (ok_iret 110 rfl rfl rfl ?_)
        exact ⟨_, rfl, i3, by omega, by omega⟩
      · refine ok_iload_n 79 rfl rfl rfl (ok_aload_n 80 rfl rfl rfl (ok_getR 81 rfl rfl fl_X12_36 rfl rfl (ok_iload 82 rfl rfl rfl (ok_iald 83 rfl rfl rfl (by first | omega | (simp [up_if]; omega) | (simp [up_if] at *; omega)) (ok_iload 84 rfl rfl rfl (ok_icmp_ne 85 162 rfl rfl rfl (fun h155 => ?_) (fun h155 => ?_)))))))
        · refine ok_iconst 88 rfl rfl (by decide) (ok_callSI (M' := M_Mo_one) (as := [_]) 89 rfl rfl ml_X12_192 (s_Mo_one) ⟨Nat.le_of_ble_eq_true rfl, Nat.le_of_ble_eq_true rfl⟩ rfl (Nat.le_of_ble_eq_true rfl) (fun σ' z1 hz1 => ?_))
          obtain ⟨hs_, hz1⟩ := hz1
          rw [hs_]; clear hs_ σ'
          have q1 : 0 ≤ z1 ∧ z1 ≤ 1 := by rw [hz1]; split <;> omega
          refine ok_aload_n 90 rfl rfl rfl (ok_getR 91 rfl rfl fl_X12_36 rfl rfl (ok_bipush 92 rfl rfl (by decide) (by decide) (ok_iload 93 rfl rfl rfl (ok_iadd 94 rfl rfl (by first | omega | (simp [up_if]; omega) | (simp [up_if] at *; omega)) (ok_iald 95 rfl rfl rfl (by first | omega | (simp [up_if]; omega) | (simp [up_if] at *; omega)) (ok_bipush 96 rfl rfl (by decide) (by decide) (ok_iload 97 rfl rfl rfl (ok_iadd 98 rfl rfl (by first | omega | (simp [up_if]; omega) | (simp [up_if] at *; omega)) (ok_icmp_ne 99 188 rfl rfl rfl (fun h181 => ?_) (fun h181 => ?_))))))))))
          · refine ok_iconst 102 rfl rfl (by decide) (ok_callSI (M' := M_Mo_one) (as := [_]) 103 rfl rfl ml_X12_192 (s_Mo_one) ⟨Nat.le_of_ble_eq_true rfl, Nat.le_of_ble_eq_true rfl⟩ rfl (Nat.le_of_ble_eq_true rfl) (fun σ' z2 hz2 => ?_))
            obtain ⟨hs_, hz2⟩ := hz2
            rw [hs_]; clear hs_ σ'
            have q2 : 0 ≤ z2 ∧ z2 ≤ 1 := by rw [hz2]; split <;> omega
            refine ok_iadd 104 rfl rfl (by first | omega | (simp [up_if]; omega) | (simp [up_if] at *; omega)) (ok_iadd 105 rfl rfl (by first | omega | (simp [up_if]; omega) | (simp [up_if] at *; omega)) (ok_ist3 106 rfl rfl rfl (ok_inc4 107 rfl rfl rfl (by first | omega | (simp [up_if]; omega) | (simp [up_if] at *; omega)) (ok_goto 108 139 rfl rfl rfl ?_))))
            exact ih _ (k + 1) ⟨by omega, by omega, by omega, by omega⟩ (by omega)
          · refine ok_iconst 100 rfl rfl (by decide) (ok_goto 101 189 rfl rfl rfl (ok_callSI (M' := M_Mo_one) (as := [_]) 103 rfl rfl ml_X12_192 (s_Mo_one) ⟨Nat.le_of_ble_eq_true rfl, Nat.le_of_ble_eq_true rfl⟩ rfl (Nat.le_of_ble_eq_true rfl) (fun σ' z2 hz2 => ?_)))
            obtain ⟨hs_, hz2⟩ := hz2
            rw [hs_]; clear hs_ σ'
            have q2 : 0 ≤ z2 ∧ z2 ≤ 1 := by rw [hz2]; split <;> omega
            refine ok_iadd 104 rfl rfl (by first | omega | (simp [up_if]; omega) | (simp [up_if] at *; omega)) (ok_iadd 105 rfl rfl (by first | omega | (simp [up_if]; omega) | (simp [up_if] at *; omega)) (ok_ist3 106 rfl rfl rfl (ok_inc4 107 rfl rfl rfl (by first | omega | (simp [up_if]; omega) | (simp [up_if] at *; omega)) (ok_goto 108 139 rfl rfl rfl ?_))))
            exact ih _ (k + 1) ⟨by omega, by omega, by omega, by omega⟩ (by omega)
        · refine ok_iconst 86 rfl rfl (by decide) (ok_goto 87 163 rfl rfl rfl (ok_callSI (M' := M_Mo_one) (as := [_]) 89 rfl rfl ml_X12_192 (s_Mo_one) ⟨Nat.le_of_ble_eq_true rfl, Nat.le_of_ble_eq_true rfl⟩ rfl (Nat.le_of_ble_eq_true rfl) (fun σ' z1 hz1 => ?_)))
          obtain ⟨hs_, hz1⟩ := hz1
          rw [hs_]; clear hs_ σ'
          have q1 : 0 ≤ z1 ∧ z1 ≤ 1 := by rw [hz1]; split <;> omega
          refine ok_aload_n 90 rfl rfl rfl (ok_getR 91 rfl rfl fl_X12_36 rfl rfl (ok_bipush 92 rfl rfl (by decide) (by decide) (ok_iload 93 rfl rfl rfl (ok_iadd 94 rfl rfl (by first | omega | (simp [up_if]; omega) | (simp [up_if] at *; omega)) (ok_iald 95 rfl rfl rfl (by first | omega | (simp [up_if]; omega) | (simp [up_if] at *; omega)) (ok_bipush 96 rfl rfl (by decide) (by decide) (ok_iload 97 rfl rfl rfl (ok_iadd 98 rfl rfl (by first | omega | (simp [up_if]; omega) | (simp [up_if] at *; omega)) (ok_icmp_ne 99 188 rfl rfl rfl (fun h181 => ?_) (fun h181 => ?_))))))))))
          · refine ok_iconst 102 rfl rfl (by decide) (ok_callSI (M' := M_Mo_one) (as := [_]) 103 rfl rfl ml_X12_192 (s_Mo_one) ⟨Nat.le_of_ble_eq_true rfl, Nat.le_of_ble_eq_true rfl⟩ rfl (Nat.le_of_ble_eq_true rfl) (fun σ' z2 hz2 => ?_))
            obtain ⟨hs_, hz2⟩ := hz2
            rw [hs_]; clear hs_ σ'
            have q2 : 0 ≤ z2 ∧ z2 ≤ 1 := by rw [hz2]; split <;> omega
            refine ok_iadd 104 rfl rfl (by first | omega | (simp [up_if]; omega) | (simp [up_if] at *; omega)) (ok_iadd 105 rfl rfl (by first | omega | (simp [up_if]; omega) | (simp [up_if] at *; omega)) (ok_ist3 106 rfl rfl rfl (ok_inc4 107 rfl rfl rfl (by first | omega | (simp [up_if]; omega) | (simp [up_if] at *; omega)) (ok_goto 108 139 rfl rfl rfl ?_))))
            exact ih _ (k + 1) ⟨by omega, by omega, by omega, by omega⟩ (by omega)
          · refine ok_iconst 100 rfl rfl (by decide) (ok_goto 101 189 rfl rfl rfl (ok_callSI (M' := M_Mo_one) (as := [_]) 103 rfl rfl ml_X12_192 (s_Mo_one) ⟨Nat.le_of_ble_eq_true rfl, Nat.le_of_ble_eq_true rfl⟩ rfl (Nat.le_of_ble_eq_true rfl) (fun σ' z2 hz2 => ?_)))
            obtain ⟨hs_, hz2⟩ := hz2
            rw [hs_]; clear hs_ σ'
            have q2 : 0 ≤ z2 ∧ z2 ≤ 1 := by rw [hz2]; split <;> omega
            refine ok_iadd 104 rfl rfl (by first | omega | (simp [up_if]; omega) | (simp [up_if] at *; omega)) (ok_iadd 105 rfl rfl (by first | omega | (simp [up_if]; omega) | (simp [up_if] at *; omega)) (ok_ist3 106 rfl rfl rfl (ok_inc4 107 rfl rfl rfl (by first | omega | (simp [up_if]; omega) | (simp [up_if] at *; omega)) (ok_goto 108 139 rfl rfl rfl ?_))))
            exact ih _ (k + 1) ⟨by omega, by omega, by omega, by omega⟩ (by omega)
    · refine ok_iconst 22 rfl rfl (by decide) (ok_ist4 23 rfl rfl rfl ?_)
      refine lpO2 (fun (j : Int) (_ : eS) => [some (vr 0), some (vi s), some (vi n), some (vi i), some (vi j), none, none]) (fun _ τ => τ) (fun j τ => 0 ≤ j ∧ j ≤ n ∧ fr (fun c _ => c = 8) σ τ) (fun j _ => (n - j).toNat) ?_ 0 τ ⟨by omega, by omega, i3⟩
      clear i3 τ
      rintro j τ ⟨j1, j2, i3⟩ ih2
      obtain ⟨b1, b2⟩ := hF τ i3
      have back : ∀ (τ : eS) (x y : Option eV), fr (fun c _ => c = 8) σ τ → j < n → Ok shB M_Mo_groupsOf 122 [some (vr 0), some (vi s), some (vi n), some (vi i), some (vi j), x, y] [] τ (fun σ' v => ∃ z, v = some (vi z) ∧ fr (fun c _ => c = 8) σ σ' ∧ 0 ≤ z ∧ z ≤ 16) := by
        intro τ x y f hj
        refine ok_inc4 68 rfl rfl rfl (by first | omega | (simp [up_if]; omega) | (simp [up_if] at *; omega)) (ok_goto 69 38 rfl rfl rfl ?_)
        exact ok_fg [some (vr 0), some (vi s), some (vi n), some (vi i), some (vi (j + 1)), none, none] ⟨rfl, rfl, rfl, rfl, rfl, trivial⟩ (ih2 (j + 1) τ ⟨by omega, by omega, f⟩ (by omega))
      refine ok_iload 24 rfl rfl rfl (ok_iload_n 25 rfl rfl rfl (ok_icmp_ge 26 128 rfl rfl rfl (fun h41 => ?_) (fun h41 => ?_)))
      · refine ok_inc3 70 rfl rfl rfl (by first | omega | (simp [up_if]; omega) | (simp [up_if] at *; omega)) (ok_goto 71 30 rfl rfl rfl ?_)
        exact ok_fg [some (vr 0), some (vi s), some (vi n), some (vi (i + 1)), none, none, none] ⟨rfl, rfl, rfl, rfl, trivial⟩ (ih (i + 1) τ ⟨by omega, by omega, i3⟩ (by omega))
      · refine ok_aload_n 27 rfl rfl rfl (ok_getR 28 rfl rfl fl_X12_36 rfl rfl (ok_bipush 29 rfl rfl (by decide) (by decide) (ok_iload 30 rfl rfl rfl (ok_iadd 31 rfl rfl (by first | omega | (simp [up_if]; omega) | (simp [up_if] at *; omega)) (ok_iald 32 rfl rfl rfl (by first | omega | (simp [up_if]; omega) | (simp [up_if] at *; omega)) (ok_ist5 33 rfl rfl rfl (ok_aload_n 34 rfl rfl rfl (ok_iload_n 35 rfl rfl rfl (ok_iload_n 36 rfl rfl rfl (ok_iload 37 rfl rfl rfl (ok_callVI (M' := M_Mo_at) (as := [_, _, _]) 38 rfl rfl ml_X12_107 (s_Mo_at b1 hs ⟨by omega, by omega⟩ ⟨by omega, by omega⟩) rfl rfl (Nat.le_of_ble_eq_true rfl) ⟨Nat.le_of_ble_eq_true rfl, Nat.le_of_ble_eq_true rfl⟩ rfl (Nat.le_of_ble_eq_true rfl) (fun σ' z hz => ?_))))))))))))
        rw [hz.1, hz.2]
        clear hz z σ'
        refine ok_if_eq 39 122 rfl rfl rfl (fun h64 => ?_) (fun h64 => ?_)
        · exact back τ _ _ i3 (by omega)
        · refine ok_iload 40 rfl rfl rfl (ok_aload_n 41 rfl rfl rfl (ok_getR 42 rfl rfl fl_X12_36 rfl rfl (ok_iload_n 43 rfl rfl rfl (ok_iald 44 rfl rfl rfl (by first | omega | (simp [up_if]; omega) | (simp [up_if] at *; omega)) (ok_icmp_ne 45 81 rfl rfl rfl (fun h75 => ?_) (fun h75 => ?_))))))
          · refine ok_iconst 47 rfl rfl (by decide) (ok_ist6 48 rfl rfl rfl ?_)
            refine lpO2 (fun (k : Int) (_ : eS) => [some (vr 0), some (vi s), some (vi n), some (vi i), some (vi j), some (vi (τ 8 (8 + j))), some (vi k)]) (fun _ τ => τ) (fun k τ => 0 ≤ k ∧ k ≤ 16 ∧ fr (fun c _ => c = 8) σ τ) (fun k _ => (16 - k).toNat) ?_ 0 τ ⟨by omega, by omega, i3⟩
            rintro k ρ ⟨k1, k2, k3⟩ ih3
            refine ok_iload 49 rfl rfl rfl (ok_bipush 50 rfl rfl (by decide) (by decide) (ok_icmp_ge 51 122 rfl rfl rfl (fun h88 => ?_) (fun h88 => ?_)))
            · exact back ρ _ _ k3 (by omega)
            · refine ok_aload_n 52 rfl rfl rfl (ok_getR 53 rfl rfl fl_X12_36 rfl rfl (ok_iload 54 rfl rfl rfl (ok_iald 55 rfl rfl rfl (by first | omega | (simp [up_if]; omega) | (simp [up_if] at *; omega)) (ok_iload 56 rfl rfl rfl (ok_icmp_ne 57 116 rfl rfl rfl (fun h100 => ?_) (fun h100 => ?_))))))
              · refine ok_inc6 66 rfl rfl rfl (by first | omega | (simp [up_if]; omega) | (simp [up_if] at *; omega)) (ok_goto 67 84 rfl rfl rfl ?_)
                first | exact ih3 (k + 1) _ ⟨by omega, by omega, k3⟩ (by omega) | exact ih3 (k + 1) _ ⟨by omega, by omega, fr_up k3 rfl⟩ (by omega)
              · refine ok_aload_n 58 rfl rfl rfl (ok_getR 59 rfl rfl fl_X12_36 rfl rfl (ok_iload 60 rfl rfl rfl (ok_aload_n 61 rfl rfl rfl (ok_getR 62 rfl rfl fl_X12_36 rfl rfl (ok_iload_n 63 rfl rfl rfl (ok_iald 64 rfl rfl rfl (by first | omega | (simp [up_if]; omega) | (simp [up_if] at *; omega)) (ok_iast 65 rfl rfl rfl (by first | omega | (simp [up_if]; omega) | (simp [up_if] at *; omega)) (ok_inc6 66 rfl rfl rfl (by first | omega | (simp [up_if]; omega) | (simp [up_if] at *; omega)) (ok_goto 67 84 rfl rfl rfl ?_)))))))))
                first | exact ih3 (k + 1) _ ⟨by omega, by omega, k3⟩ (by omega) | exact ih3 (k + 1) _ ⟨by omega, by omega, fr_up k3 rfl⟩ (by omega)
          · refine ok_goto 46 122 rfl rfl rfl ?_
            exact back τ _ _ i3 (by omega)
  · refine ok_aload_n 10 rfl rfl rfl (ok_getR 11 rfl rfl fl_X12_36 rfl rfl (ok_iload_n 12 rfl rfl rfl (ok_iload_n 13 rfl rfl rfl (ok_iast 14 rfl rfl rfl (by first | omega | (simp [up_if]; omega) | (simp [up_if] at *; omega)) (ok_inc3 15 rfl rfl rfl (by first | omega | (simp [up_if]; omega) | (simp [up_if] at *; omega)) (ok_goto 16 9 rfl rfl rfl ?_))))))
    exact ih (k + 1) _ ⟨by omega, by omega, fr_up i3 rfl⟩ (by omega)
def cntB (σ : eS) (s : Int) : Int := sm (fun k => if 0 < σ 3 (64 * s + k) then 1 else 0) (σ 1 s * σ 1 s).toNat
theorem s_Mo_aboveNought {σ : eS} {s : Int} (hB : iB1 σ) (hs : 0 ≤ s ∧ s < 4) : MtI shB M_Mo_aboveNought [vr 0, vi s] σ (fun σ' z => σ' = σ ∧ z = cntB σ s) := by
  refine Mt.of okM_Mo_aboveNought (Nat.le_of_ble_eq_true rfl) (fun hk hg => ?_)
  obtain ⟨n, en⟩ : ∃ x, x = σ 1 s := ⟨_, rfl⟩
  obtain ⟨g1, g2, -⟩ := hB.1 s hs.1 hs.2
  rw [← en] at g1 g2
  obtain ⟨q1, q2⟩ := sq8 ⟨g1, g2⟩
  refine ok_iconst 0 rfl rfl (by decide) (ok_ist2 1 rfl rfl rfl (ok_iconst 2 rfl rfl (by decide) (ok_ist3 3 rfl rfl rfl ?_)))
  refine lpO (fun k : Int => [some (vr 0), some (vi s), some (vi (sm (fun k => if 0 < σ 3 (64 * s + k) then 1 else 0) k.toNat)), some (vi k)]) (fun _ => σ) (fun k => 0 ≤ k ∧ k ≤ n * n) (fun k => (n * n - k).toNat) ?_ 0 ⟨by omega, by omega⟩
  rintro k ⟨k1, k2⟩ ih
  have hb := sm_bd (f := fun k => if 0 < σ 3 (64 * s + k) then 1 else 0) (B := 1) (by decide) (n := k.toNat) (fun k a b => by split <;> omega)
  refine ok_iload_n 4 rfl rfl rfl (ok_aload_n 5 rfl rfl rfl (ok_getR 6 rfl rfl fl_X12_7 rfl rfl (ok_iload_n 7 rfl rfl rfl (ok_iald 8 rfl rfl rfl (by first | omega | (simp [up_if]; omega) | (simp [up_if] at *; omega)) (ok_aload_n 9 rfl rfl rfl (ok_getR 10 rfl rfl fl_X12_7 rfl rfl (ok_iload_n 11 rfl rfl rfl (ok_iald 12 rfl rfl rfl (by first | omega | (simp [up_if]; omega) | (simp [up_if] at *; omega)) (ok_imul 13 rfl rfl (by rw [← en]; omega) ?_)))))))))
  rw [← en]
  refine ok_icmp_ge 14 52 rfl rfl rfl (fun h18 => ?_) (fun h18 => ?_)
  · refine ok_iload_n 33 rfl rfl rfl (ok_iret 34 rfl rfl rfl ?_)
    exact ⟨_, rfl, rfl, by unfold cntB; rw [← en, show k = n * n by omega]⟩
  · refine ok_iload_n 15 rfl rfl rfl (ok_aload_n 16 rfl rfl rfl (ok_getR 17 rfl rfl fl_X12_16 rfl rfl (ok_bipush 18 rfl rfl (by decide) (by decide) (ok_iload_n 19 rfl rfl rfl (ok_imul 20 rfl rfl (by first | omega | (simp [up_if]; omega) | (simp [up_if] at *; omega)) (ok_iload_n 21 rfl rfl rfl (ok_iadd 22 rfl rfl (by first | omega | (simp [up_if]; omega) | (simp [up_if] at *; omega)) (ok_iald 23 rfl rfl rfl (by first | omega | (simp [up_if]; omega) | (simp [up_if] at *; omega)) (ok_if_le 24 40 rfl rfl rfl (fun h33 => ?_) (fun h33 => ?_))))))))))
    · refine ok_iconst 27 rfl rfl (by decide) (ok_callSI (M' := M_Mo_one) (as := [_]) 28 rfl rfl ml_X12_192 (s_Mo_one) ⟨Nat.le_of_ble_eq_true rfl, Nat.le_of_ble_eq_true rfl⟩ rfl (Nat.le_of_ble_eq_true rfl) (fun σ' z1 hz1 => ?_))
      obtain ⟨hs_, hz1⟩ := hz1
      rw [hs_]; clear hs_ σ'
      have q3 : z1 = if 0 < σ 3 (64 * s + k) then 1 else 0 := by rw [hz1]; first | rw [if_pos (by omega), if_neg (by omega)] | rw [if_neg (by omega), if_pos (by omega)]
      have q4 : 0 ≤ z1 ∧ z1 ≤ 1 := by rw [q3]; split <;> omega
      refine ok_iadd 29 rfl rfl (by first | omega | (simp [up_if]; omega) | (simp [up_if] at *; omega)) (ok_ist2 30 rfl rfl rfl (ok_inc3 31 rfl rfl rfl (by first | omega | (simp [up_if]; omega) | (simp [up_if] at *; omega)) (ok_goto 32 4 rfl rfl rfl ?_)))
      have e := sm_s (fun k => if 0 < σ 3 (64 * s + k) then 1 else 0) k1
      rw [q3, ← e]
      exact ih (k + 1) ⟨by omega, by omega⟩ (by omega)
    · refine ok_iconst 25 rfl rfl (by decide) (ok_goto 26 41 rfl rfl rfl (ok_callSI (M' := M_Mo_one) (as := [_]) 28 rfl rfl ml_X12_192 (s_Mo_one) ⟨Nat.le_of_ble_eq_true rfl, Nat.le_of_ble_eq_true rfl⟩ rfl (Nat.le_of_ble_eq_true rfl) (fun σ' z1 hz1 => ?_)))
      obtain ⟨hs_, hz1⟩ := hz1
      rw [hs_]; clear hs_ σ'
      have q3 : z1 = if 0 < σ 3 (64 * s + k) then 1 else 0 := by rw [hz1]; first | rw [if_pos (by omega), if_neg (by omega)] | rw [if_neg (by omega), if_pos (by omega)]
      have q4 : 0 ≤ z1 ∧ z1 ≤ 1 := by rw [q3]; split <;> omega
      refine ok_iadd 29 rfl rfl (by first | omega | (simp [up_if]; omega) | (simp [up_if] at *; omega)) (ok_ist2 30 rfl rfl rfl (ok_inc3 31 rfl rfl rfl (by first | omega | (simp [up_if]; omega) | (simp [up_if] at *; omega)) (ok_goto 32 4 rfl rfl rfl ?_)))
      have e := sm_s (fun k => if 0 < σ 3 (64 * s + k) then 1 else 0) k1
      rw [q3, ← e]
      exact ih (k + 1) ⟨by omega, by omega⟩ (by omega)
theorem s_Mo_look {σ : eS} {s w : Int} (hB : iB1 σ) : MtI shB M_Mo_look [vr 0, vi s, vi w] σ (fun σ' z => fr (fun c _ => c = 8) σ σ') := by
  refine Mt.of okM_Mo_look (Nat.le_of_ble_eq_true rfl) (fun hk hg => ?_)
  by_cases hs : 0 ≤ s ∧ s < 4
  · obtain ⟨n, en⟩ : ∃ x, x = σ 1 s := ⟨_, rfl⟩
    obtain ⟨g1, g2, -⟩ := hB.1 s hs.1 hs.2
    rw [← en] at g1 g2
    obtain ⟨q1, q2⟩ := sq8 ⟨g1, g2⟩
    refine ok_iload_n 0 rfl rfl rfl (ok_callSI (M' := M_Mo_isSlot) (as := [_]) 1 rfl rfl ml_X12_103 (s_Mo_isSlot_y hs) ⟨Nat.le_of_ble_eq_true rfl, Nat.le_of_ble_eq_true rfl⟩ rfl (Nat.le_of_ble_eq_true rfl) (fun σ' z hz => ?_))
    rw [hz.1, hz.2]
    clear hz z σ'
    refine ok_if_ne 2 10 rfl rfl rfl (fun h4 => ?_) (fun h4 => ?_)
    · refine ok_iconst 5 rfl rfl (by decide) (ok_ist3 6 rfl rfl rfl (ok_iconst 7 rfl rfl (by decide) (ok_ist4 8 rfl rfl rfl ?_)))
      refine lpO2 (fun m k : Int => [some (vr 0), some (vi s), some (vi w), some (vi m), some (vi k)]) (fun _ _ => σ) (fun _ k => 0 ≤ k ∧ k ≤ n * n) (fun _ k => (n * n - k).toNat) ?_ 0 0 ⟨by omega, by omega⟩
      rintro m k ⟨k1, k2⟩ ih
      refine ok_iload 9 rfl rfl rfl (ok_aload_n 10 rfl rfl rfl (ok_getR 11 rfl rfl fl_X12_7 rfl rfl (ok_iload_n 12 rfl rfl rfl (ok_iald 13 rfl rfl rfl (by first | omega | (simp [up_if]; omega) | (simp [up_if] at *; omega)) (ok_aload_n 14 rfl rfl rfl (ok_getR 15 rfl rfl fl_X12_7 rfl rfl (ok_iload_n 16 rfl rfl rfl (ok_iald 17 rfl rfl rfl (by first | omega | (simp [up_if]; omega) | (simp [up_if] at *; omega)) (ok_imul 18 rfl rfl (by rw [← en]; omega) ?_)))))))))
      rw [← en]
      refine ok_icmp_ge 19 56 rfl rfl rfl (fun h30 => ?_) (fun h30 => ?_)
      · have hw : w = 0 ∨ w = 1 ∨ w = 2 ∨ w = 3 ∨ w = 4 ∨ w = 5 ∨ (w < 0 ∨ 5 < w) := by omega
        refine ok_iload_n 33 rfl rfl rfl ?_
        rcases hw with rfl | rfl | rfl | rfl | rfl | rfl | hw
        · refine ok_tin (len := 39) 34 96 rfl rfl (by omega) (by omega) rfl rfl ?_
          refine ok_aload_n 35 rfl rfl rfl (ok_getR 36 rfl rfl fl_X12_7 rfl rfl (ok_iload_n 37 rfl rfl rfl (ok_iald 38 rfl rfl rfl (by first | omega | (simp [up_if]; omega) | (simp [up_if] at *; omega)) (ok_iret 39 rfl rfl rfl ?_))))
          exact ⟨_, rfl, fr.rf⟩
        · refine ok_tin (len := 39) 34 103 rfl rfl (by omega) (by omega) rfl rfl ?_
          refine ok_aload_n 40 rfl rfl rfl (ok_getR 41 rfl rfl fl_X12_13 rfl rfl (ok_iload_n 42 rfl rfl rfl (ok_iald 43 rfl rfl rfl (by first | omega | (simp [up_if]; omega) | (simp [up_if] at *; omega)) (ok_iret 44 rfl rfl rfl ?_))))
          exact ⟨_, rfl, fr.rf⟩
        · refine ok_tin (len := 39) 34 110 rfl rfl (by omega) (by omega) rfl rfl ?_
          refine ok_aload_n 45 rfl rfl rfl (ok_iload_n 46 rfl rfl rfl (ok_callVI (M' := M_Mo_isEven) (as := [_]) 47 rfl rfl ml_X12_202 (s_Mo_isEven hB) rfl rfl (Nat.le_of_ble_eq_true rfl) ⟨Nat.le_of_ble_eq_true rfl, Nat.le_of_ble_eq_true rfl⟩ rfl (Nat.le_of_ble_eq_true rfl) (fun σ' z hz => ?_)))
          obtain ⟨hs_, hz⟩ := hz
          rw [hs_]; clear hs_ σ'
          refine ok_if_eq 48 128 rfl rfl rfl (fun h115 => ?_) (fun h115 => ?_)
          · refine ok_iconst 55 rfl rfl (by decide) (ok_iret 56 rfl rfl rfl ?_)
            exact ⟨_, rfl, fr.rf⟩
          · have hr : evB σ s := by
              rcases hz with q | q
              · exact q.2
              · omega
            have hb := rowB_bd hB hs (i := 0) ⟨by omega, hr.1.2.2⟩
            refine ok_aload_n 49 rfl rfl rfl (ok_iload_n 50 rfl rfl rfl (ok_iconst 51 rfl rfl (by decide) (ok_callVL (M' := M_Mo_rowOf) (as := [_, _]) 52 rfl rfl ml_X12_114 (s_Mo_rowOf hB hs ⟨by omega, hr.1.2.2⟩) rfl rfl (Nat.le_of_ble_eq_true rfl) ⟨Nat.le_of_ble_eq_true rfl, Nat.le_of_ble_eq_true rfl⟩ rfl (Nat.le_of_ble_eq_true rfl) (fun σ' z hz => ?_))))
            rw [hz.1, hz.2]
            clear hz z σ'
            refine ok_l2i 53 rfl rfl (by first | omega | (simp [up_if]; omega) | (simp [up_if] at *; omega)) (ok_goto 54 129 rfl rfl rfl (ok_iret 56 rfl rfl rfl ?_))
            exact ⟨_, rfl, fr.rf⟩
        · refine ok_tin (len := 39) 34 130 rfl rfl (by omega) (by omega) rfl rfl ?_
          refine ok_aload_n 57 rfl rfl rfl (ok_iload_n 58 rfl rfl rfl (ok_callVI (M' := M_Mo_aboveNought) (as := [_]) 59 rfl rfl ml_X12_205 (s_Mo_aboveNought hB hs) rfl rfl (Nat.le_of_ble_eq_true rfl) ⟨Nat.le_of_ble_eq_true rfl, Nat.le_of_ble_eq_true rfl⟩ rfl (Nat.le_of_ble_eq_true rfl) (fun σ' z hz => ?_)))
          rw [hz.1, hz.2]
          clear hz z σ'
          refine ok_iret 60 rfl rfl rfl ?_
          exact ⟨_, rfl, fr.rf⟩
        · refine ok_tin (len := 39) 34 136 rfl rfl (by omega) (by omega) rfl rfl ?_
          refine ok_iload_n 61 rfl rfl rfl (ok_iret 62 rfl rfl rfl ?_)
          exact ⟨_, rfl, fr.rf⟩
        · refine ok_tin (len := 39) 34 138 rfl rfl (by omega) (by omega) rfl rfl ?_
          refine ok_aload_n 63 rfl rfl rfl (ok_iload_n 64 rfl rfl rfl (ok_callVI (M' := M_Mo_groupsOf) (as := [_]) 65 rfl rfl ml_X12_208 (s_Mo_groupsOf hB hs) rfl rfl (Nat.le_of_ble_eq_true rfl) ⟨Nat.le_of_ble_eq_true rfl, Nat.le_of_ble_eq_true rfl⟩ rfl (Nat.le_of_ble_eq_true rfl) (fun σ' z hz => ?_)))
          refine ok_iret 66 rfl rfl rfl ?_
          exact ⟨_, rfl, hz.1⟩
        · refine ok_tout (len := 39) 34 144 rfl rfl hw rfl ?_
          refine ok_bipush 67 rfl rfl (by decide) (by decide) (ok_iret 68 rfl rfl rfl ?_)
          exact ⟨_, rfl, fr.rf⟩
      · refine ok_iload_n 20 rfl rfl rfl (ok_aload_n 21 rfl rfl rfl (ok_getR 22 rfl rfl fl_X12_16 rfl rfl (ok_bipush 23 rfl rfl (by decide) (by decide) (ok_iload_n 24 rfl rfl rfl (ok_imul 25 rfl rfl (by first | omega | (simp [up_if]; omega) | (simp [up_if] at *; omega)) (ok_iload 26 rfl rfl rfl (ok_iadd 27 rfl rfl (by first | omega | (simp [up_if]; omega) | (simp [up_if] at *; omega)) (ok_iald 28 rfl rfl rfl (by first | omega | (simp [up_if]; omega) | (simp [up_if] at *; omega)) (ok_mmax 29 rfl rfl ml_X12_196 ⟨Nat.le_of_ble_eq_true rfl, Nat.le_of_ble_eq_true rfl⟩ (ok_ist3 30 rfl rfl rfl (ok_inc4 31 rfl rfl rfl (by first | omega | (simp [up_if]; omega) | (simp [up_if] at *; omega)) (ok_goto 32 15 rfl rfl rfl ?_))))))))))))
        exact ih _ (k + 1) ⟨by omega, by omega⟩ (by omega)
    · omega
  · refine ok_iload_n 0 rfl rfl rfl (ok_callSI (M' := M_Mo_isSlot) (as := [_]) 1 rfl rfl ml_X12_103 (s_Mo_isSlot_n hs) ⟨Nat.le_of_ble_eq_true rfl, Nat.le_of_ble_eq_true rfl⟩ rfl (Nat.le_of_ble_eq_true rfl) (fun σ' z hz => ?_))
    rw [hz.1, hz.2]
    clear hz z σ'
    refine ok_if_ne 2 10 rfl rfl rfl (fun h4 => ?_) (fun h4 => ?_)
    · omega
    · refine ok_bipush 3 rfl rfl (by decide) (by decide) (ok_iret 4 rfl rfl rfl ?_)
      exact ⟨_, rfl, fr.rf⟩
def celB (σ : eS) (s i j : Int) : Prop := tabB σ s ∧ 0 ≤ i ∧ i < σ 1 s ∧ 0 ≤ j ∧ j < σ 1 s
theorem s_Mo_isCell {σ : eS} {s i j : Int} (hB : iB1 σ) : MtI shB M_Mo_isCell [vr 0, vi s, vi i, vi j] σ (fun σ' z => σ' = σ ∧ ((z = 1 ∧ celB σ s i j) ∨ (z = 0 ∧ ¬ celB σ s i j))) := by
  refine Mt.of okM_Mo_isCell (Nat.le_of_ble_eq_true rfl) (fun hk hg => ?_)
  by_cases ht : tabB σ s
  · obtain ⟨t1, t2, t3⟩ := id ht
    obtain ⟨g1, g2, -⟩ := hB.1 s t1 t2
    refine ok_aload_n 0 rfl rfl rfl (ok_iload_n 1 rfl rfl rfl (ok_callVI (M' := M_Mo_isTable) (as := [_]) 2 rfl rfl ml_X12_111 (s_Mo_isTable_y ht) rfl rfl (Nat.le_of_ble_eq_true rfl) ⟨Nat.le_of_ble_eq_true rfl, Nat.le_of_ble_eq_true rfl⟩ rfl (Nat.le_of_ble_eq_true rfl) (fun σ' z hz => ?_)))
    rw [hz.1, hz.2]
    clear hz z σ'
    refine ok_if_eq 3 48 rfl rfl rfl (fun h5 => ?_) (fun h5 => ?_)
    · omega
    · refine ok_iload_n 4 rfl rfl rfl (ok_i2l 5 rfl rfl (ok_lconst (w := 0) 6 rfl rfl rfl (by decide) (ok_aload_n 7 rfl rfl rfl (ok_getR 8 rfl rfl fl_X12_7 rfl rfl (ok_iload_n 9 rfl rfl rfl (ok_iald 10 rfl rfl rfl (by first | omega | (simp [up_if]; omega) | (simp [up_if] at *; omega)) (ok_iconst 11 rfl rfl (by decide) (ok_isub 12 rfl rfl (by first | omega | (simp [up_if]; omega) | (simp [up_if] at *; omega)) (ok_i2l 13 rfl rfl (ok_callSI (M' := M_Mo_isIn) (as := [_, _, _]) 14 rfl rfl ml_X12_99 (s_Mo_isIn) ⟨Nat.le_of_ble_eq_true rfl, Nat.le_of_ble_eq_true rfl⟩ rfl (Nat.le_of_ble_eq_true rfl) (fun σ' z1 h1 => ?_)))))))))))
      obtain ⟨hs_, h1⟩ := h1
      rw [hs_]; clear hs_ σ'
      refine ok_if_eq 15 48 rfl rfl rfl (fun h23 => ?_) (fun h23 => ?_)
      · refine ok_iconst 30 rfl rfl (by decide) (ok_zret 31 rfl rfl rfl (by first | omega | (simp [up_if]; omega) | (simp [up_if] at *; omega)) ?_)
        refine ⟨_, rfl, rfl, ?_⟩
        unfold celB
        simp only [ht, true_and]
        first | (split at h1 <;> split at h2 <;> omega) | (split at h1 <;> omega)
      · refine ok_iload_n 16 rfl rfl rfl (ok_i2l 17 rfl rfl (ok_lconst (w := 0) 18 rfl rfl rfl (by decide) (ok_aload_n 19 rfl rfl rfl (ok_getR 20 rfl rfl fl_X12_7 rfl rfl (ok_iload_n 21 rfl rfl rfl (ok_iald 22 rfl rfl rfl (by first | omega | (simp [up_if]; omega) | (simp [up_if] at *; omega)) (ok_iconst 23 rfl rfl (by decide) (ok_isub 24 rfl rfl (by first | omega | (simp [up_if]; omega) | (simp [up_if] at *; omega)) (ok_i2l 25 rfl rfl (ok_callSI (M' := M_Mo_isIn) (as := [_, _, _]) 26 rfl rfl ml_X12_99 (s_Mo_isIn) ⟨Nat.le_of_ble_eq_true rfl, Nat.le_of_ble_eq_true rfl⟩ rfl (Nat.le_of_ble_eq_true rfl) (fun σ' z2 h2 => ?_)))))))))))
        obtain ⟨hs_, h2⟩ := h2
        rw [hs_]; clear hs_ σ'
        refine ok_if_eq 27 48 rfl rfl rfl (fun h41 => ?_) (fun h41 => ?_)
        · refine ok_iconst 30 rfl rfl (by decide) (ok_zret 31 rfl rfl rfl (by first | omega | (simp [up_if]; omega) | (simp [up_if] at *; omega)) ?_)
          refine ⟨_, rfl, rfl, ?_⟩
          unfold celB
          simp only [ht, true_and]
          first | (split at h1 <;> split at h2 <;> omega) | (split at h1 <;> omega)
        · refine ok_iconst 28 rfl rfl (by decide) (ok_goto 29 49 rfl rfl rfl (ok_zret 31 rfl rfl rfl (by first | omega | (simp [up_if]; omega) | (simp [up_if] at *; omega)) ?_))
          refine ⟨_, rfl, rfl, ?_⟩
          unfold celB
          simp only [ht, true_and]
          first | (split at h1 <;> split at h2 <;> omega) | (split at h1 <;> omega)
  · refine ok_aload_n 0 rfl rfl rfl (ok_iload_n 1 rfl rfl rfl (ok_callVI (M' := M_Mo_isTable) (as := [_]) 2 rfl rfl ml_X12_111 (s_Mo_isTable_n ht) rfl rfl (Nat.le_of_ble_eq_true rfl) ⟨Nat.le_of_ble_eq_true rfl, Nat.le_of_ble_eq_true rfl⟩ rfl (Nat.le_of_ble_eq_true rfl) (fun σ' z hz => ?_)))
    rw [hz.1, hz.2]
    clear hz z σ'
    refine ok_if_eq 3 48 rfl rfl rfl (fun h5 => ?_) (fun h5 => ?_)
    · refine ok_iconst 30 rfl rfl (by decide) (ok_zret 31 rfl rfl rfl (by first | omega | (simp [up_if]; omega) | (simp [up_if] at *; omega)) ?_)
      exact ⟨_, rfl, rfl, Or.inr ⟨rfl, fun q => ht q.1⟩⟩
    · omega
theorem s_Mo_cell {σ : eS} {s i j : Int} (hB : iB1 σ) : MtI shB M_Mo_cell [vr 0, vi s, vi i, vi j] σ (fun σ' z => σ' = σ ∧ ((celB σ s i j ∧ z = cB σ s i j) ∨ (¬ celB σ s i j ∧ z = -1))) := by
  refine Mt.of okM_Mo_cell (Nat.le_of_ble_eq_true rfl) (fun hk hg => ?_)
  refine ok_aload_n 0 rfl rfl rfl (ok_iload_n 1 rfl rfl rfl (ok_iload_n 2 rfl rfl rfl (ok_iload_n 3 rfl rfl rfl (ok_callVI (M' := M_Mo_isCell) (as := [_, _, _]) 4 rfl rfl ml_X12_211 (s_Mo_isCell hB) rfl rfl (Nat.le_of_ble_eq_true rfl) ⟨Nat.le_of_ble_eq_true rfl, Nat.le_of_ble_eq_true rfl⟩ rfl (Nat.le_of_ble_eq_true rfl) (fun σ' z hz => ?_)))))
  obtain ⟨hs_, hz⟩ := hz
  rw [hs_]; clear hs_ σ'
  refine ok_if_eq 5 20 rfl rfl rfl (fun h7 => ?_) (fun h7 => ?_)
  · refine ok_iconst 12 rfl rfl (by decide) (ok_iret 13 rfl rfl rfl ?_)
    first | exact ⟨_, rfl, rfl, Or.inl ⟨hc, rfl⟩⟩ | (rcases hz with q | q; exact absurd h7 (by omega); exact ⟨_, rfl, rfl, Or.inr ⟨q.2, rfl⟩⟩)
  · have hc : celB σ s i j := by
      rcases hz with q | q
      · exact q.2
      · omega
    refine ok_aload_n 6 rfl rfl rfl (ok_iload_n 7 rfl rfl rfl (ok_iload_n 8 rfl rfl rfl (ok_iload_n 9 rfl rfl rfl (ok_callVI (M' := M_Mo_at) (as := [_, _, _]) 10 rfl rfl ml_X12_107 (s_Mo_at hB ⟨hc.1.1, hc.1.2.1⟩ ⟨hc.2.1, hc.2.2.1⟩ hc.2.2.2) rfl rfl (Nat.le_of_ble_eq_true rfl) ⟨Nat.le_of_ble_eq_true rfl, Nat.le_of_ble_eq_true rfl⟩ rfl (Nat.le_of_ble_eq_true rfl) (fun σ' z hz => ?_)))))
    rw [hz.1, hz.2]
    clear hz z σ'
    refine ok_goto 11 21 rfl rfl rfl (ok_iret 13 rfl rfl rfl ?_)
    first | exact ⟨_, rfl, rfl, Or.inl ⟨hc, rfl⟩⟩ | (rcases hz with q | q; exact absurd h7 (by omega); exact ⟨_, rfl, rfl, Or.inr ⟨q.2, rfl⟩⟩)
