abbrev rgU : Nat → Int → Prop := fun c _ => c = 20
theorem mul_le_div {v p X : Int} (hv : 0 < v) (h : p ≤ X / v) : v * p ≤ X := by
  have a := Int.mul_le_mul_of_nonneg_left h (Int.le_of_lt hv)
  have b := Int.mul_ediv_add_emod X v
  have c := Int.emod_nonneg X (by omega : v ≠ 0)
  omega
theorem s_Mo_isSummed {σ : eS} {s l b : Int} (hB : iB1 σ) (ht : tabB σ s) : MtI shB M_Mo_isSummed [vr 0, vi s, vi l, vi b] σ (fun σ' _ => fr rgU σ σ') := by
  refine Mt.of okM_Mo_isSummed (Nat.le_of_ble_eq_true rfl) (fun hk hg => ?_)
  obtain ⟨u1, u2, u3⟩ := ht
  have tn := hB.1 s u1 u2
  obtain ⟨z1, z2, z3, -⟩ := bit2 (n := σ 1 s) ⟨by omega, by omega⟩
  refine ok_aload_n 0 rfl rfl rfl (ok_getR 1 rfl rfl fl_X12_72 rfl rfl (ok_iconst 2 rfl rfl (by decide) (ok_lconst (w := 1) 3 rfl rfl rfl (by decide) (ok_last 4 rfl rfl rfl (by first | omega | (simp [up_if]; omega) | (simp [up_if] at *; omega)) (ok_iconst 5 rfl rfl (by decide) (ok_ist4 6 rfl rfl rfl ?_))))))
  refine lpO2 (fun (T : Int) (_ : eS) => [some (vr 0), some (vi s), some (vi l), some (vi b), some (vi T), none, none, none, none, none, none]) (fun _ ρ => ρ) (fun T ρ => 1 ≤ T ∧ T ≤ p2 (σ 1 s) ∧ fr rgU σ ρ ∧ ∀ k, 0 ≤ k → k < T → 0 ≤ ρ 20 k ∧ ρ 20 k ≤ 9223372036854775807) (fun T _ => (256 - T).toNat) ?_ 1 _ ⟨by omega, by omega, fr_up fr.rf (by simp [rgU]), fun k a c => by rw [show k = 0 by omega, up_same]; omega⟩
  rintro T ρ ⟨t1, t2, f, hs⟩ ih
  have e1 : ∀ k, ρ 1 k = σ 1 k := fun k => f 1 k (by simp [rgU])
  refine ok_iload 7 rfl rfl rfl (ok_iconst 8 rfl rfl (by decide) (ok_aload_n 9 rfl rfl rfl (ok_getR 10 rfl rfl fl_X12_7 rfl rfl (ok_iload_n 11 rfl rfl rfl (ok_iald 12 rfl rfl rfl (by first | omega | (simp [up_if]; omega) | (simp [up_if] at *; omega)) (ok_ishl 13 rfl rfl ?_))))))
  rw [e1, z1]
  refine ok_icmp_ge 14 178 rfl rfl rfl (fun h20 => ?_) (fun h20 => ?_)
  · refine ok_iconst 102 rfl rfl (by decide) (ok_zret 103 rfl rfl rfl (by first | omega | (simp [up_if]; omega) | (simp [up_if] at *; omega)) ?_)
    exact ⟨_, rfl, f⟩
  · refine ok_iload 15 rfl rfl rfl (ok_callSI (M' := M_Mo_bits) (as := [_]) 16 rfl rfl ml_X12_241 (s_Mo_bits ⟨by omega, by omega⟩) ⟨Nat.le_of_ble_eq_true rfl, Nat.le_of_ble_eq_true rfl⟩ rfl (Nat.le_of_ble_eq_true rfl) (fun σ' z hz => ?_))
    rw [hz.1, hz.2]
    clear hz z σ'
    have b1 := (bitL (s := T) (n := σ 1 s) (by omega) (by omega)).2.2
    have b2 : pc T ≤ σ 1 s := by
      have := bitL (s := T) (n := σ 1 s) (by omega) (by omega)
      rcases (show T < p2 (σ 1 s) - 1 ∨ T = p2 (σ 1 s) - 1 by omega) with q | q
      · have := this.1 q; omega
      · have := this.2.1 q; omega
    have b3 : 1 ≤ pc T := by
      have h0 : ∀ s : Fin 256, (s.val : Int) ≠ 0 → 1 ≤ pc (s.val : Int) := by decide +kernel
      exact fin1 (P := fun s => s ≠ 0 → 1 ≤ pc s) h0 (by omega) (by omega) (by omega)
    refine ok_iconst 17 rfl rfl (by decide) (ok_isub 18 rfl rfl (by first | omega | (simp [up_if]; omega) | (simp [up_if] at *; omega)) (ok_ist5 19 rfl rfl rfl (ok_aload_n 20 rfl rfl rfl (ok_getR 21 rfl rfl fl_X12_72 rfl rfl (ok_iload 22 rfl rfl rfl (ok_lconst (w := 0) 23 rfl rfl rfl (by decide) (ok_last 24 rfl rfl rfl (by first | omega | (simp [up_if]; omega) | (simp [up_if] at *; omega)) (ok_iconst 25 rfl rfl (by decide) (ok_ist6 26 rfl rfl rfl ?_)))))))))
    refine lpO2 (fun (j : Int) (_ : eS) => [some (vr 0), some (vi s), some (vi l), some (vi b), some (vi T), some (vi (pc T - 1)), some (vi j), none, none, none, none]) (fun _ ρ => ρ) (fun j ρ => 0 ≤ j ∧ j ≤ σ 1 s ∧ fr rgU σ ρ ∧ ∀ k, 0 ≤ k → k < T + 1 → 0 ≤ ρ 20 k ∧ ρ 20 k ≤ 9223372036854775807) (fun j _ => (8 - j).toNat) ?_ 0 _ ⟨by omega, by omega, fr_up f (by simp [rgU]), lt_ext (fun k a c => ?_) ?_⟩
    rotate_left
    · rw [up_nk _ _ _ _ (by omega)]; exact hs k a c
    · rw [up_same]; omega
    clear hs f e1
    rintro j ρ ⟨j1, j2, f, hs⟩ ih2
    have e1 : ∀ k, ρ 1 k = σ 1 k := fun k => f 1 k (by simp [rgU])
    have e1s := e1 s
    have hB' : iB1 ρ := iB1_frS hB f (fun c k q => by simp only [rgU]; omega)
    have hT := hs T (by omega) (by omega)
    have cb : j < σ 1 s → 0 ≤ cB ρ s (pc T - 1) j ∧ cB ρ s (pc T - 1) j ≤ 99999999 := fun q => cB_bd hB' ⟨u1, u2⟩ ⟨by omega, by rw [e1]; omega⟩ ⟨j1, by rw [e1]; omega⟩
    have t166 : ∀ (τ : eS) (x y : Option eV), j < σ 1 s → fr rgU σ τ → (∀ k, 0 ≤ k → k < T + 1 → 0 ≤ τ 20 k ∧ τ 20 k ≤ 9223372036854775807) → Ok shB M_Mo_isSummed 166 [some (vr 0), some (vi s), some (vi l), some (vi b), some (vi T), some (vi (pc T - 1)), some (vi j), x, none, y, none] [] τ (fun σ' v => ∃ z, v = some (vi z) ∧ fr rgU σ σ') := by
      intro τ x y jl g hg
      refine ok_inc6 98 rfl rfl rfl (by first | omega | (simp [up_if]; omega) | (simp [up_if] at *; omega)) (ok_goto 99 43 rfl rfl rfl ?_)
      exact ok_fg [some (vr 0), some (vi s), some (vi l), some (vi b), some (vi T), some (vi (pc T - 1)), some (vi (j + 1)), none, none, none, none] ⟨rfl, rfl, rfl, rfl, rfl, rfl, rfl, trivial⟩ (ih2 (j + 1) τ ⟨by omega, by omega, g, hg⟩ (by omega))
    have t106 : ∀ v : Int, j < σ 1 s → bt T j = true → 0 ≤ v → v ≤ 99999999 → Ok shB M_Mo_isSummed 106 [some (vr 0), some (vi s), some (vi l), some (vi b), some (vi T), some (vi (pc T - 1)), some (vi j), none, none, none, none] [vl v] ρ (fun σ' v => ∃ z, v = some (vi z) ∧ fr rgU σ σ') := by
      intro v jl hbt v1 v2
      have hx := bitX (s := T) (j := j) (by omega) (by omega) hbt
      have hx2 := hs _ hx.1 (by omega)
      have t151 : v * ρ 20 (ixor T (ishl 1 j)) ≤ 9223372036854775807 - ρ 20 T → Ok shB M_Mo_isSummed 151 [some (vr 0), some (vi s), some (vi l), some (vi b), some (vi T), some (vi (pc T - 1)), some (vi j), some (vl v), none, some (vl (ρ 20 (ixor T (ishl 1 j)))), none] [] ρ (fun σ' v => ∃ z, v = some (vi z) ∧ fr rgU σ σ') := by
        intro hm
        have hm0 : 0 ≤ v * ρ 20 (ixor T (ishl 1 j)) := Int.mul_nonneg v1 hx2.1
        refine ok_aload_n 88 rfl rfl rfl (ok_getR 89 rfl rfl fl_X12_72 rfl rfl (ok_iload 90 rfl rfl rfl (ok_dup2 91 rfl rfl ⟨rfl, rfl⟩ (ok_lald 92 rfl rfl rfl (by first | omega | (simp [up_if]; omega) | (simp [up_if] at *; omega)) (ok_lload 93 rfl rfl rfl (ok_lload 94 rfl rfl rfl (ok_lmul 95 rfl rfl (by first | omega | (simp [up_if]; omega) | (simp [up_if] at *; omega)) (ok_ladd 96 rfl rfl (by first | omega | (simp [up_if]; omega) | (simp [up_if] at *; omega)) (ok_last 97 rfl rfl rfl (by first | omega | (simp [up_if]; omega) | (simp [up_if] at *; omega)) ?_)))))))))
        refine t166 _ _ _ jl (fr_up f (by simp [rgU])) (fun k a c => ?_)
        rw [up_if]
        by_cases q : k = T
        · rw [if_pos ⟨rfl, q⟩]; omega
        · rw [if_neg (fun y => q y.2)]; exact hs k a c
      refine ok_lst7 61 rfl rfl rfl (ok_aload_n 62 rfl rfl rfl (ok_getR 63 rfl rfl fl_X12_72 rfl rfl (ok_iload 64 rfl rfl rfl (ok_iconst 65 rfl rfl (by decide) (ok_iload 66 rfl rfl rfl (ok_ishl 67 rfl rfl (ok_ixor 68 rfl rfl (ok_lald 69 rfl rfl rfl (by first | omega | (simp [up_if]; omega) | (simp [up_if] at *; omega)) (ok_lst9 70 rfl rfl rfl (ok_lload 71 rfl rfl rfl (ok_lconst (w := 0) 72 rfl rfl rfl (by decide) (ok_lcmp_le 73 74 151 rfl rfl rfl rfl rfl (fun h125 => ?_) (fun h125 => ?_)))))))))))))
      · refine t151 ?_
        first
          | (rw [show v = 0 by omega, Int.zero_mul]; omega)
          | exact mul_le_div (by omega) (by omega)
      · refine ok_lload 75 rfl rfl rfl (ok_ldc2 76 (9223372036854775807) rfl rfl kc_X12_239 (by decide) (ok_aload_n 77 rfl rfl rfl (ok_getR 78 rfl rfl fl_X12_72 rfl rfl (ok_iload 79 rfl rfl rfl (ok_lald 80 rfl rfl rfl (by first | omega | (simp [up_if]; omega) | (simp [up_if] at *; omega)) (ok_lsub 81 rfl rfl (by first | omega | (simp [up_if]; omega) | (simp [up_if] at *; omega)) (ok_lload 82 rfl rfl rfl (ok_ldiv 83 rfl rfl (by first | omega | (simp [up_if]; omega) | (simp [up_if] at *; omega)) (by first | omega | (simp [up_if]; omega) | (simp [up_if] at *; omega)) (ok_lcmp_le 84 85 151 rfl rfl rfl rfl rfl (fun h145 => ?_) (fun h145 => ?_))))))))))
        · refine t151 ?_
          first
            | (rw [show v = 0 by omega, Int.zero_mul]; omega)
            | exact mul_le_div (by omega) (by omega)
        · refine ok_iconst 86 rfl rfl (by decide) (ok_zret 87 rfl rfl rfl (by first | omega | (simp [up_if]; omega) | (simp [up_if] at *; omega)) ?_)
          exact ⟨_, rfl, f⟩
    refine ok_iload 27 rfl rfl rfl (ok_aload_n 28 rfl rfl rfl (ok_getR 29 rfl rfl fl_X12_7 rfl rfl (ok_iload_n 30 rfl rfl rfl (ok_iald 31 rfl rfl rfl (by first | omega | (simp [up_if]; omega) | (simp [up_if] at *; omega)) (ok_icmp_ge 32 172 rfl rfl rfl (fun h51 => ?_) (fun h51 => ?_))))))
    · refine ok_inc4 100 rfl rfl rfl (by first | omega | (simp [up_if]; omega) | (simp [up_if] at *; omega)) (ok_goto 101 10 rfl rfl rfl ?_)
      exact ok_fg [some (vr 0), some (vi s), some (vi l), some (vi b), some (vi (T + 1)), none, none, none, none, none, none] ⟨rfl, rfl, rfl, rfl, rfl, trivial⟩ (ih (T + 1) ρ ⟨by omega, by omega, f, hs⟩ (by omega))
    · refine ok_iload 33 rfl rfl rfl (ok_iload 34 rfl rfl rfl (ok_ishr 35 rfl rfl (ok_iconst 36 rfl rfl (by decide) (ok_iand 37 rfl rfl ?_))))
      have hbg := bitG (s := T) (j := j) ⟨by omega, by omega⟩ ⟨by omega, by omega⟩
      refine ok_if_ne 38 67 rfl rfl rfl (fun h61 => ?_) (fun h61 => ?_)
      · have hbt : bt T j = true := by
          rw [hbg] at h61
          by_cases q : bt T j = true
          · exact q
          · rw [if_neg q] at h61; exact absurd rfl h61
        have jl : j < σ 1 s := by have := e1 s; omega
        refine ok_iload_n 40 rfl rfl rfl (ok_if_eq 41 96 rfl rfl rfl (fun h68 => ?_) (fun h68 => ?_))
        · refine ok_aload_n 55 rfl rfl rfl (ok_iload_n 56 rfl rfl rfl (ok_iload 57 rfl rfl rfl (ok_iload 58 rfl rfl rfl (ok_callVI (M' := M_Mo_at) (as := [_, _, _]) 59 rfl rfl ml_X12_107 (s_Mo_at hB' ⟨u1, u2⟩ ⟨by omega, by rw [e1]; omega⟩ ⟨by omega, by rw [e1]; omega⟩) rfl rfl (Nat.le_of_ble_eq_true rfl) ⟨Nat.le_of_ble_eq_true rfl, Nat.le_of_ble_eq_true rfl⟩ rfl (Nat.le_of_ble_eq_true rfl) (fun σ' z hz => ?_)))))
          rw [hz.1, hz.2]
          clear hz z σ'
          refine ok_i2l 60 rfl rfl ?_
          exact t106 _ jl hbt (by omega) (by omega)
        · refine ok_aload_n 42 rfl rfl rfl (ok_iload_n 43 rfl rfl rfl (ok_iload 44 rfl rfl rfl (ok_iload 45 rfl rfl rfl (ok_callVI (M' := M_Mo_at) (as := [_, _, _]) 46 rfl rfl ml_X12_107 (s_Mo_at hB' ⟨u1, u2⟩ ⟨by omega, by rw [e1]; omega⟩ ⟨by omega, by rw [e1]; omega⟩) rfl rfl (Nat.le_of_ble_eq_true rfl) ⟨Nat.le_of_ble_eq_true rfl, Nat.le_of_ble_eq_true rfl⟩ rfl (Nat.le_of_ble_eq_true rfl) (fun σ' z hz => ?_)))))
          rw [hz.1, hz.2]
          clear hz z σ'
          refine ok_iload_n 47 rfl rfl rfl (ok_icmp_lt 48 88 rfl rfl rfl (fun h81 => ?_) (fun h81 => ?_))
          · refine ok_iconst 51 rfl rfl (by decide) (ok_callSI (M' := M_Mo_one) (as := [_]) 52 rfl rfl ml_X12_192 (s_Mo_one) ⟨Nat.le_of_ble_eq_true rfl, Nat.le_of_ble_eq_true rfl⟩ rfl (Nat.le_of_ble_eq_true rfl) (fun σ' z hz => ?_))
            obtain ⟨hs_, hz⟩ := hz
            rw [hs_]; clear hs_ σ'
            have q1 : 0 ≤ z ∧ z ≤ 1 := by rw [hz]; split <;> omega
            refine ok_i2l 53 rfl rfl (ok_goto 54 106 rfl rfl rfl ?_)
            exact t106 _ jl hbt (by omega) (by omega)
          · refine ok_iconst 49 rfl rfl (by decide) (ok_goto 50 89 rfl rfl rfl (ok_callSI (M' := M_Mo_one) (as := [_]) 52 rfl rfl ml_X12_192 (s_Mo_one) ⟨Nat.le_of_ble_eq_true rfl, Nat.le_of_ble_eq_true rfl⟩ rfl (Nat.le_of_ble_eq_true rfl) (fun σ' z hz => ?_)))
            obtain ⟨hs_, hz⟩ := hz
            rw [hs_]; clear hs_ σ'
            have q1 : 0 ≤ z ∧ z ≤ 1 := by rw [hz]; split <;> omega
            refine ok_i2l 53 rfl rfl (ok_goto 54 106 rfl rfl rfl ?_)
            exact t106 _ jl hbt (by omega) (by omega)
      · refine ok_goto 39 166 rfl rfl rfl ?_
        exact t166 ρ none none (by have := e1 s; omega) f hs
theorem s_Mo_ways {σ : eS} {s l : Int} (hB : iB1 σ) : MtI shB M_Mo_ways [vr 0, vi s, vi l] σ (fun σ' _ => fr rgU σ σ') := by
  refine Mt.of okM_Mo_ways (Nat.le_of_ble_eq_true rfl) (fun hk hg => ?_)
  refine ok_aload_n 0 rfl rfl rfl (ok_iload_n 1 rfl rfl rfl (ok_callVI (M' := M_Mo_isTable) (as := [_]) 2 rfl rfl ml_X12_111 (s_Mo_isTable_r) rfl rfl (Nat.le_of_ble_eq_true rfl) ⟨Nat.le_of_ble_eq_true rfl, Nat.le_of_ble_eq_true rfl⟩ rfl (Nat.le_of_ble_eq_true rfl) (fun σ' z1 a1 => ?_)))
  obtain ⟨hs_, a1⟩ := a1
  rw [hs_]; clear hs_ σ'
  refine ok_if_eq 3 15 rfl rfl rfl (fun h5 => ?_) (fun h5 => ?_)
  · refine ok_iconst 7 rfl rfl (by decide) (ok_iret 8 rfl rfl rfl ?_)
    exact ⟨_, rfl, fr.rf⟩
  · refine ok_iload_n 4 rfl rfl rfl (ok_callSI (M' := M_Mo_isLeast) (as := [_]) 5 rfl rfl ml_X12_343 (s_Mo_isLeast) ⟨Nat.le_of_ble_eq_true rfl, Nat.le_of_ble_eq_true rfl⟩ rfl (Nat.le_of_ble_eq_true rfl) (fun σ' z2 a2 => ?_))
    obtain ⟨hs_, a2⟩ := a2
    rw [hs_]; clear hs_ σ'
    refine ok_if_ne 6 17 rfl rfl rfl (fun h12 => ?_) (fun h12 => ?_)
    · have ht := yes1 a1 h5
      obtain ⟨u1, u2, u3⟩ := id ht
      have tn := hB.1 s u1 u2
      obtain ⟨z1, z2, z3, -⟩ := bit2 (n := σ 1 s) ⟨by omega, by omega⟩
      refine ok_aload_n 9 rfl rfl rfl (ok_iload_n 10 rfl rfl rfl (ok_iload_n 11 rfl rfl rfl (ok_iconst 12 rfl rfl (by decide) (ok_callVI (M' := M_Mo_isSummed) (as := [_, _, _]) 13 rfl rfl ml_X12_349 (s_Mo_isSummed hB ht) rfl rfl (Nat.le_of_ble_eq_true rfl) ⟨Nat.le_of_ble_eq_true rfl, Nat.le_of_ble_eq_true rfl⟩ rfl (Nat.le_of_ble_eq_true rfl) (fun σ' z hz => ?_)))))
      have e1 : σ' 1 s = σ 1 s := hz 1 s (by simp [rgU])
      refine ok_pop 14 rfl rfl rfl (ok_aload_n 15 rfl rfl rfl (ok_getR 16 rfl rfl fl_X12_72 rfl rfl (ok_iconst 17 rfl rfl (by decide) (ok_aload_n 18 rfl rfl rfl (ok_getR 19 rfl rfl fl_X12_7 rfl rfl (ok_iload_n 20 rfl rfl rfl (ok_iald 21 rfl rfl rfl (by first | omega | (simp [up_if]; omega) | (simp [up_if] at *; omega)) (ok_ishl 22 rfl rfl ?_))))))))
      rw [e1, z1]
      refine ok_iconst 23 rfl rfl (by decide) (ok_isub 24 rfl rfl (by first | omega | (simp [up_if]; omega) | (simp [up_if] at *; omega)) (ok_lald 25 rfl rfl rfl (by first | omega | (simp [up_if]; omega) | (simp [up_if] at *; omega)) (ok_l2iW 26 rfl rfl (ok_iret 27 rfl rfl rfl ?_))))
      exact ⟨_, rfl, hz⟩
    · refine ok_iconst 7 rfl rfl (by decide) (ok_iret 8 rfl rfl rfl ?_)
      exact ⟨_, rfl, fr.rf⟩
theorem s_Mo_permanent {σ : eS} {s : Int} (hB : iB1 σ) : MtL shB M_Mo_permanent [vr 0, vi s] σ (fun σ' _ => fr rgU σ σ') := by
  refine Mt.of okM_Mo_permanent (Nat.le_of_ble_eq_true rfl) (fun hk hg => ?_)
  refine ok_aload_n 0 rfl rfl rfl (ok_iload_n 1 rfl rfl rfl (ok_callVI (M' := M_Mo_isTable) (as := [_]) 2 rfl rfl ml_X12_111 (s_Mo_isTable_r) rfl rfl (Nat.le_of_ble_eq_true rfl) ⟨Nat.le_of_ble_eq_true rfl, Nat.le_of_ble_eq_true rfl⟩ rfl (Nat.le_of_ble_eq_true rfl) (fun σ' z1 a1 => ?_)))
  obtain ⟨hs_, a1⟩ := a1
  rw [hs_]; clear hs_ σ'
  refine ok_if_ne 3 12 rfl rfl rfl (fun h5 => ?_) (fun h5 => ?_)
  · have ht := yes1 a1 h5
    obtain ⟨u1, u2, u3⟩ := id ht
    have tn := hB.1 s u1 u2
    obtain ⟨z1, z2, z3, -⟩ := bit2 (n := σ 1 s) ⟨by omega, by omega⟩
    refine ok_aload_n 6 rfl rfl rfl (ok_iload_n 7 rfl rfl rfl (ok_iconst 8 rfl rfl (by decide) (ok_iconst 9 rfl rfl (by decide) (ok_callVI (M' := M_Mo_isSummed) (as := [_, _, _]) 10 rfl rfl ml_X12_349 (s_Mo_isSummed hB ht) rfl rfl (Nat.le_of_ble_eq_true rfl) ⟨Nat.le_of_ble_eq_true rfl, Nat.le_of_ble_eq_true rfl⟩ rfl (Nat.le_of_ble_eq_true rfl) (fun σ' z hz => ?_)))))
    have e1 : σ' 1 s = σ 1 s := hz 1 s (by simp [rgU])
    refine ok_if_eq 11 40 rfl rfl rfl (fun h19 => ?_) (fun h19 => ?_)
    · refine ok_ldc2 24 (-2) rfl rfl kc_X12_355 (by decide) (ok_lret 25 rfl rfl rfl ?_)
      exact ⟨_, rfl, hz⟩
    · refine ok_aload_n 12 rfl rfl rfl (ok_getR 13 rfl rfl fl_X12_72 rfl rfl (ok_iconst 14 rfl rfl (by decide) (ok_aload_n 15 rfl rfl rfl (ok_getR 16 rfl rfl fl_X12_7 rfl rfl (ok_iload_n 17 rfl rfl rfl (ok_iald 18 rfl rfl rfl (by first | omega | (simp [up_if]; omega) | (simp [up_if] at *; omega)) (ok_ishl 19 rfl rfl ?_)))))))
      rw [e1, z1]
      refine ok_iconst 20 rfl rfl (by decide) (ok_isub 21 rfl rfl (by first | omega | (simp [up_if]; omega) | (simp [up_if] at *; omega)) (ok_lald 22 rfl rfl rfl (by first | omega | (simp [up_if]; omega) | (simp [up_if] at *; omega)) (ok_goto 23 43 rfl rfl rfl (ok_lret 25 rfl rfl rfl ?_))))
      exact ⟨_, rfl, hz⟩
  · refine ok_ldc2 4 (-1) rfl rfl kc_X12_219 (by decide) (ok_lret 5 rfl rfl rfl ?_)
    exact ⟨_, rfl, fr.rf⟩
theorem wo_bd {σ : eS} {s : Int} (hB : iB1 σ) (ht : tabB σ s) : nW (wo σ s (σ 1 s) (σ 1 s * σ 1 s)) ∧ wBd (wo σ s (σ 1 s) (σ 1 s * σ 1 s)) := by
  obtain ⟨u1, u2, u3⟩ := ht
  have tn := (hB.1 s u1 u2).2.1
  have e : wo σ s (σ 1 s) (σ 1 s * σ 1 s) 0 22 = σ 1 s := by simp [wo]
  refine ⟨⟨by omega, by omega⟩, fun i j a b c d => ?_⟩
  rw [e] at b d
  rw [wo_wk ⟨by omega, tn⟩ rfl ⟨a, b⟩ ⟨c, d⟩]
  have := cB_bd hB ⟨u1, u2⟩ ⟨a, b⟩ ⟨c, d⟩
  omega
theorem s_Mo_widest {σ : eS} {s : Int} (hB : iB1 σ) : MtI shB M_Mo_widest [vr 0, vi s] σ (fun σ' _ => fr rgS σ σ') := by
  refine Mt.of okM_Mo_widest (Nat.le_of_ble_eq_true rfl) (fun hk hg => ?_)
  refine ok_aload_n 0 rfl rfl rfl (ok_iload_n 1 rfl rfl rfl (ok_callVI (M' := M_Mo_isTable) (as := [_]) 2 rfl rfl ml_X12_111 (s_Mo_isTable_r) rfl rfl (Nat.le_of_ble_eq_true rfl) ⟨Nat.le_of_ble_eq_true rfl, Nat.le_of_ble_eq_true rfl⟩ rfl (Nat.le_of_ble_eq_true rfl) (fun σ' z1 a1 => ?_)))
  obtain ⟨hs_, a1⟩ := a1
  rw [hs_]; clear hs_ σ'
  refine ok_if_ne 3 10 rfl rfl rfl (fun h5 => ?_) (fun h5 => ?_)
  · have ht := yes1 a1 h5
    have f := wo_fr σ s (σ 1 s) (σ 1 s * σ 1 s)
    obtain ⟨w1, w2⟩ := wo_bd hB ht
    refine ok_aload_n 6 rfl rfl rfl (ok_iload_n 7 rfl rfl rfl (ok_callVV (M' := M_Mo_worksOn) (as := [_]) 8 rfl rfl ml_X12_294 (s_Mo_worksOn hB ht) rfl rfl (Nat.le_of_ble_eq_true rfl) ⟨Nat.le_of_ble_eq_true rfl, Nat.le_of_ble_eq_true rfl⟩ rfl (Nat.le_of_ble_eq_true rfl) (fun σ' hz => ?_)))
    rw [hz]
    clear hz σ'
    refine ok_aload_n 9 rfl rfl rfl (ok_iconst 10 rfl rfl (by decide) (ok_iconst 11 rfl rfl (by decide) (ok_callVV (M' := M_Mo_laysCan) (as := [_, _]) 12 rfl rfl ml_X12_256 (s_Mo_laysCan w1 w2 (by omega) (Or.inl rfl)) rfl rfl (Nat.le_of_ble_eq_true rfl) ⟨Nat.le_of_ble_eq_true rfl, Nat.le_of_ble_eq_true rfl⟩ rfl (Nat.le_of_ble_eq_true rfl) (fun σ' hz => ?_))))
    refine ok_aload_n 13 rfl rfl rfl (ok_getR 14 rfl rfl fl_X12_42 rfl rfl (ok_iconst 15 rfl rfl (by decide) (ok_lald 16 rfl rfl rfl (by first | omega | (simp [up_if]; omega) | (simp [up_if] at *; omega)) (ok_l2iW 17 rfl rfl (ok_iret 18 rfl rfl rfl ?_)))))
    exact ⟨_, rfl, f.tr (hz.1.mono (fun c k q => by simp only [rgS]; omega))⟩
  · refine ok_iconst 4 rfl rfl (by decide) (ok_iret 5 rfl rfl rfl ?_)
    exact ⟨_, rfl, fr.rf⟩
theorem s_Mo_best {σ : eS} {s w : Int} (hB : iB1 σ) : MtL shB M_Mo_best [vr 0, vi s, vi w] σ (fun σ' _ => fr rgS σ σ') := by
  refine Mt.of okM_Mo_best (Nat.le_of_ble_eq_true rfl) (fun hk hg => ?_)
  refine ok_aload_n 0 rfl rfl rfl (ok_iload_n 1 rfl rfl rfl (ok_callVI (M' := M_Mo_isTable) (as := [_]) 2 rfl rfl ml_X12_111 (s_Mo_isTable_r) rfl rfl (Nat.le_of_ble_eq_true rfl) ⟨Nat.le_of_ble_eq_true rfl, Nat.le_of_ble_eq_true rfl⟩ rfl (Nat.le_of_ble_eq_true rfl) (fun σ' z1 a1 => ?_)))
  obtain ⟨hs_, a1⟩ := a1
  rw [hs_]; clear hs_ σ'
  refine ok_if_eq 3 33 rfl rfl rfl (fun h5 => ?_) (fun h5 => ?_)
  · refine ok_ldc2 18 (-1) rfl rfl kc_X12_219 (by decide) (ok_lret 19 rfl rfl rfl ?_)
    exact ⟨_, rfl, fr.rf⟩
  · obtain ⟨u1, u2, u3⟩ := yes1 a1 h5
    have tn := hB.1 s u1 u2
    have f := wo_fr σ s (σ 1 s) (σ 1 s * σ 1 s)
    obtain ⟨w1, w2⟩ := wo_bd hB ⟨u1, u2, u3⟩
    have hc : cpl (wo σ s (σ 1 s) (σ 1 s * σ 1 s) 0 22) (fun i j => 0 ≤ wk (wo σ s (σ 1 s) (σ 1 s * σ 1 s)) i j) (wo σ s (σ 1 s) (σ 1 s * σ 1 s) 0 22).toNat 0 := cpl_of (f := fun i => i) (by have := w1.1; omega) ⟨fun i a b => ⟨a, b⟩, fun i k a b c => by show i ≠ k; omega⟩ (fun i a b => (w2 i i a b a b).1)
    refine ok_iload_n 4 rfl rfl rfl (ok_if_eq 5 37 rfl rfl rfl (fun h9 => ?_) (fun h9 => ?_))
    · refine ok_aload_n 20 rfl rfl rfl (ok_iload_n 21 rfl rfl rfl (ok_callVV (M' := M_Mo_worksOn) (as := [_]) 22 rfl rfl ml_X12_294 (s_Mo_worksOn hB ⟨u1, u2, u3⟩) rfl rfl (Nat.le_of_ble_eq_true rfl) ⟨Nat.le_of_ble_eq_true rfl, Nat.le_of_ble_eq_true rfl⟩ rfl (Nat.le_of_ble_eq_true rfl) (fun σ' hz => ?_)))
      rw [hz]
      clear hz σ'
      refine ok_aload_n 23 rfl rfl rfl (ok_iconst 24 rfl rfl (by decide) (ok_callVL (M' := M_Mo_chooseGreatest) (as := [_]) 25 rfl rfl ml_X12_263 (s_Mo_chooseGreatest w1 w2 (by omega) hc) rfl rfl (Nat.le_of_ble_eq_true rfl) ⟨Nat.le_of_ble_eq_true rfl, Nat.le_of_ble_eq_true rfl⟩ rfl (Nat.le_of_ble_eq_true rfl) (fun σ' z hz => ?_)))
      have g := f.tr (hz.1.mono (fun c k q => by simp only [rgS]; omega))
      clear hz
      refine ok_lst3 26 rfl rfl rfl (ok_iload_n 27 rfl rfl rfl (ok_if_ne 28 56 rfl rfl rfl (fun h49 => ?_) (fun h49 => ?_)))
      · refine ok_aload_n 31 rfl rfl rfl (ok_getR 32 rfl rfl fl_X12_45 rfl rfl (ok_iload_n 33 rfl rfl rfl (ok_bipush 34 rfl rfl (by decide) (by decide) (ok_isub 35 rfl rfl (by first | omega | (simp [up_if]; omega) | (simp [up_if] at *; omega)) (ok_iald 36 rfl rfl rfl (by first | omega | (simp [up_if]; omega) | (simp [up_if] at *; omega)) (ok_i2l 37 rfl rfl (ok_lret 38 rfl rfl rfl ?_)))))))
        exact ⟨_, rfl, g⟩
      · refine ok_lload_n 29 rfl rfl rfl (ok_goto 30 66 rfl rfl rfl (ok_lret 38 rfl rfl rfl ?_))
        exact ⟨_, rfl, g⟩
    · refine ok_iload_n 6 rfl rfl rfl (ok_i2l 7 rfl rfl (ok_ldc2 8 (10) rfl rfl kc_X12_353 (by decide) (ok_bipush 9 rfl rfl (by decide) (by decide) (ok_aload_n 10 rfl rfl rfl (ok_getR 11 rfl rfl fl_X12_7 rfl rfl (ok_iload_n 12 rfl rfl rfl (ok_iald 13 rfl rfl rfl (by first | omega | (simp [up_if]; omega) | (simp [up_if] at *; omega)) (ok_iadd 14 rfl rfl (by first | omega | (simp [up_if]; omega) | (simp [up_if] at *; omega)) (ok_i2l 15 rfl rfl (ok_callSI (M' := M_Mo_isIn) (as := [_, _, _]) 16 rfl rfl ml_X12_99 (s_Mo_isIn_r) ⟨Nat.le_of_ble_eq_true rfl, Nat.le_of_ble_eq_true rfl⟩ rfl (Nat.le_of_ble_eq_true rfl) (fun σ' z2 a2 => ?_)))))))))))
      obtain ⟨hs_, a2⟩ := a2
      rw [hs_]; clear hs_ σ'
      refine ok_if_ne 17 37 rfl rfl rfl (fun h30 => ?_) (fun h30 => ?_)
      · refine ok_aload_n 20 rfl rfl rfl (ok_iload_n 21 rfl rfl rfl (ok_callVV (M' := M_Mo_worksOn) (as := [_]) 22 rfl rfl ml_X12_294 (s_Mo_worksOn hB ⟨u1, u2, u3⟩) rfl rfl (Nat.le_of_ble_eq_true rfl) ⟨Nat.le_of_ble_eq_true rfl, Nat.le_of_ble_eq_true rfl⟩ rfl (Nat.le_of_ble_eq_true rfl) (fun σ' hz => ?_)))
        rw [hz]
        clear hz σ'
        refine ok_aload_n 23 rfl rfl rfl (ok_iconst 24 rfl rfl (by decide) (ok_callVL (M' := M_Mo_chooseGreatest) (as := [_]) 25 rfl rfl ml_X12_263 (s_Mo_chooseGreatest w1 w2 (by omega) hc) rfl rfl (Nat.le_of_ble_eq_true rfl) ⟨Nat.le_of_ble_eq_true rfl, Nat.le_of_ble_eq_true rfl⟩ rfl (Nat.le_of_ble_eq_true rfl) (fun σ' z hz => ?_)))
        have g := f.tr (hz.1.mono (fun c k q => by simp only [rgS]; omega))
        clear hz
        refine ok_lst3 26 rfl rfl rfl (ok_iload_n 27 rfl rfl rfl (ok_if_ne 28 56 rfl rfl rfl (fun h49 => ?_) (fun h49 => ?_)))
        · refine ok_aload_n 31 rfl rfl rfl (ok_getR 32 rfl rfl fl_X12_45 rfl rfl (ok_iload_n 33 rfl rfl rfl (ok_bipush 34 rfl rfl (by decide) (by decide) (ok_isub 35 rfl rfl (by first | omega | (simp [up_if]; omega) | (simp [up_if] at *; omega)) (ok_iald 36 rfl rfl rfl (by first | omega | (simp [up_if]; omega) | (simp [up_if] at *; omega)) (ok_i2l 37 rfl rfl (ok_lret 38 rfl rfl rfl ?_)))))))
          exact ⟨_, rfl, g⟩
        · refine ok_lload_n 29 rfl rfl rfl (ok_goto 30 66 rfl rfl rfl (ok_lret 38 rfl rfl rfl ?_))
          exact ⟨_, rfl, g⟩
      · refine ok_ldc2 18 (-1) rfl rfl kc_X12_219 (by decide) (ok_lret 19 rfl rfl rfl ?_)
        exact ⟨_, rfl, fr.rf⟩
