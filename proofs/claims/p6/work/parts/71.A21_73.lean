section
theorem mul_bd2 {a b A B : Int} (h1 : 0 ≤ a ∧ a ≤ A) (h2 : 0 ≤ b ∧ b ≤ B) : 0 ≤ a * b ∧ a * b ≤ A * B :=
  ⟨Int.mul_nonneg h1.1 h2.1, Int.mul_le_mul h1.2 h2.2 h2.1 (by omega)⟩
theorem s_Nu_lm {σ : eS} {a b l : Int} (ha : a ≤ 9999999999) (hb : b ≤ 9999999999) (hl : 1 ≤ l ∧ l ≤ 9999999999) : MtL shA M_Nu_leastMultiple [vl a, vl b, vl l] σ (fun σ' z => σ' = σ ∧ (z = -1 ∨ (1 ≤ z ∧ z ≤ l))) := by
  refine Mt.of okM_Nu_leastMultiple (Nat.le_of_ble_eq_true rfl) (fun hk hg => ?_)
  refine ok_lload_n 0 rfl rfl rfl (ok_lconst (w := 1) 1 rfl rfl rfl (by decide) (ok_lcmp_lt 2 3 12 rfl rfl rfl rfl rfl (fun h2 => ?_) (fun h2 => ?_)))
  · refine ok_ldc2 8 (-1) rfl rfl kc_X4_9 (by decide) (ok_lret 9 rfl rfl rfl ?_)
    exact ⟨_, rfl, rfl, Or.inl rfl⟩
  · refine ok_lload_n 4 rfl rfl rfl (ok_lconst (w := 1) 5 rfl rfl rfl (by decide) (ok_lcmp_ge 6 7 16 rfl rfl rfl rfl rfl (fun h8 => ?_) (fun h8 => ?_)))
    · obtain ⟨g1, g2⟩ := gcd_pos (a := a) (b := b) (by omega)
      obtain ⟨g, eg⟩ : ∃ g : Int, g = (Int.gcd a b : Int) := ⟨_, rfl⟩
      rw [← eg] at g1 g2
      have d1 := gcd_div (u := a) (g := g) (by omega) g1 g2
      have d2 := div_bd (u := l) (g := b) (B := 9999999999) ⟨by omega, by omega⟩ (by omega)
      refine ok_lload_n 10 rfl rfl rfl (ok_lload_n 11 rfl rfl rfl (ok_lload_n 12 rfl rfl rfl (ok_callSL (M' := M_Nu_greatestDivisor) (as := [_, _]) 13 rfl rfl ml_X4_11 (s_Nu_greatestDivisor (by omega) ⟨by omega, by omega⟩) ⟨Nat.le_of_ble_eq_true rfl, Nat.le_of_ble_eq_true rfl⟩ rfl (Nat.le_of_ble_eq_true rfl) (fun σ' z hz => ?_))))
      rw [hz.1, hz.2]
      clear hz z σ'
      rw [← eg]
      refine ok_ldiv 14 rfl rfl (by first | omega | (simp [up_if]; omega) | (simp [up_if] at *; omega)) (by first | omega | (simp [up_if]; omega) | (simp [up_if] at *; omega)) (ok_lst6 15 rfl rfl rfl (ok_lload 16 rfl rfl rfl (ok_lload 17 rfl rfl rfl (ok_lload_n 18 rfl rfl rfl (ok_ldiv 19 rfl rfl (by first | omega | (simp [up_if]; omega) | (simp [up_if] at *; omega)) (by first | omega | (simp [up_if]; omega) | (simp [up_if] at *; omega)) (ok_lcmp_le 20 21 41 rfl rfl rfl rfl rfl (fun h31 => ?_) (fun h31 => ?_)))))))
      · have m : b * (a / g) ≤ l := mul_le_div (by omega) (by omega)
        rw [Int.mul_comm] at m
        have m1 : 1 * 1 ≤ a / g * b := Int.mul_le_mul (by omega) (by omega) (by decide) (by omega)
        refine ok_lload 24 rfl rfl rfl (ok_lload_n 25 rfl rfl rfl (ok_lmul 26 rfl rfl (by first | omega | (simp [up_if]; omega) | (simp [up_if] at *; omega)) (ok_lret 27 rfl rfl rfl ?_)))
        exact ⟨_, rfl, rfl, Or.inr ⟨by omega, by omega⟩⟩
      · refine ok_ldc2 22 (-1) rfl rfl kc_X4_9 (by decide) (ok_goto 23 45 rfl rfl rfl (ok_lret 27 rfl rfl rfl ?_))
        exact ⟨_, rfl, rfl, Or.inl rfl⟩
    · refine ok_ldc2 8 (-1) rfl rfl kc_X4_9 (by decide) (ok_lret 9 rfl rfl rfl ?_)
      exact ⟨_, rfl, rfl, Or.inl rfl⟩
theorem s_Mk_sharedDivisor {σ : eS} {b n : Int} (hb : 0 ≤ b) (hn : n ≤ 8) (hS : iSu σ) : MtL shA M_Mk_sharedDivisor [vr 14, vl b, vi n] σ (fun σ' _ => σ' = σ ∧ True) := by
  refine Mt.of okM_Mk_sharedDivisor (Nat.le_of_ble_eq_true rfl) (fun hk hg => ?_)
  refine ok_lload_n 0 rfl rfl rfl (ok_lst4 1 rfl rfl rfl (ok_iconst 2 rfl rfl (by decide) (ok_ist6 3 rfl rfl rfl ?_)))
  refine lpO2 (fun v i : Int => [some (vr 14), some (vl b), none, some (vi n), some (vl v), none, some (vi i), none]) (fun _ _ => σ) (fun v i => 0 ≤ i ∧ i ≤ 8 ∧ 0 ≤ v) (fun _ i => (8 - i).toNat) ?_ b 0 ⟨by omega, by omega, hb⟩
  rintro v i ⟨i1, i2, v1⟩ ih
  refine ok_iload 4 rfl rfl rfl (ok_iload_n 5 rfl rfl rfl (ok_icmp_ge 6 60 rfl rfl rfl (fun h9 => ?_) (fun h9 => ?_)))
  · refine ok_lload 31 rfl rfl rfl (ok_lret 32 rfl rfl rfl ?_)
    exact ⟨_, rfl, rfl, trivial⟩
  · refine ok_iconst 7 rfl rfl (by decide) (ok_ist7 8 rfl rfl rfl ?_)
    refine lpO2 (fun v j : Int => [some (vr 14), some (vl b), none, some (vi n), some (vl v), none, some (vi i), some (vi j)]) (fun _ _ => σ) (fun v j => 0 ≤ j ∧ j ≤ 8 ∧ 0 ≤ v) (fun _ j => (8 - j).toNat) ?_ v 0 ⟨by omega, by omega, v1⟩
    clear v1 v
    rintro v j ⟨j1, j2, v1⟩ ih2
    refine ok_iload 9 rfl rfl rfl (ok_iload_n 10 rfl rfl rfl (ok_icmp_ge 11 54 rfl rfl rfl (fun h18 => ?_) (fun h18 => ?_)))
    · refine ok_inc6 29 rfl rfl rfl (by first | omega | (simp [up_if]; omega) | (simp [up_if] at *; omega)) (ok_goto 30 6 rfl rfl rfl ?_)
      exact ok_fg [some (vr 14), some (vl b), none, some (vi n), some (vl _), none, some (vi (i + 1)), none] ⟨rfl, rfl, rfl, rfl, rfl, trivial⟩ (ih _ (i + 1) ⟨by omega, by omega, v1⟩ (by omega))
    · refine ok_lload 12 rfl rfl rfl (ok_lconst (w := 1) 13 rfl rfl rfl (by decide) (ok_lcmp_le 14 15 54 rfl rfl rfl rfl rfl (fun h24 => ?_) (fun h24 => ?_)))
      · refine ok_inc6 29 rfl rfl rfl (by first | omega | (simp [up_if]; omega) | (simp [up_if] at *; omega)) (ok_goto 30 6 rfl rfl rfl ?_)
        exact ok_fg [some (vr 14), some (vl b), none, some (vi n), some (vl _), none, some (vi (i + 1)), none] ⟨rfl, rfl, rfl, rfl, rfl, trivial⟩ (ih _ (i + 1) ⟨by omega, by omega, v1⟩ (by omega))
      · have s1 := hS (i * 8 + j) (by omega) (by omega)
        have s2 := (hg 15 (i * 8 + j)).1.2
        refine ok_lload 16 rfl rfl rfl (ok_aload_n 17 rfl rfl rfl (ok_getR 18 rfl rfl fl_X2_9 rfl rfl (ok_iload 19 rfl rfl rfl (ok_bipush 20 rfl rfl (by decide) (by decide) (ok_imul 21 rfl rfl (by first | omega | (simp [up_if]; omega) | (simp [up_if] at *; omega)) (ok_iload 22 rfl rfl rfl (ok_iadd 23 rfl rfl (by first | omega | (simp [up_if]; omega) | (simp [up_if] at *; omega)) (ok_lald 24 rfl rfl rfl (by first | omega | (simp [up_if]; omega) | (simp [up_if] at *; omega)) (ok_callSL (M' := M_Nu_greatestDivisor) (as := [_, _]) 25 rfl rfl ml_X2_66 (s_Nu_greatestDivisor v1 ⟨s1, by omega⟩) ⟨Nat.le_of_ble_eq_true rfl, Nat.le_of_ble_eq_true rfl⟩ rfl (Nat.le_of_ble_eq_true rfl) (fun σ' z hz => ?_))))))))))
        rw [hz.1, hz.2]
        clear hz z σ'
        refine ok_lst4 26 rfl rfl rfl (ok_inc7 27 rfl rfl rfl (by first | omega | (simp [up_if]; omega) | (simp [up_if] at *; omega)) (ok_goto 28 15 rfl rfl rfl ?_))
        exact ih2 _ (j + 1) ⟨by omega, by omega, by omega⟩ (by omega)
theorem up_to {P : Int → Prop} {j : Int} (h : ∀ k, 0 ≤ k → k < j → P k) (hj : P j) : ∀ k, 0 ≤ k → k < j + 1 → P k := fun k a b => by
  rcases (by omega : k < j ∨ k = j) with q | q
  · exact h k a q
  · rw [q]; exact hj
def cS (σ : eS) (g n : Int) : Prop := ∀ i j, 0 ≤ i → i < n → 0 ≤ j → j < n → σ 15 (i * 8 + j) / g ≤ 99999999
theorem s_Mk_areCells {σ : eS} {g n : Int} (hg1 : 1 ≤ g) (hn : n ≤ 8) (hS : iSu σ) : MtI shA M_Mk_areCells [vr 14, vl g, vi n] σ (fun σ' z => σ' = σ ∧ (z = 0 ∨ (z = 1 ∧ cS σ g n))) := by
  refine Mt.of okM_Mk_areCells (Nat.le_of_ble_eq_true rfl) (fun hk hg => ?_)
  refine ok_iconst 0 rfl rfl (by decide) (ok_ist4 1 rfl rfl rfl ?_)
  refine lpO (fun i : Int => [some (vr 14), some (vl g), none, some (vi n), some (vi i), none]) (fun _ => σ) (fun i => 0 ≤ i ∧ i ≤ 8 ∧ ∀ k j, 0 ≤ k → k < i → 0 ≤ j → j < n → σ 15 (k * 8 + j) / g ≤ 99999999) (fun i => (8 - i).toNat) ?_ 0 ⟨by omega, by omega, fun k j a b => by omega⟩
  rintro i ⟨i1, i2, hi⟩ ih
  refine ok_iload 2 rfl rfl rfl (ok_iload_n 3 rfl rfl rfl (ok_icmp_ge 4 54 rfl rfl rfl (fun h6 => ?_) (fun h6 => ?_)))
  · refine ok_iconst 29 rfl rfl (by decide) (ok_zret 30 rfl rfl rfl (by first | omega | (simp [up_if]; omega) | (simp [up_if] at *; omega)) ?_)
    exact ⟨_, rfl, rfl, Or.inr ⟨rfl, fun k j a b c d => hi k j a (by omega) c d⟩⟩
  · refine ok_iconst 5 rfl rfl (by decide) (ok_ist5 6 rfl rfl rfl ?_)
    refine lpO (fun j : Int => [some (vr 14), some (vl g), none, some (vi n), some (vi i), some (vi j)]) (fun _ => σ) (fun j => 0 ≤ j ∧ j ≤ 8 ∧ ∀ k, 0 ≤ k → k < j → σ 15 (i * 8 + k) / g ≤ 99999999) (fun j => (8 - j).toNat) ?_ 0 ⟨by omega, by omega, fun k a b => by omega⟩
    rintro j ⟨j1, j2, hj⟩ ih2
    refine ok_iload 7 rfl rfl rfl (ok_iload_n 8 rfl rfl rfl (ok_icmp_ge 9 48 rfl rfl rfl (fun h15 => ?_) (fun h15 => ?_)))
    · refine ok_inc4 27 rfl rfl rfl (by first | omega | (simp [up_if]; omega) | (simp [up_if] at *; omega)) (ok_goto 28 3 rfl rfl rfl ?_)
      exact ok_fg [some (vr 14), some (vl g), none, some (vi n), some (vi (i + 1)), none] ⟨rfl, rfl, rfl, rfl, trivial⟩ (ih (i + 1) ⟨by omega, by omega, fun k l a b c d => up_to (P := fun k => ∀ l, 0 ≤ l → l < n → σ 15 (k * 8 + l) / g ≤ 99999999) (fun k a b l c d => hi k l a b c d) (fun l c d => hj l c (by omega)) k a b l c d⟩ (by omega))
    · have s1 := hS (i * 8 + j) (by omega) (by omega)
      refine ok_aload_n 10 rfl rfl rfl (ok_getR 11 rfl rfl fl_X2_9 rfl rfl (ok_iload 12 rfl rfl rfl (ok_bipush 13 rfl rfl (by decide) (by decide) (ok_imul 14 rfl rfl (by first | omega | (simp [up_if]; omega) | (simp [up_if] at *; omega)) (ok_iload 15 rfl rfl rfl (ok_iadd 16 rfl rfl (by first | omega | (simp [up_if]; omega) | (simp [up_if] at *; omega)) (ok_lald 17 rfl rfl rfl (by first | omega | (simp [up_if]; omega) | (simp [up_if] at *; omega)) (ok_lload_n 18 rfl rfl rfl (ok_ldiv 19 rfl rfl (by first | omega | (simp [up_if]; omega) | (simp [up_if] at *; omega)) (by first | omega | (simp [up_if]; omega) | (simp [up_if] at *; omega)) (ok_ldc2 20 (99999999) rfl rfl kc_X2_69 (by decide) (ok_lcmp_le 21 22 42 rfl rfl rfl rfl rfl (fun h36 => ?_) (fun h36 => ?_))))))))))))
      · refine ok_inc5 25 rfl rfl rfl (by first | omega | (simp [up_if]; omega) | (simp [up_if] at *; omega)) (ok_goto 26 12 rfl rfl rfl ?_)
        exact ih2 (j + 1) ⟨by omega, by omega, up_to hj (by omega)⟩ (by omega)
      · refine ok_iconst 23 rfl rfl (by decide) (ok_zret 24 rfl rfl rfl (by first | omega | (simp [up_if]; omega) | (simp [up_if] at *; omega)) ?_)
        exact ⟨_, rfl, rfl, Or.inl rfl⟩
abbrev rgBr (t : Nat) : Nat → Int → Prop := fun c _ => c = t ∨ c = t + 4
theorem s_Mk_bring {σ : eS} {t : Nat} {b n : Int} (ht : tA t) (hb : 0 ≤ b) (hn : 0 ≤ n ∧ n ≤ 8) (hS : iSu σ) (hT : iT σ t) (hM : mT σ t) : MtI shA M_Mk_bring [vr 14, vl b, vi n, vr t] σ (fun σ' z => fr (rgBr t) σ σ' ∧ iT σ' t ∧ mT σ' t ∧ (z = 0 ∨ z = 1)) := by
  refine Mt.of okM_Mk_bring (Nat.le_of_ble_eq_true rfl) (fun hk hg => ?_)
  have nA := tA_10 ht
  refine ok_aload_n 0 rfl rfl rfl (ok_lload_n 1 rfl rfl rfl (ok_iload_n 2 rfl rfl rfl (ok_callVL (M' := M_Mk_sharedDivisor) (as := [_, _]) 3 rfl rfl ml_X2_52 (s_Mk_sharedDivisor hb hn.2 hS) rfl rfl (Nat.le_of_ble_eq_true rfl) ⟨Nat.le_of_ble_eq_true rfl, Nat.le_of_ble_eq_true rfl⟩ rfl (Nat.le_of_ble_eq_true rfl) (fun σ' g hz => ?_))))
  obtain ⟨hs_, hz⟩ := hz
  rw [hs_]; clear hs_ σ'
  refine ok_lst5 4 rfl rfl rfl (ok_lload 5 rfl rfl rfl (ok_lconst (w := 1) 6 rfl rfl rfl (by decide) (ok_lcmp_lt 7 8 36 rfl rfl rfl rfl rfl (fun h11 => ?_) (fun h11 => ?_))))
  · refine ok_iconst 20 rfl rfl (by decide) (ok_zret 21 rfl rfl rfl (by first | omega | (simp [up_if]; omega) | (simp [up_if] at *; omega)) ?_)
    exact ⟨_, rfl, fr.rf, hT, hM, Or.inl rfl⟩
  · refine ok_lload_n 9 rfl rfl rfl (ok_lload 10 rfl rfl rfl (ok_ldiv 11 rfl rfl (by first | omega | (simp [up_if]; omega) | (simp [up_if] at *; omega)) (by first | omega | (simp [up_if]; omega) | (simp [up_if] at *; omega)) (ok_ldc2 12 (999999) rfl rfl kc_X2_56 (by decide) (ok_lcmp_gt 13 14 36 rfl rfl rfl rfl rfl (fun h22 => ?_) (fun h22 => ?_)))))
    · refine ok_iconst 20 rfl rfl (by decide) (ok_zret 21 rfl rfl rfl (by first | omega | (simp [up_if]; omega) | (simp [up_if] at *; omega)) ?_)
      exact ⟨_, rfl, fr.rf, hT, hM, Or.inl rfl⟩
    · refine ok_aload_n 15 rfl rfl rfl (ok_lload 16 rfl rfl rfl (ok_iload_n 17 rfl rfl rfl (ok_callVI (M' := M_Mk_areCells) (as := [_, _]) 18 rfl rfl ml_X2_58 (s_Mk_areCells (by omega) hn.2 hS) rfl rfl (Nat.le_of_ble_eq_true rfl) ⟨Nat.le_of_ble_eq_true rfl, Nat.le_of_ble_eq_true rfl⟩ rfl (Nat.le_of_ble_eq_true rfl) (fun σ' z1 hz1 => ?_))))
      obtain ⟨hs_, hz1⟩ := hz1
      rw [hs_]; clear hs_ σ'
      refine ok_if_ne 19 38 rfl rfl rfl (fun h33 => ?_) (fun h33 => ?_)
      · have hc : cS σ g n := by
          rcases hz1 with q | q
          · exact absurd q h33
          · exact q.2
        clear hz1 h33
        refine ok_iconst 22 rfl rfl (by decide) (ok_ist7 23 rfl rfl rfl ?_)
        refine lpO2 (fun (i : Int) (_ : eS) => [some (vr 14), some (vl b), none, some (vi n), some (vr t), some (vl g), none, some (vi i), none, none]) (fun _ ρ => ρ) (fun i ρ => 0 ≤ i ∧ i ≤ 8 ∧ fr (fun c _ => c = t + 4) σ ρ ∧ ∀ k, 0 ≤ k → k < 64 → 0 ≤ ρ (t + 4) k ∧ ρ (t + 4) k ≤ 99999999) (fun i _ => (8 - i).toNat) ?_ 0 σ ⟨by omega, by omega, fr.rf, hT.2.2.2⟩
        rintro i ρ ⟨i1, i2, f, hcc⟩ ih
        refine ok_iload 24 rfl rfl rfl (ok_iload_n 25 rfl rfl rfl (ok_icmp_ge 26 97 rfl rfl rfl (fun h44 => ?_) (fun h44 => ?_)))
        · have dd : 0 ≤ b / g := Int.ediv_nonneg hb (by omega)
          refine ok_aload 53 rfl rfl rfl (ok_iload_n 54 rfl rfl rfl (ok_lload_n 55 rfl rfl rfl (ok_lload 56 rfl rfl rfl (ok_ldiv 57 rfl rfl (by first | omega | (simp [up_if]; omega) | (simp [up_if] at *; omega)) (by first | omega | (simp [up_if]; omega) | (simp [up_if] at *; omega)) (ok_l2i 58 rfl rfl (by first | omega | (simp [up_if]; omega) | (simp [up_if] at *; omega)) (ok_callVV (M' := M_Ta_settle) (as := [_, _]) 59 rfl rfl ml_X2_62 (s_Ta_settle ht hn (by omega) hcc) (sT ht) rfl (Nat.le_of_ble_eq_true rfl) ⟨Nat.le_of_ble_eq_true rfl, Nat.le_of_ble_eq_true rfl⟩ rfl (Nat.le_of_ble_eq_true rfl) (fun τ hz => ?_)))))))
          refine ok_iconst 60 rfl rfl (by decide) (ok_zret 61 rfl rfl rfl (by first | omega | (simp [up_if]; omega) | (simp [up_if] at *; omega)) ?_)
          exact ⟨_, rfl, (f.mono (fun c k q => by simp only [rgBr]; omega)).tr (hz.1.mono (fun c k q => by simp only [rgT1, rgBr] at q ⊢; omega)), hz.2.1, hz.2.2.1, Or.inr rfl⟩
        · refine ok_iconst 27 rfl rfl (by decide) (ok_ist8 28 rfl rfl rfl ?_)
          have il : i < n := by omega
          clear h44
          refine lpO2 (fun (j : Int) (_ : eS) => [some (vr 14), some (vl b), none, some (vi n), some (vr t), some (vl g), none, some (vi i), some (vi j), none]) (fun _ ρ => ρ) (fun j ρ => 0 ≤ j ∧ j ≤ 8 ∧ fr (fun c _ => c = t + 4) σ ρ ∧ ∀ k, 0 ≤ k → k < 64 → 0 ≤ ρ (t + 4) k ∧ ρ (t + 4) k ≤ 99999999) (fun j _ => (8 - j).toNat) ?_ 0 ρ ⟨by omega, by omega, f, hcc⟩
          clear f hcc ρ
          rintro j ρ ⟨j1, j2, f, hcc⟩ ih2
          have e15 : ρ 15 (i * 8 + j) = σ 15 (i * 8 + j) := f 15 _ (by omega)
          refine ok_iload 29 rfl rfl rfl (ok_iload_n 30 rfl rfl rfl (ok_icmp_ge 31 91 rfl rfl rfl (fun h53 => ?_) (fun h53 => ?_)))
          · refine ok_inc7 51 rfl rfl rfl (by first | omega | (simp [up_if]; omega) | (simp [up_if] at *; omega)) (ok_goto 52 41 rfl rfl rfl ?_)
            exact ok_fg [some (vr 14), some (vl b), none, some (vi n), some (vr t), some (vl g), none, some (vi (i + 1)), none, none] ⟨rfl, rfl, rfl, rfl, rfl, rfl, trivial⟩ (ih (i + 1) ρ ⟨by omega, by omega, f, hcc⟩ (by omega))
          · have s1 : 0 ≤ ρ 15 (i * 8 + j) := by rw [e15]; exact hS _ (by omega) (by omega)
            have d1 := hc i j i1 il j1 (by omega)
            rw [← e15] at d1
            have d0 : 0 ≤ ρ 15 (i * 8 + j) / g := Int.ediv_nonneg s1 (by omega)
            refine ok_iload 32 rfl rfl rfl (ok_bipush 33 rfl rfl (by decide) (by decide) (ok_imul 34 rfl rfl (by first | omega | (simp [up_if]; omega) | (simp [up_if] at *; omega)) (ok_iload 35 rfl rfl rfl (ok_iadd 36 rfl rfl (by first | omega | (simp [up_if]; omega) | (simp [up_if] at *; omega)) (ok_ist9 37 rfl rfl rfl (ok_aload 38 rfl rfl rfl (ok_getR 39 rfl rfl fl_X2_34 (sT ht) rfl (ok_iload 40 rfl rfl rfl (ok_aload_n 41 rfl rfl rfl (ok_getR 42 rfl rfl fl_X2_9 rfl rfl (ok_iload 43 rfl rfl rfl (ok_lald 44 rfl rfl rfl (by first | omega | (simp [up_if]; omega) | (simp [up_if] at *; omega)) (ok_lload 45 rfl rfl rfl (ok_ldiv 46 rfl rfl (by first | omega | (simp [up_if]; omega) | (simp [up_if] at *; omega)) (by first | omega | (simp [up_if]; omega) | (simp [up_if] at *; omega)) (ok_l2i 47 rfl rfl (by first | omega | (simp [up_if]; omega) | (simp [up_if] at *; omega)) (ok_iast 48 rfl rfl (sC ht) (by first | omega | (simp [up_if]; omega) | (simp [up_if] at *; omega)) (ok_inc8 49 rfl rfl rfl (by first | omega | (simp [up_if]; omega) | (simp [up_if] at *; omega)) (ok_goto 50 50 rfl rfl rfl ?_))))))))))))))))))
            refine ok_fg [some (vr 14), some (vl b), none, some (vi n), some (vr t), some (vl g), none, some (vi i), some (vi (j + 1)), none] ⟨rfl, rfl, rfl, rfl, rfl, rfl, rfl, trivial⟩ (ih2 (j + 1) _ ⟨by omega, by omega, fr_up f rfl, fun k a c => ?_⟩ (by omega))
            rw [up_if]
            by_cases q : k = i * 8 + j
            · rw [if_pos ⟨rfl, q⟩]; exact ⟨d0, d1⟩
            · rw [if_neg (fun y => q y.2)]; exact hcc k a c
      · refine ok_iconst 20 rfl rfl (by decide) (ok_zret 21 rfl rfl rfl (by first | omega | (simp [up_if]; omega) | (simp [up_if] at *; omega)) ?_)
        exact ⟨_, rfl, fr.rf, hT, hM, Or.inl rfl⟩
theorem s_Mk_multiplied {σ : eS} {p f : Int} (hp : 0 ≤ p) (hf : 0 ≤ f) : MtL shA M_Mk_multiplied [vl p, vl f] σ (fun σ' z => σ' = σ ∧ (z = -1 ∨ (0 ≤ z ∧ z ≤ 1000000000000000))) := by
  refine Mt.of okM_Mk_multiplied (Nat.le_of_ble_eq_true rfl) (fun hk hg => ?_)
  refine ok_lload_n 0 rfl rfl rfl (ok_lconst (w := 0) 1 rfl rfl rfl (by decide) (ok_lcmp_ne 2 3 8 rfl rfl rfl rfl rfl (fun h2 => ?_) (fun h2 => ?_)))
  · have p1 : 0 < p := by omega
    refine ok_lload_n 6 rfl rfl rfl (ok_ldc2 7 (1000000000000000) rfl rfl kc_X2_42 (by decide) (ok_lload_n 8 rfl rfl rfl (ok_ldiv 9 rfl rfl (by first | omega | (simp [up_if]; omega) | (simp [up_if] at *; omega)) (by first | omega | (simp [up_if]; omega) | (simp [up_if] at *; omega)) (ok_lcmp_le 10 11 24 rfl rfl rfl rfl rfl (fun h14 => ?_) (fun h14 => ?_)))))
    · have m : p * f ≤ 1000000000000000 := mul_le_div p1 h14
      have m0 : 0 ≤ p * f := Int.mul_nonneg hp hf
      refine ok_lload_n 14 rfl rfl rfl (ok_lload_n 15 rfl rfl rfl (ok_lmul 16 rfl rfl (by first | omega | (simp [up_if]; omega) | (simp [up_if] at *; omega)) (ok_lret 17 rfl rfl rfl ?_)))
      exact ⟨_, rfl, rfl, Or.inr ⟨m0, m⟩⟩
    · refine ok_ldc2 12 (-1) rfl rfl kc_X2_29 (by decide) (ok_goto 13 27 rfl rfl rfl (ok_lret 17 rfl rfl rfl ?_))
      exact ⟨_, rfl, rfl, Or.inl rfl⟩
  · refine ok_lconst (w := 0) 4 rfl rfl rfl (by decide) (ok_lret 5 rfl rfl rfl ?_)
    exact ⟨_, rfl, rfl, Or.inr ⟨by omega, by omega⟩⟩
theorem s_Mk_turnedFrom {σ : eS} {i b1 b2 r l : Int} (hi : 0 ≤ i ∧ i ≤ l) (hl : l ≤ 7) (hr : b2 ≠ 0 → 0 ≤ r ∧ r ≤ l) : MtI shA M_Mk_turnedFrom [vi i, vi b1, vi b2, vi r, vi l] σ (fun σ' z => σ' = σ ∧ 0 ≤ z ∧ z ≤ l) := by
  refine Mt.of okM_Mk_turnedFrom (Nat.le_of_ble_eq_true rfl) (fun hk hg => ?_)
  refine ok_iload_n 0 rfl rfl rfl (ok_if_eq 1 9 rfl rfl rfl (fun h1 => ?_) (fun h1 => ?_))
  · refine ok_iload_n 6 rfl rfl rfl (ok_if_eq 7 18 rfl rfl rfl (fun h10 => ?_) (fun h10 => ?_))
    · refine ok_iload_n 11 rfl rfl rfl (ok_iret 12 rfl rfl rfl ?_)
      exact ⟨_, rfl, rfl, by omega, by omega⟩
    · refine ok_iload_n 8 rfl rfl rfl (ok_iload_n 9 rfl rfl rfl (ok_icmp_ge 10 20 rfl rfl rfl (fun h15 => ?_) (fun h15 => ?_)))
      · refine ok_iload_n 13 rfl rfl rfl (ok_iload 14 rfl rfl rfl (ok_icmp_ge 15 32 rfl rfl rfl (fun h23 => ?_) (fun h23 => ?_)))
        · refine ok_iload_n 20 rfl rfl rfl (ok_iret 21 rfl rfl rfl ?_)
          exact ⟨_, rfl, rfl, by omega, by omega⟩
        · refine ok_iload_n 16 rfl rfl rfl (ok_iconst 17 rfl rfl (by decide) (ok_iadd 18 rfl rfl (by first | omega | (simp [up_if]; omega) | (simp [up_if] at *; omega)) (ok_goto 19 33 rfl rfl rfl (ok_iret 21 rfl rfl rfl ?_))))
          exact ⟨_, rfl, rfl, by omega, by omega⟩
      · refine ok_iload_n 11 rfl rfl rfl (ok_iret 12 rfl rfl rfl ?_)
        exact ⟨_, rfl, rfl, by omega, by omega⟩
  · refine ok_iload 2 rfl rfl rfl (ok_iload_n 3 rfl rfl rfl (ok_isub 4 rfl rfl (by first | omega | (simp [up_if]; omega) | (simp [up_if] at *; omega)) (ok_iret 5 rfl rfl rfl ?_)))
    exact ⟨_, rfl, rfl, by omega, by omega⟩
theorem up_su {σ : eS} {j z : Int} (h : iSu σ) (hz : 0 ≤ z) : iSu (up σ 15 j z) := fun k a b => by
  rw [up_if]
  by_cases q : k = j
  · rw [if_pos ⟨rfl, q⟩]; exact hz
  · rw [if_neg (fun y => q y.2)]; exact h k a b
abbrev rgSu : Nat → Int → Prop := fun c _ => c = 15
theorem s_Mk_makeTurned {σ : eS} {t u : Nat} {w r : Int} (ht : tA t) (hu : tA u) (hS : iSu σ) (hT : iT σ t) (hU : iT σ u) (hM : mT σ u) (hn : σ t 1 ≠ 0) (hr : 3 < w → 0 ≤ r ∧ r < σ t 1) (hw : w ≤ 5) : MtI shA M_Mk_makeTurned [vr 14, vr t, vi w, vi r, vr u] σ (fun σ' z => fr (fun c _ => c = 15 ∨ c = u ∨ c = u + 4) σ σ' ∧ iT σ' u ∧ mT σ' u ∧ iSu σ' ∧ (z = 0 ∨ z = 1)) := by
  refine Mt.of okM_Mk_makeTurned (Nat.le_of_ble_eq_true rfl) (fun hk hg => ?_)
  have nA := tA_10 ht
  have nB := tA_10 hu
  have n1 := hT.1
  have n2 := hT.2.1
  have hB := hT.2.2.1 (by omega)
  refine ok_aload_n 0 rfl rfl rfl (ok_getI 1 rfl rfl fl_X2_31 (sT ht) rfl (Or.inl rfl) (ok_iconst 2 rfl rfl (by decide) (ok_isub 3 rfl rfl (by first | omega | (simp [up_if]; omega) | (simp [up_if] at *; omega)) (ok_ist5 4 rfl rfl rfl (ok_iconst 5 rfl rfl (by decide) (ok_ist6 6 rfl rfl rfl ?_))))))
  refine lpO2 (fun (i : Int) (_ : eS) => [some (vr 14), some (vr t), some (vi w), some (vi r), some (vr u), some (vi (σ t 1 - 1)), some (vi i), none, none, none]) (fun _ ρ => ρ) (fun i ρ => 0 ≤ i ∧ i ≤ 8 ∧ fr rgSu σ ρ ∧ iSu ρ) (fun i _ => (8 - i).toNat) ?_ 0 σ ⟨by omega, by omega, fr.rf, hS⟩
  rintro i ρ ⟨i1, i2, f, hS1⟩ ih
  have e1 : ρ t 1 = σ t 1 := f t 1 (by simp only [rgSu]; omega)
  refine ok_iload 7 rfl rfl rfl (ok_aload_n 8 rfl rfl rfl (ok_getI 9 rfl rfl fl_X2_31 (sT ht) rfl (Or.inl rfl) (ok_icmp_ge 10 151 rfl rfl rfl (fun h17 => ?_) (fun h17 => ?_))))
  · have e2 : ρ t 2 = σ t 2 := f t 2 (by simp only [rgSu]; omega)
    have x1 : ∀ k, ρ (u + 4) k = σ (u + 4) k := fun k => f _ _ (by simp only [rgSu]; omega)
    have x2 : ∀ k, ρ u k = σ u k := fun k => f _ _ (by simp only [rgSu]; omega)
    refine ok_aload_n 82 rfl rfl rfl (ok_aload_n 83 rfl rfl rfl (ok_getI 84 rfl rfl fl_X2_15 (sT ht) rfl (Or.inl rfl) (ok_i2l 85 rfl rfl (ok_aload_n 86 rfl rfl rfl (ok_getI 87 rfl rfl fl_X2_31 (sT ht) rfl (Or.inl rfl) (ok_aload 88 rfl rfl rfl (ok_callVI (M' := M_Mk_bring) (as := [_, _, _]) 89 rfl rfl ml_X2_44 (s_Mk_bring hu (by omega) ⟨by omega, by omega⟩ hS1 (iT_cg hU (x2 1) (x2 2) x1).1 (mT_cg hM (x2 1) (x2 3) x1)) rfl rfl (Nat.le_of_ble_eq_true rfl) ⟨Nat.le_of_ble_eq_true rfl, Nat.le_of_ble_eq_true rfl⟩ rfl (Nat.le_of_ble_eq_true rfl) (fun τ z hz => ?_))))))))
    refine ok_zret 90 rfl rfl rfl hz.2.2.2 ?_
    exact ⟨_, rfl, (f.mono (fun c k q => by simp only [rgSu] at q; omega)).tr (hz.1.mono (fun c k q => by simp only [rgBr] at q; omega)), hz.2.1, hz.2.2.1, iSu_cg hS1 (fun k => hz.1 15 k (by simp only [rgBr]; omega)), hz.2.2.2⟩
  · refine ok_iconst 11 rfl rfl (by decide) (ok_ist7 12 rfl rfl rfl ?_)
    have il : i < σ t 1 := by omega
    clear h17
    refine lpO2 (fun (j : Int) (_ : eS) => [some (vr 14), some (vr t), some (vi w), some (vi r), some (vr u), some (vi (σ t 1 - 1)), some (vi i), some (vi j), none, none]) (fun _ ρ => ρ) (fun j ρ => 0 ≤ j ∧ j ≤ 8 ∧ fr rgSu σ ρ ∧ iSu ρ) (fun j _ => (8 - j).toNat) ?_ 0 ρ ⟨by omega, by omega, f, hS1⟩
    clear e1 f hS1 ρ
    rintro j ρ ⟨j1, j2, f, hS1⟩ ih2
    have e1 : ρ t 1 = σ t 1 := f t 1 (by simp only [rgSu]; omega)
    refine ok_iload 13 rfl rfl rfl (ok_aload_n 14 rfl rfl rfl (ok_getI 15 rfl rfl fl_X2_31 (sT ht) rfl (Or.inl rfl) (ok_icmp_ge 16 145 rfl rfl rfl (fun h29 => ?_) (fun h29 => ?_))))
    · refine ok_inc6 80 rfl rfl rfl (by first | omega | (simp [up_if]; omega) | (simp [up_if] at *; omega)) (ok_goto 81 11 rfl rfl rfl ?_)
      exact ok_fg [some (vr 14), some (vr t), some (vi w), some (vi r), some (vr u), some (vi (σ t 1 - 1)), some (vi (i + 1)), none, none, none] ⟨rfl, rfl, rfl, rfl, rfl, rfl, rfl, trivial⟩ (ih (i + 1) ρ ⟨by omega, by omega, f, hS1⟩ (by omega))
    · have jl : j < σ t 1 := by omega
      clear h29
      have tail2 : ∀ a b : Int, 0 ≤ a → a ≤ σ t 1 - 1 → 0 ≤ b → b ≤ σ t 1 - 1 → Ok shA M_Mk_makeTurned 110 [some (vr 14), some (vr t), some (vi w), some (vi r), some (vr u), some (vi (σ t 1 - 1)), some (vi i), some (vi j), some (vi a), none] [vi b] ρ (fun σ' v => ∃ z, v = some (vi z) ∧ fr (fun c _ => c = 15 ∨ c = u ∨ c = u + 4) σ σ' ∧ iT σ' u ∧ mT σ' u ∧ iSu σ' ∧ (z = 0 ∨ z = 1)) := by
        intro a b a1 a2 b1 b2
        refine ok_ist9 60 rfl rfl rfl (ok_aload_n 61 rfl rfl rfl (ok_getR 62 rfl rfl fl_X2_9 rfl rfl (ok_iload 63 rfl rfl rfl (ok_bipush 64 rfl rfl (by decide) (by decide) (ok_imul 65 rfl rfl (by first | omega | (simp [up_if]; omega) | (simp [up_if] at *; omega)) (ok_iload 66 rfl rfl rfl (ok_iadd 67 rfl rfl (by first | omega | (simp [up_if]; omega) | (simp [up_if] at *; omega)) (ok_aload_n 68 rfl rfl rfl (ok_getR 69 rfl rfl fl_X2_34 (sT ht) rfl (ok_iload 70 rfl rfl rfl (ok_bipush 71 rfl rfl (by decide) (by decide) (ok_imul 72 rfl rfl (by first | omega | (simp [up_if]; omega) | (simp [up_if] at *; omega)) (ok_iload 73 rfl rfl rfl (ok_iadd 74 rfl rfl (by first | omega | (simp [up_if]; omega) | (simp [up_if] at *; omega)) (ok_iald 75 rfl rfl (sC ht) (by first | omega | (simp [up_if]; omega) | (simp [up_if] at *; omega)) (ok_i2l 76 rfl rfl (ok_last 77 rfl rfl rfl (by first | omega | (simp [up_if]; omega) | (simp [up_if] at *; omega)) (ok_inc7 78 rfl rfl rfl (by first | omega | (simp [up_if]; omega) | (simp [up_if] at *; omega)) (ok_goto 79 23 rfl rfl rfl ?_)))))))))))))))))))
        have cb := hT.2.2.2 (a * 8 + b) (by omega) (by omega)
        rw [← f (t + 4) (a * 8 + b) (by simp only [rgSu]; omega)] at cb
        exact ok_fg [some (vr 14), some (vr t), some (vi w), some (vi r), some (vr u), some (vi (σ t 1 - 1)), some (vi i), some (vi (j + 1)), none, none] ⟨rfl, rfl, rfl, rfl, rfl, rfl, rfl, rfl, trivial⟩ (ih2 (j + 1) _ ⟨by omega, by omega, fr_up f rfl, up_su hS1 cb.1⟩ (by omega))
      have tail : ∀ a : Int, 0 ≤ a → a ≤ σ t 1 - 1 → Ok shA M_Mk_makeTurned 70 [some (vr 14), some (vr t), some (vi w), some (vi r), some (vr u), some (vi (σ t 1 - 1)), some (vi i), some (vi j), none, none] [vi a] ρ (fun σ' v => ∃ z, v = some (vi z) ∧ fr (fun c _ => c = 15 ∨ c = u ∨ c = u + 4) σ σ' ∧ iT σ' u ∧ mT σ' u ∧ iSu σ' ∧ (z = 0 ∨ z = 1)) := by
        intro a a1 a2
        refine ok_ist8 38 rfl rfl rfl (ok_iload_n 39 rfl rfl rfl (ok_iconst 40 rfl rfl (by decide) (ok_icmp_ne 41 82 rfl rfl rfl (fun h74 => ?_) (fun h74 => ?_))))
        · refine ok_iload 44 rfl rfl rfl (ok_iload_n 45 rfl rfl rfl (ok_iconst 46 rfl rfl (by decide) (ok_icmp_ne 47 93 rfl rfl rfl (fun h86 => ?_) (fun h86 => ?_))))
          · refine ok_iconst 50 rfl rfl (by decide) (ok_iload_n 51 rfl rfl rfl (ok_iconst 52 rfl rfl (by decide) (ok_icmp_ne 53 103 rfl rfl rfl (fun h96 => ?_) (fun h96 => ?_))))
            · refine ok_iconst 56 rfl rfl (by decide) (ok_iload_n 57 rfl rfl rfl (ok_iload 58 rfl rfl rfl (ok_callSI (M' := M_Mk_turnedFrom) (as := [_, _, _, _, _]) 59 rfl rfl ml_X2_48 (s_Mk_turnedFrom ⟨by omega, by omega⟩ (by omega) (by omega)) ⟨Nat.le_of_ble_eq_true rfl, Nat.le_of_ble_eq_true rfl⟩ rfl (Nat.le_of_ble_eq_true rfl) (fun σ' z hz => ?_))))
              obtain ⟨hs_, hz⟩ := hz
              rw [hs_]; clear hs_ σ'
              first | exact tail2 a z a1 a2 hz.1 hz.2 | exact tail2 a i a1 a2 i1 (by omega)
            · refine ok_iconst 54 rfl rfl (by decide) (ok_goto 55 104 rfl rfl rfl (ok_iload_n 57 rfl rfl rfl (ok_iload 58 rfl rfl rfl (ok_callSI (M' := M_Mk_turnedFrom) (as := [_, _, _, _, _]) 59 rfl rfl ml_X2_48 (s_Mk_turnedFrom ⟨by omega, by omega⟩ (by omega) (by omega)) ⟨Nat.le_of_ble_eq_true rfl, Nat.le_of_ble_eq_true rfl⟩ rfl (Nat.le_of_ble_eq_true rfl) (fun σ' z hz => ?_)))))
              obtain ⟨hs_, hz⟩ := hz
              rw [hs_]; clear hs_ σ'
              first | exact tail2 a z a1 a2 hz.1 hz.2 | exact tail2 a i a1 a2 i1 (by omega)
          · refine ok_iconst 48 rfl rfl (by decide) (ok_goto 49 94 rfl rfl rfl (ok_iload_n 51 rfl rfl rfl (ok_iconst 52 rfl rfl (by decide) (ok_icmp_ne 53 103 rfl rfl rfl (fun h96 => ?_) (fun h96 => ?_)))))
            · refine ok_iconst 56 rfl rfl (by decide) (ok_iload_n 57 rfl rfl rfl (ok_iload 58 rfl rfl rfl (ok_callSI (M' := M_Mk_turnedFrom) (as := [_, _, _, _, _]) 59 rfl rfl ml_X2_48 (s_Mk_turnedFrom ⟨by omega, by omega⟩ (by omega) (by omega)) ⟨Nat.le_of_ble_eq_true rfl, Nat.le_of_ble_eq_true rfl⟩ rfl (Nat.le_of_ble_eq_true rfl) (fun σ' z hz => ?_))))
              obtain ⟨hs_, hz⟩ := hz
              rw [hs_]; clear hs_ σ'
              first | exact tail2 a z a1 a2 hz.1 hz.2 | exact tail2 a i a1 a2 i1 (by omega)
            · refine ok_iconst 54 rfl rfl (by decide) (ok_goto 55 104 rfl rfl rfl (ok_iload_n 57 rfl rfl rfl (ok_iload 58 rfl rfl rfl (ok_callSI (M' := M_Mk_turnedFrom) (as := [_, _, _, _, _]) 59 rfl rfl ml_X2_48 (s_Mk_turnedFrom ⟨by omega, by omega⟩ (by omega) (by omega)) ⟨Nat.le_of_ble_eq_true rfl, Nat.le_of_ble_eq_true rfl⟩ rfl (Nat.le_of_ble_eq_true rfl) (fun σ' z hz => ?_)))))
              obtain ⟨hs_, hz⟩ := hz
              rw [hs_]; clear hs_ σ'
              first | exact tail2 a z a1 a2 hz.1 hz.2 | exact tail2 a i a1 a2 i1 (by omega)
        · refine ok_iload 42 rfl rfl rfl (ok_goto 43 110 rfl rfl rfl ?_)
          first | exact tail2 a z a1 a2 hz.1 hz.2 | exact tail2 a i a1 a2 i1 (by omega)
      refine ok_iload_n 17 rfl rfl rfl (ok_iconst 18 rfl rfl (by decide) (ok_icmp_ne 19 42 rfl rfl rfl (fun h34 => ?_) (fun h34 => ?_)))
      · refine ok_iload 22 rfl rfl rfl (ok_iload_n 23 rfl rfl rfl (ok_iconst 24 rfl rfl (by decide) (ok_icmp_ne 25 53 rfl rfl rfl (fun h46 => ?_) (fun h46 => ?_))))
        · refine ok_iconst 28 rfl rfl (by decide) (ok_iload_n 29 rfl rfl rfl (ok_iconst 30 rfl rfl (by decide) (ok_icmp_ne 31 63 rfl rfl rfl (fun h56 => ?_) (fun h56 => ?_))))
          · refine ok_iconst 34 rfl rfl (by decide) (ok_iload_n 35 rfl rfl rfl (ok_iload 36 rfl rfl rfl (ok_callSI (M' := M_Mk_turnedFrom) (as := [_, _, _, _, _]) 37 rfl rfl ml_X2_48 (s_Mk_turnedFrom ⟨by omega, by omega⟩ (by omega) (by omega)) ⟨Nat.le_of_ble_eq_true rfl, Nat.le_of_ble_eq_true rfl⟩ rfl (Nat.le_of_ble_eq_true rfl) (fun σ' z hz => ?_))))
            obtain ⟨hs_, hz⟩ := hz
            rw [hs_]; clear hs_ σ'
            first | exact tail z hz.1 hz.2 | exact tail j j1 (by omega)
          · refine ok_iconst 32 rfl rfl (by decide) (ok_goto 33 64 rfl rfl rfl (ok_iload_n 35 rfl rfl rfl (ok_iload 36 rfl rfl rfl (ok_callSI (M' := M_Mk_turnedFrom) (as := [_, _, _, _, _]) 37 rfl rfl ml_X2_48 (s_Mk_turnedFrom ⟨by omega, by omega⟩ (by omega) (by omega)) ⟨Nat.le_of_ble_eq_true rfl, Nat.le_of_ble_eq_true rfl⟩ rfl (Nat.le_of_ble_eq_true rfl) (fun σ' z hz => ?_)))))
            obtain ⟨hs_, hz⟩ := hz
            rw [hs_]; clear hs_ σ'
            first | exact tail z hz.1 hz.2 | exact tail j j1 (by omega)
        · refine ok_iconst 26 rfl rfl (by decide) (ok_goto 27 54 rfl rfl rfl (ok_iload_n 29 rfl rfl rfl (ok_iconst 30 rfl rfl (by decide) (ok_icmp_ne 31 63 rfl rfl rfl (fun h56 => ?_) (fun h56 => ?_)))))
          · refine ok_iconst 34 rfl rfl (by decide) (ok_iload_n 35 rfl rfl rfl (ok_iload 36 rfl rfl rfl (ok_callSI (M' := M_Mk_turnedFrom) (as := [_, _, _, _, _]) 37 rfl rfl ml_X2_48 (s_Mk_turnedFrom ⟨by omega, by omega⟩ (by omega) (by omega)) ⟨Nat.le_of_ble_eq_true rfl, Nat.le_of_ble_eq_true rfl⟩ rfl (Nat.le_of_ble_eq_true rfl) (fun σ' z hz => ?_))))
            obtain ⟨hs_, hz⟩ := hz
            rw [hs_]; clear hs_ σ'
            first | exact tail z hz.1 hz.2 | exact tail j j1 (by omega)
          · refine ok_iconst 32 rfl rfl (by decide) (ok_goto 33 64 rfl rfl rfl (ok_iload_n 35 rfl rfl rfl (ok_iload 36 rfl rfl rfl (ok_callSI (M' := M_Mk_turnedFrom) (as := [_, _, _, _, _]) 37 rfl rfl ml_X2_48 (s_Mk_turnedFrom ⟨by omega, by omega⟩ (by omega) (by omega)) ⟨Nat.le_of_ble_eq_true rfl, Nat.le_of_ble_eq_true rfl⟩ rfl (Nat.le_of_ble_eq_true rfl) (fun σ' z hz => ?_)))))
            obtain ⟨hs_, hz⟩ := hz
            rw [hs_]; clear hs_ σ'
            first | exact tail z hz.1 hz.2 | exact tail j j1 (by omega)
      · refine ok_iload 20 rfl rfl rfl (ok_goto 21 70 rfl rfl rfl ?_)
        first | exact tail z hz.1 hz.2 | exact tail j j1 (by omega)
end
section
theorem s_Mk_makeProduct {σ : eS} {t u v : Nat} (ht : tA t) (hu : tA u) (hv : tA v) (hS : iSu σ) (hT : iT σ t) (hU : iT σ u) (hV : iT σ v) (hM : mT σ v) (hn : σ t 1 ≠ 0) (hnu : σ t 1 = σ u 1) : MtI shA M_Mk_makeProduct [vr 14, vr t, vr u, vr v] σ (fun σ' z => fr (fun c _ => c = 15 ∨ c = v ∨ c = v + 4) σ σ' ∧ iT σ' v ∧ mT σ' v ∧ iSu σ' ∧ (z = 0 ∨ z = 1)) := by
  refine Mt.of okM_Mk_makeProduct (Nat.le_of_ble_eq_true rfl) (fun hk hg => ?_)
  have nA := tA_10 ht
  have nB := tA_10 hu
  have nC := tA_10 hv
  have n1 := hT.1
  have n2 := hT.2.1
  have hB := hT.2.2.1 (by omega)
  have hB2 := hU.2.2.1 (by omega)
  refine ok_iconst 0 rfl rfl (by decide) (ok_ist4 1 rfl rfl rfl ?_)
  refine lpO2 (fun (i : Int) (_ : eS) => [some (vr 14), some (vr t), some (vr u), some (vr v), some (vi i), none, none, none, none]) (fun _ ρ => ρ) (fun i ρ => 0 ≤ i ∧ i ≤ 8 ∧ fr rgSu σ ρ ∧ iSu ρ) (fun i _ => (8 - i).toNat) ?_ 0 σ ⟨by omega, by omega, fr.rf, hS⟩
  rintro i ρ ⟨i1, i2, f, hS1⟩ ih
  have e1 : ρ t 1 = σ t 1 := f t 1 (by simp only [rgSu]; omega)
  refine ok_iload 2 rfl rfl rfl (ok_aload_n 3 rfl rfl rfl (ok_getI 4 rfl rfl fl_X2_31 (sT ht) rfl (Or.inl rfl) (ok_icmp_ge 5 106 rfl rfl rfl (fun h9 => ?_) (fun h9 => ?_))))
  · have e2 : ρ t 2 = σ t 2 := f t 2 (by simp only [rgSu]; omega)
    have e3 : ρ u 2 = σ u 2 := f u 2 (by simp only [rgSu]; omega)
    have x1 : ∀ k, ρ (v + 4) k = σ (v + 4) k := fun k => f _ _ (by simp only [rgSu]; omega)
    have x2 : ∀ k, ρ v k = σ v k := fun k => f _ _ (by simp only [rgSu]; omega)
    have mm := mul_bd2 (a := ρ t 2) (b := ρ u 2) (A := 999999) (B := 999999) ⟨by omega, by omega⟩ ⟨by omega, by omega⟩
    refine ok_aload_n 57 rfl rfl rfl (ok_aload_n 58 rfl rfl rfl (ok_getI 59 rfl rfl fl_X2_15 (sT ht) rfl (Or.inl rfl) (ok_i2l 60 rfl rfl (ok_aload_n 61 rfl rfl rfl (ok_getI 62 rfl rfl fl_X2_15 (sT hu) rfl (Or.inl rfl) (ok_i2l 63 rfl rfl (ok_lmul 64 rfl rfl (by first | omega | (simp [up_if]; omega) | (simp [up_if] at *; omega)) (ok_aload_n 65 rfl rfl rfl (ok_getI 66 rfl rfl fl_X2_31 (sT ht) rfl (Or.inl rfl) (ok_aload_n 67 rfl rfl rfl (ok_callVI (M' := M_Mk_bring) (as := [_, _, _]) 68 rfl rfl ml_X2_44 (s_Mk_bring hv mm.1 ⟨by omega, by omega⟩ hS1 (iT_cg hV (x2 1) (x2 2) x1).1 (mT_cg hM (x2 1) (x2 3) x1)) rfl rfl (Nat.le_of_ble_eq_true rfl) ⟨Nat.le_of_ble_eq_true rfl, Nat.le_of_ble_eq_true rfl⟩ rfl (Nat.le_of_ble_eq_true rfl) (fun τ z hz => ?_))))))))))))
    refine ok_zret 69 rfl rfl rfl hz.2.2.2 ?_
    exact ⟨_, rfl, (f.mono (fun c k q => by simp only [rgSu] at q; omega)).tr (hz.1.mono (fun c k q => by simp only [rgBr] at q; omega)), hz.2.1, hz.2.2.1, iSu_cg hS1 (fun k => hz.1 15 k (by simp only [rgBr]; omega)), hz.2.2.2⟩
  · refine ok_iconst 6 rfl rfl (by decide) (ok_ist5 7 rfl rfl rfl ?_)
    have il : i < σ t 1 := by omega
    clear h9
    refine lpO2 (fun (j : Int) (_ : eS) => [some (vr 14), some (vr t), some (vr u), some (vr v), some (vi i), some (vi j), none, none, none]) (fun _ ρ => ρ) (fun j ρ => 0 ≤ j ∧ j ≤ 8 ∧ fr rgSu σ ρ ∧ iSu ρ) (fun j _ => (8 - j).toNat) ?_ 0 ρ ⟨by omega, by omega, f, hS1⟩
    clear e1 f hS1 ρ
    rintro j ρ ⟨j1, j2, f, hS1⟩ ih2
    have e1 : ρ t 1 = σ t 1 := f t 1 (by simp only [rgSu]; omega)
    refine ok_iload 8 rfl rfl rfl (ok_aload_n 9 rfl rfl rfl (ok_getI 10 rfl rfl fl_X2_31 (sT ht) rfl (Or.inl rfl) (ok_icmp_ge 11 100 rfl rfl rfl (fun h21 => ?_) (fun h21 => ?_))))
    · refine ok_inc4 55 rfl rfl rfl (by first | omega | (simp [up_if]; omega) | (simp [up_if] at *; omega)) (ok_goto 56 3 rfl rfl rfl ?_)
      exact ok_fg [some (vr 14), some (vr t), some (vr u), some (vr v), some (vi (i + 1)), none, none, none, none] ⟨rfl, rfl, rfl, rfl, rfl, trivial⟩ (ih (i + 1) ρ ⟨by omega, by omega, f, hS1⟩ (by omega))
    · refine ok_lconst (w := 0) 12 rfl rfl rfl (by decide) (ok_lst6 13 rfl rfl rfl (ok_iconst 14 rfl rfl (by decide) (ok_ist8 15 rfl rfl rfl ?_)))
      have jl : j < σ t 1 := by omega
      clear h21
      refine lpO2 (fun (s k : Int) => [some (vr 14), some (vr t), some (vr u), some (vr v), some (vi i), some (vi j), some (vl s), none, some (vi k)]) (fun _ _ => ρ) (fun s k => 0 ≤ k ∧ k ≤ 8 ∧ 0 ≤ s ∧ s ≤ k * 9999999800000001) (fun _ k => (8 - k).toNat) ?_ 0 0 ⟨by omega, by omega, by omega, by omega⟩
      rintro s k ⟨k1, k2, s1, s2⟩ ih3
      refine ok_iload 16 rfl rfl rfl (ok_aload_n 17 rfl rfl rfl (ok_getI 18 rfl rfl fl_X2_31 (sT ht) rfl (Or.inl rfl) (ok_icmp_ge 19 79 rfl rfl rfl (fun h36 => ?_) (fun h36 => ?_))))
      · refine ok_aload_n 44 rfl rfl rfl (ok_getR 45 rfl rfl fl_X2_9 rfl rfl (ok_iload 46 rfl rfl rfl (ok_bipush 47 rfl rfl (by decide) (by decide) (ok_imul 48 rfl rfl (by first | omega | (simp [up_if]; omega) | (simp [up_if] at *; omega)) (ok_iload 49 rfl rfl rfl (ok_iadd 50 rfl rfl (by first | omega | (simp [up_if]; omega) | (simp [up_if] at *; omega)) (ok_lload 51 rfl rfl rfl (ok_last 52 rfl rfl rfl (by first | omega | (simp [up_if]; omega) | (simp [up_if] at *; omega)) (ok_inc5 53 rfl rfl rfl (by first | omega | (simp [up_if]; omega) | (simp [up_if] at *; omega)) (ok_goto 54 15 rfl rfl rfl ?_))))))))))
        exact ok_fg [some (vr 14), some (vr t), some (vr u), some (vr v), some (vi i), some (vi (j + 1)), none, none, none] ⟨rfl, rfl, rfl, rfl, rfl, rfl, trivial⟩ (ih2 (j + 1) _ ⟨by omega, by omega, fr_up f rfl, up_su hS1 s1⟩ (by omega))
      · have c1 := hT.2.2.2 (i * 8 + k) (by omega) (by omega)
        rw [← f (t + 4) (i * 8 + k) (by simp only [rgSu]; omega)] at c1
        have c2 := hU.2.2.2 (k * 8 + j) (by omega) (by omega)
        rw [← f (u + 4) (k * 8 + j) (by simp only [rgSu]; omega)] at c2
        have mm := mul_bd2 c1 c2
        refine ok_lload 20 rfl rfl rfl (ok_aload_n 21 rfl rfl rfl (ok_getR 22 rfl rfl fl_X2_34 (sT ht) rfl (ok_iload 23 rfl rfl rfl (ok_bipush 24 rfl rfl (by decide) (by decide) (ok_imul 25 rfl rfl (by first | omega | (simp [up_if]; omega) | (simp [up_if] at *; omega)) (ok_iload 26 rfl rfl rfl (ok_iadd 27 rfl rfl (by first | omega | (simp [up_if]; omega) | (simp [up_if] at *; omega)) (ok_iald 28 rfl rfl (sC ht) (by first | omega | (simp [up_if]; omega) | (simp [up_if] at *; omega)) (ok_i2l 29 rfl rfl (ok_aload_n 30 rfl rfl rfl (ok_getR 31 rfl rfl fl_X2_34 (sT hu) rfl (ok_iload 32 rfl rfl rfl (ok_bipush 33 rfl rfl (by decide) (by decide) (ok_imul 34 rfl rfl (by first | omega | (simp [up_if]; omega) | (simp [up_if] at *; omega)) (ok_iload 35 rfl rfl rfl (ok_iadd 36 rfl rfl (by first | omega | (simp [up_if]; omega) | (simp [up_if] at *; omega)) (ok_iald 37 rfl rfl (sC hu) (by first | omega | (simp [up_if]; omega) | (simp [up_if] at *; omega)) (ok_i2l 38 rfl rfl (ok_lmul 39 rfl rfl (by first | omega | (simp [up_if]; omega) | (simp [up_if] at *; omega)) (ok_ladd 40 rfl rfl (by first | omega | (simp [up_if]; omega) | (simp [up_if] at *; omega)) (ok_lst6 41 rfl rfl rfl (ok_inc8 42 rfl rfl rfl (by first | omega | (simp [up_if]; omega) | (simp [up_if] at *; omega)) (ok_goto 43 30 rfl rfl rfl ?_)))))))))))))))))))))))
        exact ih3 _ (k + 1) ⟨by omega, by omega, by omega, by omega⟩ (by omega)
theorem s_Mk_makeMixture {σ : eS} {t u v : Nat} {x y a b : Int} (ht : tA t) (hu : tA u) (hv : tA v) (hS : iSu σ) (hT : iT σ t) (hU : iT σ u) (hV : iT σ v) (hM : mT σ v) (hn : σ t 1 ≠ 0) (hnu : σ t 1 = σ u 1) (hx : 0 ≤ x ∧ x ≤ 9999 ∧ 1 ≤ y ∧ y ≤ 9999) (ha : 0 ≤ a ∧ a ≤ 9999 ∧ 1 ≤ b ∧ b ≤ 9999) : MtI shA M_Mk_makeMixture [vr 14, vr t, vi x, vi y, vr u, vi a, vi b, vr v] σ (fun σ' z => fr (fun c _ => c = 15 ∨ c = v ∨ c = v + 4) σ σ' ∧ iT σ' v ∧ mT σ' v ∧ iSu σ' ∧ (z = 0 ∨ z = 1)) := by
  refine Mt.of okM_Mk_makeMixture (Nat.le_of_ble_eq_true rfl) (fun hk hg => ?_)
  have nA := tA_10 ht
  have nB := tA_10 hu
  have nC := tA_10 hv
  have n1 := hT.1
  have n2 := hT.2.1
  have hB := hT.2.2.1 (by omega)
  have hB2 := hU.2.2.1 (by omega)
  have m1 := mul_bd2 (a := y) (b := σ t 2) (A := 9999) (B := 999999) ⟨by omega, by omega⟩ ⟨by omega, by omega⟩
  have m2 := mul_bd2 (a := b) (b := σ u 2) (A := 9999) (B := 999999) ⟨by omega, by omega⟩ ⟨by omega, by omega⟩
  have m3 : 0 < y * σ t 2 := Int.mul_pos (by omega) (by omega)
  have m4 : 0 < b * σ u 2 := Int.mul_pos (by omega) (by omega)
  refine ok_iload_n 0 rfl rfl rfl (ok_i2l 1 rfl rfl (ok_aload_n 2 rfl rfl rfl (ok_getI 3 rfl rfl fl_X2_15 (sT ht) rfl (Or.inl rfl) (ok_i2l 4 rfl rfl (ok_lmul 5 rfl rfl (by first | omega | (simp [up_if]; omega) | (simp [up_if] at *; omega)) (ok_lst8 6 rfl rfl rfl (ok_iload 7 rfl rfl rfl (ok_i2l 8 rfl rfl (ok_aload 9 rfl rfl rfl (ok_getI 10 rfl rfl fl_X2_15 (sT hu) rfl (Or.inl rfl) (ok_i2l 11 rfl rfl (ok_lmul 12 rfl rfl (by first | omega | (simp [up_if]; omega) | (simp [up_if] at *; omega)) (ok_lst10 13 rfl rfl rfl (ok_lload 14 rfl rfl rfl (ok_lload 15 rfl rfl rfl (ok_ldc2 16 (1000000000) rfl rfl kc_X2_21 (by decide) (ok_callSL (M' := M_Nu_leastMultiple) (as := [_, _, _]) 17 rfl rfl ml_X2_23 (s_Nu_lm (by omega) (by omega) (by omega)) ⟨Nat.le_of_ble_eq_true rfl, Nat.le_of_ble_eq_true rfl⟩ rfl (Nat.le_of_ble_eq_true rfl) (fun σ' g hg1 => ?_))))))))))))))))))
  obtain ⟨hs_, hg1⟩ := hg1
  rw [hs_]; clear hs_ σ'
  refine ok_lst12 18 rfl rfl rfl (ok_lload 19 rfl rfl rfl (ok_ldc2 20 (-1) rfl rfl kc_X2_29 (by decide) (ok_lcmp_ne 21 22 45 rfl rfl rfl rfl rfl (fun h39 => ?_) (fun h39 => ?_))))
  · have g1 : 1 ≤ g ∧ g ≤ 1000000000 := by omega
    clear hg1
    obtain ⟨p, ep⟩ : ∃ p : Int, p = y * σ t 2 := ⟨_, rfl⟩
    obtain ⟨q, eq⟩ : ∃ q : Int, q = b * σ u 2 := ⟨_, rfl⟩
    rw [← ep, ← eq]
    have d1 : 0 ≤ g / p := Int.ediv_nonneg (by omega) (by omega)
    have d2 : 0 ≤ g / q := Int.ediv_nonneg (by omega) (by omega)
    refine ok_lload 25 rfl rfl rfl (ok_lload 26 rfl rfl rfl (ok_ldiv 27 rfl rfl (by first | omega | (simp [up_if]; omega) | (simp [up_if] at *; omega)) (by first | omega | (simp [up_if]; omega) | (simp [up_if] at *; omega)) (ok_lst14 28 rfl rfl rfl (ok_lload 29 rfl rfl rfl (ok_lload 30 rfl rfl rfl (ok_ldiv 31 rfl rfl (by first | omega | (simp [up_if]; omega) | (simp [up_if] at *; omega)) (by first | omega | (simp [up_if]; omega) | (simp [up_if] at *; omega)) (ok_lst16 32 rfl rfl rfl (ok_iconst 33 rfl rfl (by decide) (ok_ist18 34 rfl rfl rfl ?_)))))))))
    obtain ⟨d, ed⟩ : ∃ d : Int, d = g / p := ⟨_, rfl⟩
    obtain ⟨e, ee⟩ : ∃ e : Int, e = g / q := ⟨_, rfl⟩
    rw [← ed, ← ee] 
    rw [← ed] at d1
    rw [← ee] at d2
    refine lpO2 (fun (i : Int) (_ : eS) => [some (vr 14), some (vr t), some (vi x), some (vi y), some (vr u), some (vi a), some (vi b), some (vr v), some (vl p), none, some (vl q), none, some (vl g), none, some (vl d), none, some (vl e), none, some (vi i), none, none, none, none, none, none]) (fun _ ρ => ρ) (fun i ρ => 0 ≤ i ∧ i ≤ 8 ∧ fr rgSu σ ρ ∧ iSu ρ) (fun i _ => (8 - i).toNat) ?_ 0 σ ⟨by omega, by omega, fr.rf, hS⟩
    clear ed ee ep eq m1 m2 m3 m4 h39
    rintro i ρ ⟨i1, i2, f, hS1⟩ ih
    have e1 : ρ t 1 = σ t 1 := f t 1 (by simp only [rgSu]; omega)
    refine ok_iload 35 rfl rfl rfl (ok_aload_n 36 rfl rfl rfl (ok_getI 37 rfl rfl fl_X2_31 (sT ht) rfl (Or.inl rfl) (ok_icmp_ge 38 187 rfl rfl rfl (fun h68 => ?_) (fun h68 => ?_))))
    · have x1 : ∀ k, ρ (v + 4) k = σ (v + 4) k := fun k => f _ _ (by simp only [rgSu]; omega)
      have x2 : ∀ k, ρ v k = σ v k := fun k => f _ _ (by simp only [rgSu]; omega)
      refine ok_aload_n 100 rfl rfl rfl (ok_lload 101 rfl rfl rfl (ok_aload_n 102 rfl rfl rfl (ok_getI 103 rfl rfl fl_X2_31 (sT ht) rfl (Or.inl rfl) (ok_aload 104 rfl rfl rfl (ok_callVI (M' := M_Mk_bring) (as := [_, _, _]) 105 rfl rfl ml_X2_44 (s_Mk_bring hv (by omega) ⟨by omega, by omega⟩ hS1 (iT_cg hV (x2 1) (x2 2) x1).1 (mT_cg hM (x2 1) (x2 3) x1)) rfl rfl (Nat.le_of_ble_eq_true rfl) ⟨Nat.le_of_ble_eq_true rfl, Nat.le_of_ble_eq_true rfl⟩ rfl (Nat.le_of_ble_eq_true rfl) (fun τ z hz => ?_))))))
      refine ok_zret 106 rfl rfl rfl hz.2.2.2 ?_
      exact ⟨_, rfl, (f.mono (fun c k q => by simp only [rgSu] at q; omega)).tr (hz.1.mono (fun c k q => by simp only [rgBr] at q; omega)), hz.2.1, hz.2.2.1, iSu_cg hS1 (fun k => hz.1 15 k (by simp only [rgBr]; omega)), hz.2.2.2⟩
    · refine ok_iconst 39 rfl rfl (by decide) (ok_ist19 40 rfl rfl rfl ?_)
      have il : i < σ t 1 := by omega
      clear h68
      refine lpO2 (fun (j : Int) (_ : eS) => [some (vr 14), some (vr t), some (vi x), some (vi y), some (vr u), some (vi a), some (vi b), some (vr v), some (vl p), none, some (vl q), none, some (vl g), none, some (vl d), none, some (vl e), none, some (vi i), some (vi j), none, none, none, none, none]) (fun _ ρ => ρ) (fun j ρ => 0 ≤ j ∧ j ≤ 8 ∧ fr rgSu σ ρ ∧ iSu ρ) (fun j _ => (8 - j).toNat) ?_ 0 ρ ⟨by omega, by omega, f, hS1⟩
      clear e1 f hS1 ρ
      rintro j ρ ⟨j1, j2, f, hS1⟩ ih2
      have e1 : ρ t 1 = σ t 1 := f t 1 (by simp only [rgSu]; omega)
      refine ok_iload 41 rfl rfl rfl (ok_aload_n 42 rfl rfl rfl (ok_getI 43 rfl rfl fl_X2_31 (sT ht) rfl (Or.inl rfl) (ok_icmp_ge 44 181 rfl rfl rfl (fun h80 => ?_) (fun h80 => ?_))))
      · refine ok_inc18 98 rfl rfl rfl (by first | omega | (simp [up_if]; omega) | (simp [up_if] at *; omega)) (ok_goto 99 62 rfl rfl rfl ?_)
        exact ok_fg [some (vr 14), some (vr t), some (vi x), some (vi y), some (vr u), some (vi a), some (vi b), some (vr v), some (vl p), none, some (vl q), none, some (vl g), none, some (vl d), none, some (vl e), none, some (vi (i + 1)), none, none, none, none, none, none] ⟨rfl, rfl, rfl, rfl, rfl, rfl, rfl, rfl, rfl, rfl, rfl, rfl, rfl, rfl, trivial⟩ (ih (i + 1) ρ ⟨by omega, by omega, f, hS1⟩ (by omega))
      · have c1 := hT.2.2.2 (i * 8 + j) (by omega) (by omega)
        rw [← f (t + 4) (i * 8 + j) (by simp only [rgSu]; omega)] at c1
        have c2 := hU.2.2.2 (i * 8 + j) (by omega) (by omega)
        rw [← f (u + 4) (i * 8 + j) (by simp only [rgSu]; omega)] at c2
        have mm := mul_bd2 (a := x) (b := ρ (t + 4) (i * 8 + j)) (A := 9999) (B := 99999999) ⟨by omega, by omega⟩ c1
        have mm2 := mul_bd2 (a := a) (b := ρ (u + 4) (i * 8 + j)) (A := 9999) (B := 99999999) ⟨by omega, by omega⟩ c2
        refine ok_iload 45 rfl rfl rfl (ok_bipush 46 rfl rfl (by decide) (by decide) (ok_imul 47 rfl rfl (by first | omega | (simp [up_if]; omega) | (simp [up_if] at *; omega)) (ok_iload 48 rfl rfl rfl (ok_iadd 49 rfl rfl (by first | omega | (simp [up_if]; omega) | (simp [up_if] at *; omega)) (ok_ist20 50 rfl rfl rfl (ok_iload_n 51 rfl rfl rfl (ok_i2l 52 rfl rfl (ok_aload_n 53 rfl rfl rfl (ok_getR 54 rfl rfl fl_X2_34 (sT ht) rfl (ok_iload 55 rfl rfl rfl (ok_iald 56 rfl rfl (sC ht) (by first | omega | (simp [up_if]; omega) | (simp [up_if] at *; omega)) (ok_i2l 57 rfl rfl (ok_lmul 58 rfl rfl (by first | omega | (simp [up_if]; omega) | (simp [up_if] at *; omega)) (ok_lload 59 rfl rfl rfl (ok_callSL (M' := M_Mk_multiplied) (as := [_, _]) 60 rfl rfl ml_X2_38 (s_Mk_multiplied mm.1 d1) ⟨Nat.le_of_ble_eq_true rfl, Nat.le_of_ble_eq_true rfl⟩ rfl (Nat.le_of_ble_eq_true rfl) (fun σ' z1 r1 => ?_))))))))))))))))
        obtain ⟨hs_, r1⟩ := r1
        rw [hs_]; clear hs_ σ'
        refine ok_lst21 61 rfl rfl rfl (ok_iload 62 rfl rfl rfl (ok_i2l 63 rfl rfl (ok_aload 64 rfl rfl rfl (ok_getR 65 rfl rfl fl_X2_34 (sT hu) rfl (ok_iload 66 rfl rfl rfl (ok_iald 67 rfl rfl (sC hu) (by first | omega | (simp [up_if]; omega) | (simp [up_if] at *; omega)) (ok_i2l 68 rfl rfl (ok_lmul 69 rfl rfl (by first | omega | (simp [up_if]; omega) | (simp [up_if] at *; omega)) (ok_lload 70 rfl rfl rfl (ok_callSL (M' := M_Mk_multiplied) (as := [_, _]) 71 rfl rfl ml_X2_38 (s_Mk_multiplied mm2.1 d2) ⟨Nat.le_of_ble_eq_true rfl, Nat.le_of_ble_eq_true rfl⟩ rfl (Nat.le_of_ble_eq_true rfl) (fun σ' z2 r2 => ?_)))))))))))
        obtain ⟨hs_, r2⟩ := r2
        rw [hs_]; clear hs_ σ'
        refine ok_lst23 72 rfl rfl rfl (ok_lload 73 rfl rfl rfl (ok_ldc2 74 (-1) rfl rfl kc_X2_29 (by decide) (ok_lcmp_eq 75 76 161 rfl rfl rfl rfl rfl (fun h136 => ?_) (fun h136 => ?_))))
        · refine ok_iconst 87 rfl rfl (by decide) (ok_zret 88 rfl rfl rfl (by first | omega | (simp [up_if]; omega) | (simp [up_if] at *; omega)) ?_)
          exact ⟨_, rfl, f.mono (fun c k q => by simp only [rgSu] at q; omega), (iT_cg hV (f v 1 (by simp only [rgSu]; omega)) (f v 2 (by simp only [rgSu]; omega)) (fun k => f (v + 4) k (by simp only [rgSu]; omega))).1, mT_cg hM (f v 1 (by simp only [rgSu]; omega)) (f v 3 (by simp only [rgSu]; omega)) (fun k => f (v + 4) k (by simp only [rgSu]; omega)), hS1, Or.inl rfl⟩
        · refine ok_lload 77 rfl rfl rfl (ok_ldc2 78 (-1) rfl rfl kc_X2_29 (by decide) (ok_lcmp_eq 79 80 161 rfl rfl rfl rfl rfl (fun h145 => ?_) (fun h145 => ?_)))
          · refine ok_iconst 87 rfl rfl (by decide) (ok_zret 88 rfl rfl rfl (by first | omega | (simp [up_if]; omega) | (simp [up_if] at *; omega)) ?_)
            exact ⟨_, rfl, f.mono (fun c k q => by simp only [rgSu] at q; omega), (iT_cg hV (f v 1 (by simp only [rgSu]; omega)) (f v 2 (by simp only [rgSu]; omega)) (fun k => f (v + 4) k (by simp only [rgSu]; omega))).1, mT_cg hM (f v 1 (by simp only [rgSu]; omega)) (f v 3 (by simp only [rgSu]; omega)) (fun k => f (v + 4) k (by simp only [rgSu]; omega)), hS1, Or.inl rfl⟩
          · refine ok_lload 81 rfl rfl rfl (ok_lload 82 rfl rfl rfl (ok_ladd 83 rfl rfl (by first | omega | (simp [up_if]; omega) | (simp [up_if] at *; omega)) (ok_ldc2 84 (1000000000000000) rfl rfl kc_X2_42 (by decide) (ok_lcmp_le 85 86 163 rfl rfl rfl rfl rfl (fun h157 => ?_) (fun h157 => ?_)))))
            · refine ok_aload_n 89 rfl rfl rfl (ok_getR 90 rfl rfl fl_X2_9 rfl rfl (ok_iload 91 rfl rfl rfl (ok_lload 92 rfl rfl rfl (ok_lload 93 rfl rfl rfl (ok_ladd 94 rfl rfl (by first | omega | (simp [up_if]; omega) | (simp [up_if] at *; omega)) (ok_last 95 rfl rfl rfl (by first | omega | (simp [up_if]; omega) | (simp [up_if] at *; omega)) (ok_inc19 96 rfl rfl rfl (by first | omega | (simp [up_if]; omega) | (simp [up_if] at *; omega)) (ok_goto 97 74 rfl rfl rfl ?_))))))))
              exact ok_fg [some (vr 14), some (vr t), some (vi x), some (vi y), some (vr u), some (vi a), some (vi b), some (vr v), some (vl p), none, some (vl q), none, some (vl g), none, some (vl d), none, some (vl e), none, some (vi i), some (vi (j + 1)), none, none, none, none, none] ⟨rfl, rfl, rfl, rfl, rfl, rfl, rfl, rfl, rfl, rfl, rfl, rfl, rfl, rfl, rfl, trivial⟩ (ih2 (j + 1) _ ⟨by omega, by omega, fr_up f rfl, up_su hS1 (by omega)⟩ (by omega))
            · refine ok_iconst 87 rfl rfl (by decide) (ok_zret 88 rfl rfl rfl (by first | omega | (simp [up_if]; omega) | (simp [up_if] at *; omega)) ?_)
              exact ⟨_, rfl, f.mono (fun c k q => by simp only [rgSu] at q; omega), (iT_cg hV (f v 1 (by simp only [rgSu]; omega)) (f v 2 (by simp only [rgSu]; omega)) (fun k => f (v + 4) k (by simp only [rgSu]; omega))).1, mT_cg hM (f v 1 (by simp only [rgSu]; omega)) (f v 3 (by simp only [rgSu]; omega)) (fun k => f (v + 4) k (by simp only [rgSu]; omega)), hS1, Or.inl rfl⟩
  · refine ok_iconst 23 rfl rfl (by decide) (ok_zret 24 rfl rfl rfl (by first | omega | (simp [up_if]; omega) | (simp [up_if] at *; omega)) ?_)
    exact ⟨_, rfl, fr.rf, hV, hM, hS, Or.inl rfl⟩
end
section
theorem QA_mk {σ τ : eS} {v : Nat} {z : Int} (h : IA σ) (hv : tA v) (q : fr (fun c _ => c = 15 ∨ c = v ∨ c = v + 4) σ τ ∧ iT τ v ∧ mT τ v ∧ iSu τ ∧ (z = 0 ∨ z = 1)) : QA0 σ τ := by
  have n := tA_10 hv
  have n11 : v ≤ 5 := by unfold tA at hv; omega
  have e3 := q.1 10 3 (by omega)
  refine ⟨⟨?_, iTs_set hv h.2.1 (fun c k a b d1 d2 => q.1 c k (by omega)) q.2.1 q.2.2.1, iCh_cg h.2.2.1 (fun k => q.1 _ k (by omega)), iMi_cg h.2.2.2.1 (fun c k a b => q.1 c k (by omega)), iSh_cg h.2.2.2.2.1 (fun k => q.1 _ k (by omega)), q.2.2.2.1⟩, ⟨fun k => q.1 10 k (by omega), fun k => q.1 11 k (by omega)⟩, otS_fr q.1 (fun c k w => by omega)⟩
  unfold tL
  rw [e3]
  exact h.1
theorem s_Ev_mix {σ : eS} {s x y o u v w : Int} (h : IA σ) : MtI shA M_Ev_mix [vr 0, vi s, vi x, vi y, vi o, vi u, vi v, vi w] σ (fun σ' z => QA0 σ σ' ∧ (z = 0 ∨ z = 1)) := by
  refine Mt.of okM_Ev_mix (Nat.le_of_ble_eq_true rfl) (fun hk hg => ?_)
  refine ok_iload_n 0 rfl rfl rfl (ok_iload_n 1 rfl rfl rfl (ok_callSI (M' := M_Ev_isShare) (as := [_, _]) 2 rfl rfl ml_X11_143 (s_Ev_isShare) ⟨Nat.le_of_ble_eq_true rfl, Nat.le_of_ble_eq_true rfl⟩ rfl (Nat.le_of_ble_eq_true rfl) (fun σ' z1 x1 => ?_)))
  obtain ⟨hs_, x1⟩ := x1
  rw [hs_]; clear hs_ σ'
  refine ok_if_eq 3 30 rfl rfl rfl (fun h5 => ?_) (fun h5 => ?_)
  · refine ok_iconst 14 rfl rfl (by decide) (ok_zret 15 rfl rfl rfl (by first | omega | (simp [up_if]; omega) | (simp [up_if] at *; omega)) ?_)
    exact ⟨_, rfl, (QA_rf h).q0, Or.inl rfl⟩
  · refine ok_iload 4 rfl rfl rfl (ok_iload 5 rfl rfl rfl (ok_callSI (M' := M_Ev_isShare) (as := [_, _]) 6 rfl rfl ml_X11_143 (s_Ev_isShare) ⟨Nat.le_of_ble_eq_true rfl, Nat.le_of_ble_eq_true rfl⟩ rfl (Nat.le_of_ble_eq_true rfl) (fun σ' z2 x2 => ?_)))
    obtain ⟨hs_, x2⟩ := x2
    rw [hs_]; clear hs_ σ'
    refine ok_if_eq 7 30 rfl rfl rfl (fun h15 => ?_) (fun h15 => ?_)
    · refine ok_iconst 14 rfl rfl (by decide) (ok_zret 15 rfl rfl rfl (by first | omega | (simp [up_if]; omega) | (simp [up_if] at *; omega)) ?_)
      exact ⟨_, rfl, (QA_rf h).q0, Or.inl rfl⟩
    · refine ok_aload_n 8 rfl rfl rfl (ok_iload_n 9 rfl rfl rfl (ok_iload 10 rfl rfl rfl (ok_iload 11 rfl rfl rfl (ok_callVI (M' := M_Ev_areLike) (as := [_, _, _]) 12 rfl rfl ml_X11_147 (s_Ev_areLike) rfl rfl (Nat.le_of_ble_eq_true rfl) ⟨Nat.le_of_ble_eq_true rfl, Nat.le_of_ble_eq_true rfl⟩ rfl (Nat.le_of_ble_eq_true rfl) (fun σ' z3 x3 => ?_)))))
      obtain ⟨hs_, x3⟩ := x3
      rw [hs_]; clear hs_ σ'
      refine ok_if_ne 13 32 rfl rfl rfl (fun h27 => ?_) (fun h27 => ?_)
      · obtain ⟨a1, a2, a3, a4, a5, a6, a7, a8⟩ : 0 ≤ s ∧ s < 4 ∧ 0 ≤ o ∧ o < 4 ∧ 0 ≤ w ∧ w < 4 ∧ σ (s.toNat + 2) 1 ≠ 0 ∧ σ (s.toNat + 2) 1 = σ (o.toNat + 2) 1 := by
          rcases x3 with q | q
          · exact absurd q.1 h27
          · exact q.2
        clear x3 h27
        have ht := sl_tA ⟨a1, a2⟩
        have hu := sl_tA ⟨a3, a4⟩
        have hv := sl_tA ⟨a5, a6⟩
        refine ok_aload_n 16 rfl rfl rfl (ok_getR 17 rfl rfl fl_X11_25 rfl rfl (ok_aload_n 18 rfl rfl rfl (ok_getR 19 rfl rfl fl_X11_11 rfl rfl (ok_iload_n 20 rfl rfl rfl (ok_aald 21 (s.toNat + 2) rfl rfl rfl (Or.inl rfl) (by omega) (sl_at (by omega)) (ok_iload_n 22 rfl rfl rfl (ok_iload_n 23 rfl rfl rfl (ok_aload_n 24 rfl rfl rfl (ok_getR 25 rfl rfl fl_X11_11 rfl rfl (ok_iload 26 rfl rfl rfl (ok_aald 27 (o.toNat + 2) rfl rfl rfl (Or.inl rfl) (by omega) (sl_at (by omega)) (ok_iload 28 rfl rfl rfl (ok_iload 29 rfl rfl rfl (ok_aload_n 30 rfl rfl rfl (ok_getR 31 rfl rfl fl_X11_11 rfl rfl (ok_iload 32 rfl rfl rfl (ok_aald 33 (w.toNat + 2) rfl rfl rfl (Or.inl rfl) (by omega) (sl_at (by omega)) (ok_callVI (M' := M_Mk_makeMixture) (as := [_, _, _, _, _, _, _]) 34 rfl rfl ml_X11_151 (s_Mk_makeMixture ht hu hv h.2.2.2.2.2 (h.2.1 _ ht).1 (h.2.1 _ hu).1 (h.2.1 _ hv).1 (h.2.1 _ hv).2 a7 a8 (by omega) (by omega)) rfl rfl (Nat.le_of_ble_eq_true rfl) ⟨Nat.le_of_ble_eq_true rfl, Nat.le_of_ble_eq_true rfl⟩ rfl (Nat.le_of_ble_eq_true rfl) (fun τ z hz => ?_)))))))))))))))))))
        refine ok_zret 35 rfl rfl rfl hz.2.2.2.2 ?_
        exact ⟨_, rfl, QA_mk h hv hz, hz.2.2.2.2⟩
      · refine ok_iconst 14 rfl rfl (by decide) (ok_zret 15 rfl rfl rfl (by first | omega | (simp [up_if]; omega) | (simp [up_if] at *; omega)) ?_)
        exact ⟨_, rfl, (QA_rf h).q0, Or.inl rfl⟩
theorem s_Ev_times {σ : eS} {s o w : Int} (h : IA σ) : MtI shA M_Ev_times [vr 0, vi s, vi o, vi w] σ (fun σ' z => QA0 σ σ' ∧ (z = 0 ∨ z = 1)) := by
  refine Mt.of okM_Ev_times (Nat.le_of_ble_eq_true rfl) (fun hk hg => ?_)
  refine ok_aload_n 0 rfl rfl rfl (ok_iload_n 1 rfl rfl rfl (ok_iload_n 2 rfl rfl rfl (ok_iload_n 3 rfl rfl rfl (ok_callVI (M' := M_Ev_areLike) (as := [_, _, _]) 4 rfl rfl ml_X11_147 (s_Ev_areLike) rfl rfl (Nat.le_of_ble_eq_true rfl) ⟨Nat.le_of_ble_eq_true rfl, Nat.le_of_ble_eq_true rfl⟩ rfl (Nat.le_of_ble_eq_true rfl) (fun σ' z3 x3 => ?_)))))
  obtain ⟨hs_, x3⟩ := x3
  rw [hs_]; clear hs_ σ'
  refine ok_if_eq 5 42 rfl rfl rfl (fun h7 => ?_) (fun h7 => ?_)
  · refine ok_iconst 24 rfl rfl (by decide) (ok_zret 25 rfl rfl rfl (by first | omega | (simp [up_if]; omega) | (simp [up_if] at *; omega)) ?_)
    exact ⟨_, rfl, (QA_rf h).q0, Or.inl rfl⟩
  · obtain ⟨a1, a2, a3, a4, a5, a6, a7, a8⟩ : 0 ≤ s ∧ s < 4 ∧ 0 ≤ o ∧ o < 4 ∧ 0 ≤ w ∧ w < 4 ∧ σ (s.toNat + 2) 1 ≠ 0 ∧ σ (s.toNat + 2) 1 = σ (o.toNat + 2) 1 := by
      rcases x3 with q | q
      · exact absurd q.1 h7
      · exact q.2
    clear x3 h7
    have ht := sl_tA ⟨a1, a2⟩
    have hu := sl_tA ⟨a3, a4⟩
    have hv := sl_tA ⟨a5, a6⟩
    refine ok_aload_n 6 rfl rfl rfl (ok_getR 7 rfl rfl fl_X11_25 rfl rfl (ok_aload_n 8 rfl rfl rfl (ok_getR 9 rfl rfl fl_X11_11 rfl rfl (ok_iload_n 10 rfl rfl rfl (ok_aald 11 (s.toNat + 2) rfl rfl rfl (Or.inl rfl) (by omega) (sl_at (by omega)) (ok_aload_n 12 rfl rfl rfl (ok_getR 13 rfl rfl fl_X11_11 rfl rfl (ok_iload_n 14 rfl rfl rfl (ok_aald 15 (o.toNat + 2) rfl rfl rfl (Or.inl rfl) (by omega) (sl_at (by omega)) (ok_aload_n 16 rfl rfl rfl (ok_getR 17 rfl rfl fl_X11_11 rfl rfl (ok_iload_n 18 rfl rfl rfl (ok_aald 19 (w.toNat + 2) rfl rfl rfl (Or.inl rfl) (by omega) (sl_at (by omega)) (ok_callVI (M' := M_Mk_makeProduct) (as := [_, _, _]) 20 rfl rfl ml_X11_155 (s_Mk_makeProduct ht hu hv h.2.2.2.2.2 (h.2.1 _ ht).1 (h.2.1 _ hu).1 (h.2.1 _ hv).1 (h.2.1 _ hv).2 a7 a8) rfl rfl (Nat.le_of_ble_eq_true rfl) ⟨Nat.le_of_ble_eq_true rfl, Nat.le_of_ble_eq_true rfl⟩ rfl (Nat.le_of_ble_eq_true rfl) (fun τ z hz => ?_)))))))))))))))
    refine ok_if_eq 21 42 rfl rfl rfl (fun h35 => ?_) (fun h35 => ?_)
    · refine ok_iconst 24 rfl rfl (by decide) (ok_zret 25 rfl rfl rfl (by first | omega | (simp [up_if]; omega) | (simp [up_if] at *; omega)) ?_)
      exact ⟨_, rfl, QA_mk h hv hz, by omega⟩
    · refine ok_iconst 22 rfl rfl (by decide) (ok_goto 23 43 rfl rfl rfl (ok_zret 25 rfl rfl rfl (by first | omega | (simp [up_if]; omega) | (simp [up_if] at *; omega)) ?_))
      exact ⟨_, rfl, QA_mk h hv hz, by omega⟩
theorem s_Ev_turn {σ : eS} {s w r o : Int} (h : IA σ) : MtI shA M_Ev_turn [vr 0, vi s, vi w, vi r, vi o] σ (fun σ' z => QA0 σ σ' ∧ (z = 0 ∨ z = 1)) := by
  refine Mt.of okM_Ev_turn (Nat.le_of_ble_eq_true rfl) (fun hk hg => ?_)
  refine ok_aload_n 0 rfl rfl rfl (ok_iload_n 1 rfl rfl rfl (ok_callVR (M' := M_Ev_filledSlot) (as := [_]) 2 rfl rfl ml_X11_137 (s_Ev_filledSlot) rfl rfl (Nat.le_of_ble_eq_true rfl) ⟨Nat.le_of_ble_eq_true rfl, Nat.le_of_ble_eq_true rfl⟩ rfl (Nat.le_of_ble_eq_true rfl) (fun σ' z1 x1 => ?_)))
  obtain ⟨hs_, x1⟩ := x1
  rw [hs_]; clear hs_ σ'
  refine ok_ast5 3 rfl rfl rfl (ok_aload_n 4 rfl rfl rfl (ok_iload 5 rfl rfl rfl (ok_callVR (M' := M_Ev_slotAt) (as := [_]) 6 rfl rfl ml_X11_86 (s_Ev_slotAt) rfl rfl (Nat.le_of_ble_eq_true rfl) ⟨Nat.le_of_ble_eq_true rfl, Nat.le_of_ble_eq_true rfl⟩ rfl (Nat.le_of_ble_eq_true rfl) (fun σ' z2 x2 => ?_))))
  obtain ⟨hs_, x2⟩ := x2
  rw [hs_]; clear hs_ σ'
  rcases x1 with ⟨q, q0⟩ | ⟨q1, q2, q, q3⟩
  · subst q
    refine ok_ast6 7 rfl rfl rfl (ok_aload 8 rfl rfl rfl (ok_ifnullN 9 48 rfl rfl rfl (ok_iconst 24 rfl rfl (by decide) (ok_zret 25 rfl rfl rfl (by first | omega | (simp [up_if]; omega) | (simp [up_if] at *; omega)) ?_))))
    exact ⟨_, rfl, (QA_rf h).q0, Or.inl rfl⟩
  · subst q
    have ht := sl_tA ⟨q1, q2⟩
    rcases x2 with ⟨q, q4⟩ | ⟨r1, r2, q⟩
    · subst q
      refine ok_ast6 7 rfl rfl rfl (ok_aload 8 rfl rfl rfl (ok_ifnull 9 rfl rfl (ok_aload 10 rfl rfl rfl (ok_ifnullN 11 48 rfl rfl rfl (ok_iconst 24 rfl rfl (by decide) (ok_zret 25 rfl rfl rfl (by first | omega | (simp [up_if]; omega) | (simp [up_if] at *; omega)) ?_))))))
      exact ⟨_, rfl, (QA_rf h).q0, Or.inl rfl⟩
    · subst q
      have hu := sl_tA ⟨r1, r2⟩
      have tail : 0 ≤ w → w ≤ 5 → (3 < w → 0 ≤ r ∧ r < σ (s.toNat + 2) 1) → Ok shA M_Ev_turn 50 [some (vr 0), some (vi s), some (vi w), some (vi r), some (vi o), some (vr (s.toNat + 2)), some (vr (o.toNat + 2))] [] σ (fun σ' v => ∃ z, v = some (vi z) ∧ QA0 σ σ' ∧ (z = 0 ∨ z = 1)) := by
        intro w1 w2 hr
        refine ok_aload_n 26 rfl rfl rfl (ok_getR 27 rfl rfl fl_X11_25 rfl rfl (ok_aload 28 rfl rfl rfl (ok_iload_n 29 rfl rfl rfl (ok_iload_n 30 rfl rfl rfl (ok_aload 31 rfl rfl rfl (ok_callVI (M' := M_Mk_makeTurned) (as := [_, _, _, _]) 32 rfl rfl ml_X11_159 (s_Mk_makeTurned ht hu h.2.2.2.2.2 (h.2.1 _ ht).1 (h.2.1 _ hu).1 (h.2.1 _ hu).2 q3 hr w2) rfl rfl (Nat.le_of_ble_eq_true rfl) ⟨Nat.le_of_ble_eq_true rfl, Nat.le_of_ble_eq_true rfl⟩ rfl (Nat.le_of_ble_eq_true rfl) (fun τ z hz => ?_)))))))
        refine ok_zret 33 rfl rfl rfl hz.2.2.2.2 ?_
        exact ⟨_, rfl, QA_mk h hu hz, hz.2.2.2.2⟩
      refine ok_ast6 7 rfl rfl rfl (ok_aload 8 rfl rfl rfl (ok_ifnull 9 rfl rfl (ok_aload 10 rfl rfl rfl (ok_ifnull 11 rfl rfl (ok_iload_n 12 rfl rfl rfl (ok_if_lt 13 48 rfl rfl rfl (fun h26 => ?_) (fun h26 => ?_)))))))
      · refine ok_iconst 24 rfl rfl (by decide) (ok_zret 25 rfl rfl rfl (by first | omega | (simp [up_if]; omega) | (simp [up_if] at *; omega)) ?_)
        exact ⟨_, rfl, (QA_rf h).q0, Or.inl rfl⟩
      · refine ok_iload_n 14 rfl rfl rfl (ok_iconst 15 rfl rfl (by decide) (ok_icmp_gt 16 48 rfl rfl rfl (fun h31 => ?_) (fun h31 => ?_)))
        · refine ok_iconst 24 rfl rfl (by decide) (ok_zret 25 rfl rfl rfl (by first | omega | (simp [up_if]; omega) | (simp [up_if] at *; omega)) ?_)
          exact ⟨_, rfl, (QA_rf h).q0, Or.inl rfl⟩
        · refine ok_iload_n 17 rfl rfl rfl (ok_iconst 18 rfl rfl (by decide) (ok_icmp_le 19 50 rfl rfl rfl (fun h36 => ?_) (fun h36 => ?_)))
          · exact tail (by omega) (by omega) (by omega)
          · refine ok_aload 20 rfl rfl rfl (ok_iload_n 21 rfl rfl rfl (ok_callVI (M' := M_Ta_has) (as := [_]) 22 rfl rfl ml_X11_129 (s_Ta_has ht) (sT ht) rfl (Nat.le_of_ble_eq_true rfl) ⟨Nat.le_of_ble_eq_true rfl, Nat.le_of_ble_eq_true rfl⟩ rfl (Nat.le_of_ble_eq_true rfl) (fun σ' z3 x3 => ?_)))
            obtain ⟨hs_, x3⟩ := x3
            rw [hs_]; clear hs_ σ'
            refine ok_if_ne 23 50 rfl rfl rfl (fun h45 => ?_) (fun h45 => ?_)
            · exact tail (by omega) (by omega) (by omega)
            · refine ok_iconst 24 rfl rfl (by decide) (ok_zret 25 rfl rfl rfl (by first | omega | (simp [up_if]; omega) | (simp [up_if] at *; omega)) ?_)
              exact ⟨_, rfl, (QA_rf h).q0, Or.inl rfl⟩
/-! choices -/
theorem lpO5 {α β γ δ ε : Type} {sh : eSh} {M : eM} {pc : Nat} {Q : eS → Option eV → Prop} (L : α → β → γ → δ → ε → List (Option eV)) (S : α → β → γ → δ → ε → eS) (I : α → β → γ → δ → ε → Prop) (μ : α → β → γ → δ → ε → Nat) (hs : ∀ a b c d e, I a b c d e → (∀ a' b' c' d' e', I a' b' c' d' e' → μ a' b' c' d' e' < μ a b c d e → Ok sh M pc (L a' b' c' d' e') [] (S a' b' c' d' e') Q) → Ok sh M pc (L a b c d e) [] (S a b c d e) Q) (a : α) (b : β) (c : γ) (d : δ) (e : ε) (ha : I a b c d e) : Ok sh M pc (L a b c d e) [] (S a b c d e) Q :=
  lp (fun q : α × β × γ × δ × ε => Ok sh M pc (L q.1 q.2.1 q.2.2.1 q.2.2.2.1 q.2.2.2.2) [] (S q.1 q.2.1 q.2.2.1 q.2.2.2.1 q.2.2.2.2) Q) (fun q => I q.1 q.2.1 q.2.2.1 q.2.2.2.1 q.2.2.2.2) (fun q => μ q.1 q.2.1 q.2.2.1 q.2.2.2.1 q.2.2.2.2) (fun q hq ih => hs q.1 q.2.1 q.2.2.1 q.2.2.2.1 q.2.2.2.2 hq (fun a' b' c' d' e' h1 h2 => ih (a', b', c', d', e') h1 h2)) (a, b, c, d, e) ha
theorem bit_or8 : ∀ s : Fin 256, ∀ j : Fin 8, 0 ≤ ior (s.val : Int) (ishl 1 (j.val : Int)) ∧ ior (s.val : Int) (ishl 1 (j.val : Int)) < 256 := by decide +kernel
theorem or8 {s j : Int} (h1 : 0 ≤ s ∧ s < 256) (h2 : 0 ≤ j ∧ j < 8) : 0 ≤ ior s (ishl 1 j) ∧ ior s (ishl 1 j) < 256 := fin2 (P := fun s j => 0 ≤ ior s (ishl 1 j) ∧ ior s (ishl 1 j) < 256) bit_or8 h1.1 h1.2 h2.1 h2.2
theorem bit_xor8 : ∀ s : Fin 256, ∀ j : Fin 8, 0 ≤ ixor (s.val : Int) (ishl 1 (j.val : Int)) ∧ ixor (s.val : Int) (ishl 1 (j.val : Int)) < 256 := by decide +kernel
theorem xor8 {s j : Int} (h1 : 0 ≤ s ∧ s < 256) (h2 : 0 ≤ j ∧ j < 8) : 0 ≤ ixor s (ishl 1 j) ∧ ixor s (ishl 1 j) < 256 := fin2 (P := fun s j => 0 ≤ ixor s (ishl 1 j) ∧ ixor s (ishl 1 j) < 256) bit_xor8 h1.1 h1.2 h2.1 h2.2
theorem bit_pc1 : ∀ s : Fin 256, (s.val : Int) ≠ 0 → 1 ≤ pc (s.val : Int) := by decide +kernel
theorem pc1 {s : Int} (h : 0 ≤ s ∧ s < 256) (h0 : s ≠ 0) : 1 ≤ pc s := fin1 (P := fun s => s ≠ 0 → 1 ≤ pc s) bit_pc1 h.1 h.2 h0
theorem s_Ch_nextColumn {σ : eS} {o u f n : Int} (hu : 0 ≤ u ∧ u < 256) (hf : 0 ≤ f) (hn : 0 ≤ n ∧ n ≤ 8) : MtI shA M_Ch_nextColumn [vr 16, vi o, vi u, vi f, vi n] σ (fun σ' z => σ' = σ ∧ 0 ≤ z) := by
  refine Mt.of okM_Ch_nextColumn (Nat.le_of_ble_eq_true rfl) (fun hk hg => ?_)
  refine ok_iload_n 0 rfl rfl rfl (ok_ist5 1 rfl rfl rfl ?_)
  refine lpO (fun j : Int => [some (vr 16), some (vi o), some (vi u), some (vi f), some (vi n), some (vi j)]) (fun _ => σ) (fun j => 0 ≤ j) (fun j => (8 - j).toNat) ?_ f hf
  rintro j j1 ih
  refine ok_iload 2 rfl rfl rfl (ok_iload 3 rfl rfl rfl (ok_icmp_ge 4 46 rfl rfl rfl (fun h7 => ?_) (fun h7 => ?_)))
  · refine ok_iload 26 rfl rfl rfl (ok_iret 27 rfl rfl rfl ?_)
    exact ⟨_, rfl, rfl, by omega⟩
  · have b := or8 hu (j := j) ⟨by omega, by omega⟩
    refine ok_iload_n 5 rfl rfl rfl (ok_iload 6 rfl rfl rfl (ok_ishr 7 rfl rfl (ok_iconst 8 rfl rfl (by decide) (ok_iand 9 rfl rfl (ok_if_eq 10 40 rfl rfl rfl (fun h16 => ?_) (fun h16 => ?_))))))
    · refine ok_inc5 24 rfl rfl rfl (by first | omega | (simp [up_if]; omega) | (simp [up_if] at *; omega)) (ok_goto 25 3 rfl rfl rfl ?_)
      exact ih (j + 1) (by omega) (by omega)
    · refine ok_aload_n 11 rfl rfl rfl (ok_getR 12 rfl rfl fl_X0_19 rfl rfl (ok_iload_n 13 rfl rfl rfl (ok_iconst 14 rfl rfl (by decide) (ok_iload 15 rfl rfl rfl (ok_ishl 16 rfl rfl (ok_ior 17 rfl rfl (ok_iald 18 rfl rfl rfl (by first | omega | (simp [up_if]; omega) | (simp [up_if] at *; omega)) (ok_aload_n 19 rfl rfl rfl (ok_getI 20 rfl rfl fl_X0_22 rfl rfl (Or.inl rfl) (ok_icmp_eq 21 40 rfl rfl rfl (fun h34 => ?_) (fun h34 => ?_)))))))))))
      · refine ok_inc5 24 rfl rfl rfl (by first | omega | (simp [up_if]; omega) | (simp [up_if] at *; omega)) (ok_goto 25 3 rfl rfl rfl ?_)
        exact ih (j + 1) (by omega) (by omega)
      · refine ok_iload 22 rfl rfl rfl (ok_iret 23 rfl rfl rfl ?_)
        exact ⟨_, rfl, rfl, by omega⟩
abbrev rgCh : Nat → Int → Prop := fun c _ => c = 16 ∨ c = 17 ∨ c = 18 ∨ c = 19
theorem up_ch {σ : eS} {j z : Int} (h : iCh σ) (hz : 0 ≤ z ∧ z ≤ 7) : iCh (up σ 17 j z) := fun k a b => by
  rw [up_if]
  by_cases q : k = j
  · rw [if_pos ⟨rfl, q⟩]; exact hz
  · rw [if_neg (fun y => q y.2)]; exact h k a b
def mkI (σ ρ : eS) : Prop := ρ 16 3 = wr (σ 16 3 + 1) ∧ ∀ k, ρ 19 k = σ 19 k ∨ ρ 19 k = wr (σ 16 3 + 1)
theorem mkI.s {σ ρ : eS} (h : mkI σ ρ) : mkS 1 σ ρ := fun i l => by
  have e : wr (σ 16 3 + 1) = σ 16 3 + 1 := wr_id ⟨by have := i.1; omega, by omega⟩
  obtain ⟨h1, h2⟩ := h
  rw [e] at h1
  refine ⟨⟨by have := i.1; omega, fun T a b => ?_⟩, by omega, by omega⟩
  have := i.2 T a b
  rcases h2 T with q | q
  · omega
  · rw [e] at q; omega
theorem mkI.u17 {σ ρ : eS} {a b : Int} (h : mkI σ ρ) : mkI σ (up ρ 17 a b) := ⟨by rw [up_ne _ _ _ _ (by decide)]; exact h.1, fun k => by rw [up_ne _ _ _ _ (by decide)]; exact h.2 k⟩
theorem mkI.u19 {σ ρ : eS} {a : Int} (h : mkI σ ρ) : mkI σ (up ρ 19 a (ρ 16 3)) := ⟨by rw [up_ne _ _ _ _ (by decide)]; exact h.1, fun k => by
  rw [up_if]
  by_cases q : k = a
  · rw [if_pos ⟨rfl, q⟩]; exact Or.inr h.1
  · rw [if_neg (fun y => q y.2)]; exact h.2 k⟩
theorem s_Ch_findFirst {σ : eS} {J n : Int} (hC : iCh σ) (hn : 0 ≤ n ∧ n ≤ 8) : MtI shA M_Ch_findFirst [vr 16, vl J, vi n] σ (fun σ' z => fr rgCh σ σ' ∧ iCh σ' ∧ (z = 0 ∨ z = 1) ∧ mkS 1 σ σ') := by
  refine Mt.of okM_Ch_findFirst (Nat.le_of_ble_eq_true rfl) (fun hk hg => ?_)
  refine ok_aload_n 0 rfl rfl rfl (ok_dup 1 rfl rfl rfl (ok_getI 2 rfl rfl fl_X0_22 rfl rfl (Or.inl rfl) (ok_iconst 3 rfl rfl (by decide) (ok_iaddW 4 rfl rfl (ok_putI 5 rfl rfl fl_X0_22 rfl rfl rfl rfl (ok_iconst 6 rfl rfl (by decide) (ok_ist4 7 rfl rfl rfl (ok_iconst 8 rfl rfl (by decide) (ok_ist5 9 rfl rfl rfl (ok_iconst 10 rfl rfl (by decide) (ok_ist6 11 rfl rfl rfl (ok_iconst 12 rfl rfl (by decide) (ok_ist7 13 rfl rfl rfl ?_)))))))))))))
  refine lpO5 (fun (u r w k : Int) (_ : eS) => [some (vr 16), some (vl J), none, some (vi n), some (vi u), some (vi r), some (vi w), some (vi k), none]) (fun _ _ _ _ ρ => ρ) (fun u r w k ρ => 0 ≤ u ∧ u < 256 ∧ 0 ≤ r ∧ r ≤ 8 ∧ 0 ≤ w ∧ w ≤ 8 ∧ 0 ≤ k ∧ k ≤ 520 ∧ fr rgCh σ ρ ∧ iCh ρ ∧ mkI σ ρ) (fun _ _ _ k _ => (520 - k).toNat) ?_ 0 0 0 0 _ ⟨by omega, by omega, by omega, by omega, by omega, by omega, by omega, by omega, fr_up fr.rf (by simp [rgCh]), iCh_cg hC (fun k => up_ne _ _ _ _ (by omega)), up_same _ _ _ _, fun k => Or.inl (up_ne _ _ _ _ (by decide))⟩
  rintro u r w k ρ ⟨u1, u2, r1, r2, w1, w2, k1, k2, f, hC1, hm⟩ ih
  refine ok_iload 14 rfl rfl rfl (ok_sipush 15 rfl rfl (by decide) (by decide) (ok_icmp_ge 16 143 rfl rfl rfl (fun h27 => ?_) (fun h27 => ?_)))
  · refine ok_iload 80 rfl rfl rfl (ok_iload_n 81 rfl rfl rfl (ok_icmp_ne 82 153 rfl rfl rfl (fun h146 => ?_) (fun h146 => ?_)))
    · refine ok_iconst 85 rfl rfl (by decide) (ok_zret 86 rfl rfl rfl (by first | omega | (simp [up_if]; omega) | (simp [up_if] at *; omega)) ?_)
      exact ⟨_, rfl, f, hC1, by omega, hm.s⟩
    · refine ok_iconst 83 rfl rfl (by decide) (ok_goto 84 154 rfl rfl rfl (ok_zret 86 rfl rfl rfl (by first | omega | (simp [up_if]; omega) | (simp [up_if] at *; omega)) ?_))
      exact ⟨_, rfl, f, hC1, by omega, hm.s⟩
  · refine ok_iload 17 rfl rfl rfl (ok_iload_n 18 rfl rfl rfl (ok_icmp_ge 19 143 rfl rfl rfl (fun h33 => ?_) (fun h33 => ?_)))
    · refine ok_iload 80 rfl rfl rfl (ok_iload_n 81 rfl rfl rfl (ok_icmp_ne 82 153 rfl rfl rfl (fun h146 => ?_) (fun h146 => ?_)))
      · refine ok_iconst 85 rfl rfl (by decide) (ok_zret 86 rfl rfl rfl (by first | omega | (simp [up_if]; omega) | (simp [up_if] at *; omega)) ?_)
        exact ⟨_, rfl, f, hC1, by omega, hm.s⟩
      · refine ok_iconst 83 rfl rfl (by decide) (ok_goto 84 154 rfl rfl rfl (ok_zret 86 rfl rfl rfl (by first | omega | (simp [up_if]; omega) | (simp [up_if] at *; omega)) ?_))
        exact ⟨_, rfl, f, hC1, by omega, hm.s⟩
    · refine ok_aload_n 20 rfl rfl rfl (ok_lload_n 21 rfl rfl rfl (ok_iload 22 rfl rfl rfl (ok_callSI (M' := M_Jo_rowOf) (as := [_, _]) 23 rfl rfl ml_X0_26 (s_Jo_rowOf) ⟨Nat.le_of_ble_eq_true rfl, Nat.le_of_ble_eq_true rfl⟩ rfl (Nat.le_of_ble_eq_true rfl) (fun σ' z hz => ?_))))
      rw [hz.1, hz.2]
      clear hz z σ'
      refine ok_iload 24 rfl rfl rfl (ok_iconst 25 rfl rfl (by decide) (ok_ixor 26 rfl rfl (ok_iand 27 rfl rfl (ok_iload 28 rfl rfl rfl (ok_iload 29 rfl rfl rfl (ok_iload_n 30 rfl rfl rfl (ok_callVI (M' := M_Ch_nextColumn) (as := [_, _, _, _]) 31 rfl rfl ml_X0_32 (s_Ch_nextColumn ⟨u1, u2⟩ w1 hn) rfl rfl (Nat.le_of_ble_eq_true rfl) ⟨Nat.le_of_ble_eq_true rfl, Nat.le_of_ble_eq_true rfl⟩ rfl (Nat.le_of_ble_eq_true rfl) (fun σ' z hz => ?_))))))))
      obtain ⟨hs_, hz⟩ := hz
      rw [hs_]; clear hs_ σ'
      refine ok_ist8 32 rfl rfl rfl (ok_iload 33 rfl rfl rfl (ok_iload_n 34 rfl rfl rfl (ok_icmp_ge 35 91 rfl rfl rfl (fun h61 => ?_) (fun h61 => ?_))))
      · refine ok_iload 51 rfl rfl rfl (ok_if_ne 52 98 rfl rfl rfl (fun h93 => ?_) (fun h93 => ?_))
        · have c := hC1 (r + -1) (by omega) (by omega)
          have b := xor8 ⟨u1, u2⟩ (j := ρ 17 (r + -1)) ⟨by omega, by omega⟩
          have e : ∀ x, up ρ 19 u x 17 (r + -1) = ρ 17 (r + -1) := fun x => up_ne _ _ _ _ (by decide)
          refine ok_aload_n 55 rfl rfl rfl (ok_getR 56 rfl rfl fl_X0_19 rfl rfl (ok_iload 57 rfl rfl rfl (ok_aload_n 58 rfl rfl rfl (ok_getI 59 rfl rfl fl_X0_22 rfl rfl (Or.inl rfl) (ok_iast 60 rfl rfl rfl (by first | omega | (simp [up_if]; omega) | (simp [up_if] at *; omega)) (ok_inc5 61 rfl rfl rfl (by first | omega | (simp [up_if]; omega) | (simp [up_if] at *; omega)) (ok_iload 62 rfl rfl rfl (ok_iconst 63 rfl rfl (by decide) (ok_aload_n 64 rfl rfl rfl (ok_getR 65 rfl rfl fl_X0_9 rfl rfl (ok_iload 66 rfl rfl rfl (ok_iald 67 rfl rfl rfl (by first | omega | (simp [up_if]; omega) | (simp [up_if] at *; omega)) (ok_ishl 68 rfl rfl (ok_ixor 69 rfl rfl (ok_ist4 70 rfl rfl rfl (ok_aload_n 71 rfl rfl rfl (ok_getR 72 rfl rfl fl_X0_9 rfl rfl (ok_iload 73 rfl rfl rfl (ok_iald 74 rfl rfl rfl (by first | omega | (simp [up_if]; omega) | (simp [up_if] at *; omega)) (ok_iconst 75 rfl rfl (by decide) (ok_iadd 76 rfl rfl (by first | omega | (simp [up_if]; omega) | (simp [up_if] at *; omega)) (ok_ist6 77 rfl rfl rfl (ok_inc7 78 rfl rfl rfl (by first | omega | (simp [up_if]; omega) | (simp [up_if] at *; omega)) (ok_goto 79 22 rfl rfl rfl ?_))))))))))))))))))))))))
          rw [e]
          exact ok_fg [some (vr 16), some (vl J), none, some (vi n), some (vi _), some (vi (r + -1)), some (vi _), some (vi (k + 1)), none] ⟨rfl, rfl, rfl, rfl, rfl, rfl, rfl, trivial⟩ (ih _ (r + -1) _ (k + 1) _ ⟨b.1, b.2, by omega, by omega, by omega, by omega, by omega, by omega, fr_up f (by simp [rgCh]), iCh_cg hC1 (fun k => up_ne _ _ _ _ (by decide)), hm.u19⟩ (by omega))
        · refine ok_iconst 53 rfl rfl (by decide) (ok_zret 54 rfl rfl rfl (by first | omega | (simp [up_if]; omega) | (simp [up_if] at *; omega)) ?_)
          exact ⟨_, rfl, f, hC1, Or.inl rfl, hm.s⟩
      · have b := or8 ⟨u1, u2⟩ (j := z) ⟨by omega, by omega⟩
        refine ok_aload_n 36 rfl rfl rfl (ok_getR 37 rfl rfl fl_X0_9 rfl rfl (ok_iload 38 rfl rfl rfl (ok_iload 39 rfl rfl rfl (ok_iast 40 rfl rfl rfl (by first | omega | (simp [up_if]; omega) | (simp [up_if] at *; omega)) (ok_iload 41 rfl rfl rfl (ok_iconst 42 rfl rfl (by decide) (ok_iload 43 rfl rfl rfl (ok_ishl 44 rfl rfl (ok_ior 45 rfl rfl (ok_ist4 46 rfl rfl rfl (ok_iconst 47 rfl rfl (by decide) (ok_ist6 48 rfl rfl rfl (ok_inc5 49 rfl rfl rfl (by first | omega | (simp [up_if]; omega) | (simp [up_if] at *; omega)) (ok_goto 50 137 rfl rfl rfl (ok_inc7 78 rfl rfl rfl (by first | omega | (simp [up_if]; omega) | (simp [up_if] at *; omega)) (ok_goto 79 22 rfl rfl rfl ?_))))))))))))))))
        exact ok_fg [some (vr 16), some (vl J), none, some (vi n), some (vi _), some (vi (r + 1)), some (vi _), some (vi (k + 1)), none] ⟨rfl, rfl, rfl, rfl, rfl, rfl, rfl, trivial⟩ (ih _ (r + 1) _ (k + 1) _ ⟨b.1, b.2, by omega, by omega, by omega, by omega, by omega, by omega, fr_up f (by simp [rgCh]), up_ch hC1 ⟨by omega, by omega⟩, hm.u17⟩ (by omega))
theorem s_Ch_greatestLeast {σ : eS} {c : Nat} {J n : Int} (hs : nth shA c = some (1, 64, [])) (hn : 0 ≤ n ∧ n ≤ 8) : MtL shA M_Ch_greatestLeast [vr 16, vr c, vl J, vi n] σ (fun σ' _ => fr (fun c _ => c = 18) σ σ') := by
  refine Mt.of okM_Ch_greatestLeast (Nat.le_of_ble_eq_true rfl) (fun hk hg => ?_)
  have b2 := bit2 hn
  refine ok_iconst 0 rfl rfl (by decide) (ok_iload 1 rfl rfl rfl (ok_ishl 2 rfl rfl ?_))
  rw [b2.1]
  refine ok_iconst 3 rfl rfl (by decide) (ok_isub 4 rfl rfl (by first | omega | (simp [up_if]; omega) | (simp [up_if] at *; omega)) (ok_ist5 5 rfl rfl rfl (ok_aload_n 6 rfl rfl rfl (ok_getR 7 rfl rfl fl_X0_15 rfl rfl (ok_iload 8 rfl rfl rfl (ok_ldc2 9 (9223372036854775807) rfl rfl kc_X0_36 (by decide) (ok_last 10 rfl rfl rfl (by first | omega | (simp [up_if]; omega) | (simp [up_if] at *; omega)) (ok_iload 11 rfl rfl rfl (ok_iconst 12 rfl rfl (by decide) (ok_isub 13 rfl rfl (by first | omega | (simp [up_if]; omega) | (simp [up_if] at *; omega)) (ok_ist6 14 rfl rfl rfl ?_)))))))))))
  refine lpO2 (fun (s : Int) (_ : eS) => [some (vr 16), some (vr c), some (vl J), none, some (vi n), some (vi (p2 n - 1)), some (vi s), none, none, none, none, none]) (fun _ ρ => ρ) (fun s ρ => -1 ≤ s ∧ s < p2 n - 1 ∧ fr (fun c _ => c = 18) σ ρ) (fun s _ => (s + 1).toNat) ?_ (p2 n - 1 - 1) _ ⟨by omega, by omega, fr_up fr.rf rfl⟩
  rintro s ρ ⟨s1, s2, f⟩ ih
  refine ok_iload 15 rfl rfl rfl (ok_if_lt 16 128 rfl rfl rfl (fun h26 => ?_) (fun h26 => ?_))
  · refine ok_aload_n 70 rfl rfl rfl (ok_getR 71 rfl rfl fl_X0_15 rfl rfl (ok_iconst 72 rfl rfl (by decide) (ok_lald 73 rfl rfl rfl (by first | omega | (simp [up_if]; omega) | (simp [up_if] at *; omega)) (ok_lret 74 rfl rfl rfl ?_))))
    exact ⟨_, rfl, f⟩
  · refine ok_iload 17 rfl rfl rfl (ok_callSI (M' := M_Ji_bitCount) (as := [_]) 18 rfl rfl ml_X0_38 (s_Ji_bitCount) ⟨Nat.le_of_ble_eq_true rfl, Nat.le_of_ble_eq_true rfl⟩ rfl (Nat.le_of_ble_eq_true rfl) (fun σ' z hz => ?_))
    rw [hz.1, hz.2]
    clear hz z σ'
    have p1 := (bitL (s := s) ⟨by omega, by omega⟩ hn)
    have p3 := p1.1 s2
    have p4 := p1.2.2.1
    clear p1
    rw [bcP (s := s) ⟨by omega, by omega⟩]
    refine ok_ist7 19 rfl rfl rfl (ok_lload_n 20 rfl rfl rfl (ok_iload 21 rfl rfl rfl (ok_callSI (M' := M_Jo_rowOf) (as := [_, _]) 22 rfl rfl ml_X0_26 (s_Jo_rowOf) ⟨Nat.le_of_ble_eq_true rfl, Nat.le_of_ble_eq_true rfl⟩ rfl (Nat.le_of_ble_eq_true rfl) (fun σ' z hz => ?_))))
    rw [hz.1, hz.2]
    clear hz z σ'
    refine ok_iload 23 rfl rfl rfl (ok_iconst 24 rfl rfl (by decide) (ok_ixor 25 rfl rfl (ok_iand 26 rfl rfl (ok_ist8 27 rfl rfl rfl (ok_ldc2 28 (-1) rfl rfl kc_X0_44 (by decide) (ok_lst9 29 rfl rfl rfl (ok_iconst 30 rfl rfl (by decide) (ok_ist11 31 rfl rfl rfl ?_))))))))
    obtain ⟨o, eo⟩ : ∃ o : Int, o = iand (rowJ J (pc s)) (ixor s (-1)) := ⟨_, rfl⟩
    rw [← eo]
    refine lpO2 (fun (v j : Int) => [some (vr 16), some (vr c), some (vl J), none, some (vi n), some (vi (p2 n - 1)), some (vi s), some (vi (pc s)), some (vi o), some (vl v), none, some (vi j)]) (fun _ _ => ρ) (fun _ j => 0 ≤ j ∧ j ≤ 8) (fun _ j => (8 - j).toNat) ?_ (-1) 0 ⟨by omega, by omega⟩
    rintro v j ⟨j1, j2⟩ ih2
    refine ok_iload 32 rfl rfl rfl (ok_iload 33 rfl rfl rfl (ok_icmp_ge 34 113 rfl rfl rfl (fun h61 => ?_) (fun h61 => ?_)))
    · refine ok_aload_n 63 rfl rfl rfl (ok_getR 64 rfl rfl fl_X0_15 rfl rfl (ok_iload 65 rfl rfl rfl (ok_lload 66 rfl rfl rfl (ok_last 67 rfl rfl rfl (by first | omega | (simp [up_if]; omega) | (simp [up_if] at *; omega)) (ok_inc6 68 rfl rfl rfl (by first | omega | (simp [up_if]; omega) | (simp [up_if] at *; omega)) (ok_goto 69 24 rfl rfl rfl ?_))))))
      exact ok_fg [some (vr 16), some (vr c), some (vl J), none, some (vi n), some (vi (p2 n - 1)), some (vi (s + -1)), none, none, none, none, none] ⟨rfl, rfl, rfl, rfl, rfl, rfl, trivial⟩ (ih (s + -1) _ ⟨by omega, by omega, fr_up f rfl⟩ (by omega))
    · have b := or8 (s := s) (j := j) ⟨by omega, by omega⟩ ⟨by omega, by omega⟩
      refine ok_iload 35 rfl rfl rfl (ok_iload 36 rfl rfl rfl (ok_ishr 37 rfl rfl (ok_iconst 38 rfl rfl (by decide) (ok_iand 39 rfl rfl (ok_if_eq 40 107 rfl rfl rfl (fun h71 => ?_) (fun h71 => ?_))))))
      · refine ok_inc11 61 rfl rfl rfl (by first | omega | (simp [up_if]; omega) | (simp [up_if] at *; omega)) (ok_goto 62 57 rfl rfl rfl ?_)
        exact ih2 _ (j + 1) ⟨by omega, by omega⟩ (by omega)
      · refine ok_lload 41 rfl rfl rfl (ok_aload_n 42 rfl rfl rfl (ok_iload 43 rfl rfl rfl (ok_bipush 44 rfl rfl (by decide) (by decide) (ok_imul 45 rfl rfl (by first | omega | (simp [up_if]; omega) | (simp [up_if] at *; omega)) (ok_iload 46 rfl rfl rfl (ok_iadd 47 rfl rfl (by first | omega | (simp [up_if]; omega) | (simp [up_if] at *; omega)) (ok_iald 48 rfl rfl hs (by first | omega | (simp [up_if]; omega) | (simp [up_if] at *; omega)) (ok_i2l 49 rfl rfl (ok_aload_n 50 rfl rfl rfl (ok_getR 51 rfl rfl fl_X0_15 rfl rfl (ok_iload 52 rfl rfl rfl (ok_iconst 53 rfl rfl (by decide) (ok_iload 54 rfl rfl rfl (ok_ishl 55 rfl rfl (ok_ior 56 rfl rfl (ok_lald 57 rfl rfl rfl (by first | omega | (simp [up_if]; omega) | (simp [up_if] at *; omega)) (ok_mminL 58 rfl rfl ml_X0_46 ⟨Nat.le_of_ble_eq_true rfl, Nat.le_of_ble_eq_true rfl⟩ (ok_mmaxL 59 rfl rfl ml_X0_52 ⟨Nat.le_of_ble_eq_true rfl, Nat.le_of_ble_eq_true rfl⟩ (ok_lst9 60 rfl rfl rfl (ok_inc11 61 rfl rfl rfl (by first | omega | (simp [up_if]; omega) | (simp [up_if] at *; omega)) (ok_goto 62 57 rfl rfl rfl ?_)))))))))))))))))))))
        exact ih2 _ (j + 1) ⟨by omega, by omega⟩ (by omega)
theorem s_Ch_sumUp {σ : eS} {c : Nat} {J n : Int} (hs : nth shA c = some (1, 64, [])) (hn : 0 ≤ n ∧ n ≤ 8) : MtV shA M_Ch_sumUp [vr 16, vr c, vl J, vi n] σ (fun σ' => fr (fun c _ => c = 18) σ σ') := by
  refine Mt.of okM_Ch_sumUp (Nat.le_of_ble_eq_true rfl) (fun hk hg => ?_)
  have b2 := bit2 hn
  refine ok_iconst 0 rfl rfl (by decide) (ok_iload 1 rfl rfl rfl (ok_ishl 2 rfl rfl ?_))
  rw [b2.1]
  refine ok_iconst 3 rfl rfl (by decide) (ok_isub 4 rfl rfl (by first | omega | (simp [up_if]; omega) | (simp [up_if] at *; omega)) (ok_ist5 5 rfl rfl rfl (ok_aload_n 6 rfl rfl rfl (ok_getR 7 rfl rfl fl_X0_15 rfl rfl (ok_iload 8 rfl rfl rfl (ok_lconst (w := 0) 9 rfl rfl rfl (by decide) (ok_last 10 rfl rfl rfl (by first | omega | (simp [up_if]; omega) | (simp [up_if] at *; omega)) (ok_iload 11 rfl rfl rfl (ok_iconst 12 rfl rfl (by decide) (ok_isub 13 rfl rfl (by first | omega | (simp [up_if]; omega) | (simp [up_if] at *; omega)) (ok_ist6 14 rfl rfl rfl ?_)))))))))))
  refine lpO2 (fun (s : Int) (_ : eS) => [some (vr 16), some (vr c), some (vl J), none, some (vi n), some (vi (p2 n - 1)), some (vi s), none, none, none, none, none]) (fun _ ρ => ρ) (fun s ρ => -1 ≤ s ∧ s < p2 n - 1 ∧ fr (fun c _ => c = 18) σ ρ) (fun s _ => (s + 1).toNat) ?_ (p2 n - 1 - 1) _ ⟨by omega, by omega, fr_up fr.rf rfl⟩
  rintro s ρ ⟨s1, s2, f⟩ ih
  refine ok_iload 15 rfl rfl rfl (ok_if_lt 16 143 rfl rfl rfl (fun h24 => ?_) (fun h24 => ?_))
  · refine ok_vret 81 rfl rfl rfl ?_
    exact ⟨rfl, f⟩
  · refine ok_iload 17 rfl rfl rfl (ok_callSI (M' := M_Ji_bitCount) (as := [_]) 18 rfl rfl ml_X0_38 (s_Ji_bitCount) ⟨Nat.le_of_ble_eq_true rfl, Nat.le_of_ble_eq_true rfl⟩ rfl (Nat.le_of_ble_eq_true rfl) (fun σ' z hz => ?_))
    rw [hz.1, hz.2]
    clear hz z σ'
    have p1 := (bitL (s := s) ⟨by omega, by omega⟩ hn)
    have p3 := p1.1 s2
    have p4 := p1.2.2.1
    clear p1
    rw [bcP (s := s) ⟨by omega, by omega⟩]
    refine ok_ist7 19 rfl rfl rfl (ok_lload_n 20 rfl rfl rfl (ok_iload 21 rfl rfl rfl (ok_callSI (M' := M_Jo_rowOf) (as := [_, _]) 22 rfl rfl ml_X0_26 (s_Jo_rowOf) ⟨Nat.le_of_ble_eq_true rfl, Nat.le_of_ble_eq_true rfl⟩ rfl (Nat.le_of_ble_eq_true rfl) (fun σ' z hz => ?_))))
    rw [hz.1, hz.2]
    clear hz z σ'
    refine ok_iload 23 rfl rfl rfl (ok_iconst 24 rfl rfl (by decide) (ok_ixor 25 rfl rfl (ok_iand 26 rfl rfl (ok_ist8 27 rfl rfl rfl (ok_ldc2 28 (-1) rfl rfl kc_X0_44 (by decide) (ok_lst9 29 rfl rfl rfl (ok_iconst 30 rfl rfl (by decide) (ok_ist11 31 rfl rfl rfl ?_))))))))
    obtain ⟨o, eo⟩ : ∃ o : Int, o = iand (rowJ J (pc s)) (ixor s (-1)) := ⟨_, rfl⟩
    rw [← eo]
    refine lpO2 (fun (v j : Int) => [some (vr 16), some (vr c), some (vl J), none, some (vi n), some (vi (p2 n - 1)), some (vi s), some (vi (pc s)), some (vi o), some (vl v), none, some (vi j)]) (fun _ _ => ρ) (fun _ j => 0 ≤ j ∧ j ≤ 8) (fun _ j => (8 - j).toNat) ?_ (-1) 0 ⟨by omega, by omega⟩
    rintro v j ⟨j1, j2⟩ ih2
    refine ok_iload 32 rfl rfl rfl (ok_iload 33 rfl rfl rfl (ok_icmp_ge 34 128 rfl rfl rfl (fun h59 => ?_) (fun h59 => ?_)))
    · refine ok_aload_n 74 rfl rfl rfl (ok_getR 75 rfl rfl fl_X0_15 rfl rfl (ok_iload 76 rfl rfl rfl (ok_lload 77 rfl rfl rfl (ok_last 78 rfl rfl rfl (by first | omega | (simp [up_if]; omega) | (simp [up_if] at *; omega)) (ok_inc6 79 rfl rfl rfl (by first | omega | (simp [up_if]; omega) | (simp [up_if] at *; omega)) (ok_goto 80 22 rfl rfl rfl ?_))))))
      exact ok_fg [some (vr 16), some (vr c), some (vl J), none, some (vi n), some (vi (p2 n - 1)), some (vi (s + -1)), none, none, none, none, none] ⟨rfl, rfl, rfl, rfl, rfl, rfl, trivial⟩ (ih (s + -1) _ ⟨by omega, by omega, fr_up f rfl⟩ (by omega))
    · have b := or8 (s := s) (j := j) ⟨by omega, by omega⟩ ⟨by omega, by omega⟩
      refine ok_iload 35 rfl rfl rfl (ok_iload 36 rfl rfl rfl (ok_ishr 37 rfl rfl (ok_iconst 38 rfl rfl (by decide) (ok_iand 39 rfl rfl (ok_if_eq 40 122 rfl rfl rfl (fun h69 => ?_) (fun h69 => ?_))))))
      · refine ok_inc11 72 rfl rfl rfl (by first | omega | (simp [up_if]; omega) | (simp [up_if] at *; omega)) (ok_goto 73 55 rfl rfl rfl ?_)
        exact ih2 _ (j + 1) ⟨by omega, by omega⟩ (by omega)
      · refine ok_aload_n 41 rfl rfl rfl (ok_getR 42 rfl rfl fl_X0_15 rfl rfl (ok_iload 43 rfl rfl rfl (ok_iconst 44 rfl rfl (by decide) (ok_iload 45 rfl rfl rfl (ok_ishl 46 rfl rfl (ok_ior 47 rfl rfl (ok_lald 48 rfl rfl rfl (by first | omega | (simp [up_if]; omega) | (simp [up_if] at *; omega)) (ok_ldc2 49 (-1) rfl rfl kc_X0_44 (by decide) (ok_lcmp_eq 50 51 122 rfl rfl rfl rfl rfl (fun h87 => ?_) (fun h87 => ?_))))))))))
        · refine ok_inc11 72 rfl rfl rfl (by first | omega | (simp [up_if]; omega) | (simp [up_if] at *; omega)) (ok_goto 73 55 rfl rfl rfl ?_)
          exact ih2 _ (j + 1) ⟨by omega, by omega⟩ (by omega)
        · refine ok_lload 52 rfl rfl rfl (ok_aload_n 53 rfl rfl rfl (ok_iload 54 rfl rfl rfl (ok_bipush 55 rfl rfl (by decide) (by decide) (ok_imul 56 rfl rfl (by first | omega | (simp [up_if]; omega) | (simp [up_if] at *; omega)) (ok_iload 57 rfl rfl rfl (ok_iadd 58 rfl rfl (by first | omega | (simp [up_if]; omega) | (simp [up_if] at *; omega)) (ok_iald 59 rfl rfl hs (by first | omega | (simp [up_if]; omega) | (simp [up_if] at *; omega)) (ok_i2l 60 rfl rfl (ok_aload_n 61 rfl rfl rfl (ok_getR 62 rfl rfl fl_X0_15 rfl rfl (ok_iload 63 rfl rfl rfl (ok_iconst 64 rfl rfl (by decide) (ok_iload 65 rfl rfl rfl (ok_ishl 66 rfl rfl (ok_ior 67 rfl rfl (ok_lald 68 rfl rfl rfl (by first | omega | (simp [up_if]; omega) | (simp [up_if] at *; omega)) (ok_laddW 69 rfl rfl (ok_mmaxL 70 rfl rfl ml_X0_52 ⟨Nat.le_of_ble_eq_true rfl, Nat.le_of_ble_eq_true rfl⟩ (ok_lst9 71 rfl rfl rfl (ok_inc11 72 rfl rfl rfl (by first | omega | (simp [up_if]; omega) | (simp [up_if] at *; omega)) (ok_goto 73 55 rfl rfl rfl ?_)))))))))))))))))))))
          exact ih2 _ (j + 1) ⟨by omega, by omega⟩ (by omega)
theorem s_Ch_countAll {σ : eS} {J n : Int} (hn : 0 ≤ n ∧ n ≤ 8) : MtL shA M_Ch_countAll [vr 16, vl J, vi n] σ (fun σ' _ => fr (fun c _ => c = 18) σ σ') := by
  refine Mt.of okM_Ch_countAll (Nat.le_of_ble_eq_true rfl) (fun hk hg => ?_)
  have b2 := bit2 hn
  refine ok_iconst 0 rfl rfl (by decide) (ok_iload_n 1 rfl rfl rfl (ok_ishl 2 rfl rfl ?_))
  rw [b2.1]
  refine ok_iconst 3 rfl rfl (by decide) (ok_isub 4 rfl rfl (by first | omega | (simp [up_if]; omega) | (simp [up_if] at *; omega)) (ok_ist4 5 rfl rfl rfl (ok_aload_n 6 rfl rfl rfl (ok_getR 7 rfl rfl fl_X0_15 rfl rfl (ok_iload 8 rfl rfl rfl (ok_lconst (w := 1) 9 rfl rfl rfl (by decide) (ok_last 10 rfl rfl rfl (by first | omega | (simp [up_if]; omega) | (simp [up_if] at *; omega)) (ok_iload 11 rfl rfl rfl (ok_iconst 12 rfl rfl (by decide) (ok_isub 13 rfl rfl (by first | omega | (simp [up_if]; omega) | (simp [up_if] at *; omega)) (ok_ist5 14 rfl rfl rfl ?_)))))))))))
  refine lpO2 (fun (s : Int) (_ : eS) => [some (vr 16), some (vl J), none, some (vi n), some (vi (p2 n - 1)), some (vi s), none, none, none, none]) (fun _ ρ => ρ) (fun s ρ => -1 ≤ s ∧ s < p2 n - 1 ∧ fr (fun c _ => c = 18) σ ρ) (fun s _ => (s + 1).toNat) ?_ (p2 n - 1 - 1) _ ⟨by omega, by omega, fr_up fr.rf rfl⟩
  rintro s ρ ⟨s1, s2, f⟩ ih
  refine ok_iload 15 rfl rfl rfl (ok_if_lt 16 102 rfl rfl rfl (fun h23 => ?_) (fun h23 => ?_))
  · refine ok_aload_n 59 rfl rfl rfl (ok_getR 60 rfl rfl fl_X0_15 rfl rfl (ok_iconst 61 rfl rfl (by decide) (ok_lald 62 rfl rfl rfl (by first | omega | (simp [up_if]; omega) | (simp [up_if] at *; omega)) (ok_lret 63 rfl rfl rfl ?_))))
    exact ⟨_, rfl, f⟩
  · refine ok_lload_n 17 rfl rfl rfl (ok_iload 18 rfl rfl rfl (ok_callSI (M' := M_Ji_bitCount) (as := [_]) 19 rfl rfl ml_X0_38 (s_Ji_bitCount) ⟨Nat.le_of_ble_eq_true rfl, Nat.le_of_ble_eq_true rfl⟩ rfl (Nat.le_of_ble_eq_true rfl) (fun σ' z hz => ?_)))
    rw [hz.1, hz.2]
    clear hz z σ'
    refine ok_callSI (M' := M_Jo_rowOf) (as := [_, _]) 20 rfl rfl ml_X0_26 (s_Jo_rowOf) ⟨Nat.le_of_ble_eq_true rfl, Nat.le_of_ble_eq_true rfl⟩ rfl (Nat.le_of_ble_eq_true rfl) (fun σ' z hz => ?_)
    rw [hz.1, hz.2]
    clear hz z σ'
    refine ok_iload 21 rfl rfl rfl (ok_iconst 22 rfl rfl (by decide) (ok_ixor 23 rfl rfl (ok_iand 24 rfl rfl (ok_ist6 25 rfl rfl rfl (ok_lconst (w := 0) 26 rfl rfl rfl (by decide) (ok_lst7 27 rfl rfl rfl (ok_iconst 28 rfl rfl (by decide) (ok_ist9 29 rfl rfl rfl ?_))))))))
    obtain ⟨o, eo⟩ : ∃ o : Int, o = iand (rowJ J (bcI s)) (ixor s (-1)) := ⟨_, rfl⟩
    rw [← eo]
    refine lpO2 (fun (v j : Int) => [some (vr 16), some (vl J), none, some (vi n), some (vi (p2 n - 1)), some (vi s), some (vi o), some (vl v), none, some (vi j)]) (fun _ _ => ρ) (fun _ j => 0 ≤ j ∧ j ≤ 8) (fun _ j => (8 - j).toNat) ?_ 0 0 ⟨by omega, by omega⟩
    rintro v j ⟨j1, j2⟩ ih2
    refine ok_iload 30 rfl rfl rfl (ok_iload_n 31 rfl rfl rfl (ok_icmp_ge 32 87 rfl rfl rfl (fun h51 => ?_) (fun h51 => ?_)))
    · refine ok_aload_n 52 rfl rfl rfl (ok_getR 53 rfl rfl fl_X0_15 rfl rfl (ok_iload 54 rfl rfl rfl (ok_lload 55 rfl rfl rfl (ok_last 56 rfl rfl rfl (by first | omega | (simp [up_if]; omega) | (simp [up_if] at *; omega)) (ok_inc5 57 rfl rfl rfl (by first | omega | (simp [up_if]; omega) | (simp [up_if] at *; omega)) (ok_goto 58 21 rfl rfl rfl ?_))))))
      exact ok_fg [some (vr 16), some (vl J), none, some (vi n), some (vi (p2 n - 1)), some (vi (s + -1)), none, none, none, none] ⟨rfl, rfl, rfl, rfl, rfl, trivial⟩ (ih (s + -1) _ ⟨by omega, by omega, fr_up f rfl⟩ (by omega))
    · have b := or8 (s := s) (j := j) ⟨by omega, by omega⟩ ⟨by omega, by omega⟩
      refine ok_iload 33 rfl rfl rfl (ok_iload 34 rfl rfl rfl (ok_ishr 35 rfl rfl (ok_iconst 36 rfl rfl (by decide) (ok_iand 37 rfl rfl (ok_if_eq 38 81 rfl rfl rfl (fun h61 => ?_) (fun h61 => ?_))))))
      · refine ok_inc9 50 rfl rfl rfl (by first | omega | (simp [up_if]; omega) | (simp [up_if] at *; omega)) (ok_goto 51 48 rfl rfl rfl ?_)
        exact ih2 _ (j + 1) ⟨by omega, by omega⟩ (by omega)
      · refine ok_lload 39 rfl rfl rfl (ok_aload_n 40 rfl rfl rfl (ok_getR 41 rfl rfl fl_X0_15 rfl rfl (ok_iload 42 rfl rfl rfl (ok_iconst 43 rfl rfl (by decide) (ok_iload 44 rfl rfl rfl (ok_ishl 45 rfl rfl (ok_ior 46 rfl rfl (ok_lald 47 rfl rfl rfl (by first | omega | (simp [up_if]; omega) | (simp [up_if] at *; omega)) (ok_laddW 48 rfl rfl (ok_lst7 49 rfl rfl rfl (ok_inc9 50 rfl rfl rfl (by first | omega | (simp [up_if]; omega) | (simp [up_if] at *; omega)) (ok_goto 51 48 rfl rfl rfl ?_))))))))))))
        exact ih2 _ (j + 1) ⟨by omega, by omega⟩ (by omega)
theorem s_Ch_richestColumn {σ : eS} {c : Nat} {r o u n : Int} (hs : nth shA c = some (1, 64, [])) (hr : 0 ≤ r ∧ r < 8) (hu : 0 ≤ u ∧ u < 256) (hn : n ≤ 8) : MtI shA M_Ch_richestColumn [vr 16, vr c, vi r, vi o, vi u, vi n] σ (fun σ' z => σ' = σ ∧ 0 ≤ z ∧ z ≤ 7) := by
  refine Mt.of okM_Ch_richestColumn (Nat.le_of_ble_eq_true rfl) (fun hk hg => ?_)
  refine ok_iconst 0 rfl rfl (by decide) (ok_ist6 1 rfl rfl rfl ?_)
  refine lpO (fun j : Int => [some (vr 16), some (vr c), some (vi r), some (vi o), some (vi u), some (vi n), some (vi j), none, none]) (fun _ => σ) (fun j => 0 ≤ j ∧ j ≤ 8) (fun j => (8 - j).toNat) ?_ 0 ⟨by omega, by omega⟩
  rintro j ⟨j1, j2⟩ ih
  refine ok_iload 2 rfl rfl rfl (ok_iload 3 rfl rfl rfl (ok_icmp_ge 4 75 rfl rfl rfl (fun h7 => ?_) (fun h7 => ?_)))
  · refine ok_iconst 44 rfl rfl (by decide) (ok_iret 45 rfl rfl rfl ?_)
    exact ⟨_, rfl, rfl, by omega, by omega⟩
  · have b := or8 hu (j := j) ⟨by omega, by omega⟩
    refine ok_iload_n 5 rfl rfl rfl (ok_iload 6 rfl rfl rfl (ok_ishr 7 rfl rfl (ok_iconst 8 rfl rfl (by decide) (ok_iand 9 rfl rfl (ok_if_eq 10 69 rfl rfl rfl (fun h16 => ?_) (fun h16 => ?_))))))
    · refine ok_inc6 42 rfl rfl rfl (by first | omega | (simp [up_if]; omega) | (simp [up_if] at *; omega)) (ok_goto 43 3 rfl rfl rfl ?_)
      exact ok_fg [some (vr 16), some (vr c), some (vi r), some (vi o), some (vi u), some (vi n), some (vi (j + 1)), none, none] ⟨rfl, rfl, rfl, rfl, rfl, rfl, rfl, trivial⟩ (ih (j + 1) ⟨by omega, by omega⟩ (by omega))
    · refine ok_aload_n 11 rfl rfl rfl (ok_getR 12 rfl rfl fl_X0_15 rfl rfl (ok_iload 13 rfl rfl rfl (ok_iconst 14 rfl rfl (by decide) (ok_iload 15 rfl rfl rfl (ok_ishl 16 rfl rfl (ok_ior 17 rfl rfl (ok_lald 18 rfl rfl rfl (by first | omega | (simp [up_if]; omega) | (simp [up_if] at *; omega)) (ok_lst7 19 rfl rfl rfl (ok_lload 20 rfl rfl rfl (ok_ldc2 21 (-1) rfl rfl kc_X0_44 (by decide) (ok_lcmp_eq 22 23 69 rfl rfl rfl rfl rfl (fun h38 => ?_) (fun h38 => ?_))))))))))))
      · refine ok_inc6 42 rfl rfl rfl (by first | omega | (simp [up_if]; omega) | (simp [up_if] at *; omega)) (ok_goto 43 3 rfl rfl rfl ?_)
        exact ok_fg [some (vr 16), some (vr c), some (vi r), some (vi o), some (vi u), some (vi n), some (vi (j + 1)), none, none] ⟨rfl, rfl, rfl, rfl, rfl, rfl, rfl, trivial⟩ (ih (j + 1) ⟨by omega, by omega⟩ (by omega))
      · refine ok_aload_n 24 rfl rfl rfl (ok_iload_n 25 rfl rfl rfl (ok_bipush 26 rfl rfl (by decide) (by decide) (ok_imul 27 rfl rfl (by first | omega | (simp [up_if]; omega) | (simp [up_if] at *; omega)) (ok_iload 28 rfl rfl rfl (ok_iadd 29 rfl rfl (by first | omega | (simp [up_if]; omega) | (simp [up_if] at *; omega)) (ok_iald 30 rfl rfl hs (by first | omega | (simp [up_if]; omega) | (simp [up_if] at *; omega)) (ok_i2l 31 rfl rfl (ok_lload 32 rfl rfl rfl (ok_laddW 33 rfl rfl (ok_aload_n 34 rfl rfl rfl (ok_getR 35 rfl rfl fl_X0_15 rfl rfl (ok_iload 36 rfl rfl rfl (ok_lald 37 rfl rfl rfl (by first | omega | (simp [up_if]; omega) | (simp [up_if] at *; omega)) (ok_lcmp_ne 38 39 69 rfl rfl rfl rfl rfl (fun h62 => ?_) (fun h62 => ?_)))))))))))))))
        · refine ok_inc6 42 rfl rfl rfl (by first | omega | (simp [up_if]; omega) | (simp [up_if] at *; omega)) (ok_goto 43 3 rfl rfl rfl ?_)
          exact ok_fg [some (vr 16), some (vr c), some (vi r), some (vi o), some (vi u), some (vi n), some (vi (j + 1)), none, none] ⟨rfl, rfl, rfl, rfl, rfl, rfl, rfl, trivial⟩ (ih (j + 1) ⟨by omega, by omega⟩ (by omega))
        · refine ok_iload 40 rfl rfl rfl (ok_iret 41 rfl rfl rfl ?_)
          exact ⟨_, rfl, rfl, by omega, by omega⟩
theorem s_Ch_findRichest {σ : eS} {c : Nat} {J n : Int} (hs : nth shA c = some (1, 64, [])) (hC : iCh σ) (hn : 0 ≤ n ∧ n ≤ 8) : MtL shA M_Ch_findRichest [vr 16, vr c, vl J, vi n] σ (fun σ' _ => fr rgCh σ σ' ∧ iCh σ' ∧ mkS 0 σ σ') := by
  refine Mt.of okM_Ch_findRichest (Nat.le_of_ble_eq_true rfl) (fun hk hg => ?_)
  have r0 : ∀ {ρ : eS}, fr (fun c _ => c = 17 ∨ c = 18) σ ρ → fr rgCh σ ρ ∧ mkS 0 σ ρ := fun {ρ} f => ⟨f.mono (fun c k q => by simp only [rgCh]; omega), mkS_fr (by decide) f (by omega) (fun k => by omega)⟩
  refine ok_aload_n 0 rfl rfl rfl (ok_aload_n 1 rfl rfl rfl (ok_lload_n 2 rfl rfl rfl (ok_iload 3 rfl rfl rfl (ok_callVV (M' := M_Ch_sumUp) (as := [_, _, _]) 4 rfl rfl ml_X0_55 (s_Ch_sumUp hs hn) rfl rfl (Nat.le_of_ble_eq_true rfl) ⟨Nat.le_of_ble_eq_true rfl, Nat.le_of_ble_eq_true rfl⟩ rfl (Nat.le_of_ble_eq_true rfl) (fun τ f => ?_)))))
  have f0 : fr (fun c _ => c = 17 ∨ c = 18) σ τ := f.mono (fun c k q => by omega)
  have hC0 : iCh τ := iCh_cg hC (fun k => f _ _ (by simp))
  refine ok_aload_n 5 rfl rfl rfl (ok_getR 6 rfl rfl fl_X0_15 rfl rfl (ok_iconst 7 rfl rfl (by decide) (ok_lald 8 rfl rfl rfl (by first | omega | (simp [up_if]; omega) | (simp [up_if] at *; omega)) (ok_ldc2 9 (-1) rfl rfl kc_X0_44 (by decide) (ok_lcmp_ne 10 11 25 rfl rfl rfl rfl rfl (fun h17 => ?_) (fun h17 => ?_))))))
  · refine ok_iconst 14 rfl rfl (by decide) (ok_ist5 15 rfl rfl rfl (ok_iconst 16 rfl rfl (by decide) (ok_ist6 17 rfl rfl rfl ?_)))
    refine lpO3 (fun (u r : Int) (_ : eS) => [some (vr 16), some (vr c), some (vl J), none, some (vi n), some (vi u), some (vi r), none]) (fun _ _ ρ => ρ) (fun u r ρ => 0 ≤ u ∧ u < 256 ∧ 0 ≤ r ∧ r ≤ 8 ∧ fr (fun c _ => c = 17 ∨ c = 18) σ ρ ∧ iCh ρ) (fun _ r _ => (8 - r).toNat) ?_ 0 0 τ ⟨by omega, by omega, by omega, by omega, f0, hC0⟩
    rintro u r ρ ⟨u1, u2, r1, r2, f1, hC1⟩ ih
    refine ok_iload 18 rfl rfl rfl (ok_iload 19 rfl rfl rfl (ok_icmp_ge 20 86 rfl rfl rfl (fun h35 => ?_) (fun h35 => ?_)))
    · refine ok_aload_n 48 rfl rfl rfl (ok_getR 49 rfl rfl fl_X0_15 rfl rfl (ok_iconst 50 rfl rfl (by decide) (ok_lald 51 rfl rfl rfl (by first | omega | (simp [up_if]; omega) | (simp [up_if] at *; omega)) (ok_lret 52 rfl rfl rfl ?_))))
      exact ⟨_, rfl, (r0 f1).1, hC1, (r0 f1).2⟩
    · refine ok_aload_n 21 rfl rfl rfl (ok_aload_n 22 rfl rfl rfl (ok_iload 23 rfl rfl rfl (ok_lload_n 24 rfl rfl rfl (ok_iload 25 rfl rfl rfl (ok_callSI (M' := M_Jo_rowOf) (as := [_, _]) 26 rfl rfl ml_X0_26 (s_Jo_rowOf) ⟨Nat.le_of_ble_eq_true rfl, Nat.le_of_ble_eq_true rfl⟩ rfl (Nat.le_of_ble_eq_true rfl) (fun σ' z hz => ?_))))))
      rw [hz.1, hz.2]
      clear hz z σ'
      refine ok_iload 27 rfl rfl rfl (ok_iconst 28 rfl rfl (by decide) (ok_ixor 29 rfl rfl (ok_iand 30 rfl rfl (ok_iload 31 rfl rfl rfl (ok_iload 32 rfl rfl rfl (ok_callVI (M' := M_Ch_richestColumn) (as := [_, _, _, _, _]) 33 rfl rfl ml_X0_59 (s_Ch_richestColumn hs ⟨by omega, by omega⟩ ⟨u1, u2⟩ hn.2) rfl rfl (Nat.le_of_ble_eq_true rfl) ⟨Nat.le_of_ble_eq_true rfl, Nat.le_of_ble_eq_true rfl⟩ rfl (Nat.le_of_ble_eq_true rfl) (fun σ' z hz => ?_)))))))
      obtain ⟨hs_, hz⟩ := hz
      rw [hs_]; clear hs_ σ'
      refine ok_ist7 34 rfl rfl rfl (ok_aload_n 35 rfl rfl rfl (ok_getR 36 rfl rfl fl_X0_9 rfl rfl (ok_iload 37 rfl rfl rfl (ok_iload 38 rfl rfl rfl (ok_iast 39 rfl rfl rfl (by first | omega | (simp [up_if]; omega) | (simp [up_if] at *; omega)) (ok_iload 40 rfl rfl rfl (ok_iconst 41 rfl rfl (by decide) (ok_iload 42 rfl rfl rfl (ok_ishl 43 rfl rfl (ok_ior 44 rfl rfl (ok_ist5 45 rfl rfl rfl (ok_inc6 46 rfl rfl rfl (by first | omega | (simp [up_if]; omega) | (simp [up_if] at *; omega)) (ok_goto 47 31 rfl rfl rfl ?_)))))))))))))
      have b := or8 ⟨u1, u2⟩ (j := z) ⟨by omega, by omega⟩
      exact ok_fg [some (vr 16), some (vr c), some (vl J), none, some (vi n), some (vi _), some (vi (r + 1)), none] ⟨rfl, rfl, rfl, rfl, rfl, rfl, trivial⟩ (ih _ (r + 1) _ ⟨b.1, b.2, by omega, by omega, fr_up f1 (Or.inl rfl), up_ch hC1 hz⟩ (by omega))
  · refine ok_ldc2 12 (-1) rfl rfl kc_X0_44 (by decide) (ok_lret 13 rfl rfl rfl ?_)
    exact ⟨_, rfl, (r0 f0).1, hC0, (r0 f0).2⟩
theorem s_Ch_multiplySet {σ : eS} {c : Nat} {s n : Int} (hs : nth shA c = some (1, 64, [])) (h1 : 1 ≤ s ∧ s < 256) (hn : n ≤ 8) (hv : ∀ k, 0 ≤ k → k < s → 0 ≤ σ 18 k) : MtL shA M_Ch_multiplySet [vr 16, vr c, vi s, vi n] σ (fun σ' z => σ' = σ ∧ (z = -2 ∨ 0 ≤ z)) := by
  refine Mt.of okM_Ch_multiplySet (Nat.le_of_ble_eq_true rfl) (fun hk hg => ?_)
  have p1 := (bitL (s := s) (n := 8) ⟨by omega, by omega⟩ ⟨by omega, by omega⟩).2.2
  have p3 := pc1 (s := s) ⟨by omega, by omega⟩ (by omega)
  refine ok_iload_n 0 rfl rfl rfl (ok_callSI (M' := M_Ji_bitCount) (as := [_]) 1 rfl rfl ml_X0_38 (s_Ji_bitCount) ⟨Nat.le_of_ble_eq_true rfl, Nat.le_of_ble_eq_true rfl⟩ rfl (Nat.le_of_ble_eq_true rfl) (fun σ' z hz => ?_))
  rw [hz.1, hz.2]
  clear hz z σ'
  rw [bcP (s := s) ⟨by omega, by omega⟩]
  refine ok_iconst 2 rfl rfl (by decide) (ok_isub 3 rfl rfl (by first | omega | (simp [up_if]; omega) | (simp [up_if] at *; omega)) (ok_ist4 4 rfl rfl rfl (ok_lconst (w := 0) 5 rfl rfl rfl (by decide) (ok_lst5 6 rfl rfl rfl (ok_iconst 7 rfl rfl (by decide) (ok_ist7 8 rfl rfl rfl ?_))))))
  refine lpO2 (fun (v j : Int) => [some (vr 16), some (vr c), some (vi s), some (vi n), some (vi (pc s - 1)), some (vl v), none, some (vi j), none, none, none]) (fun _ _ => σ) (fun v j => 0 ≤ j ∧ j ≤ 8 ∧ 0 ≤ v ∧ v ≤ 9223372036854775807) (fun _ j => (8 - j).toNat) ?_ 0 0 ⟨by omega, by omega, by omega, by omega⟩
  rintro v j ⟨j1, j2, v1, v2⟩ ih
  refine ok_iload 9 rfl rfl rfl (ok_iload_n 10 rfl rfl rfl (ok_icmp_ge 11 96 rfl rfl rfl (fun h17 => ?_) (fun h17 => ?_)))
  · refine ok_lload 57 rfl rfl rfl (ok_lret 58 rfl rfl rfl ?_)
    exact ⟨_, rfl, rfl, Or.inr v1⟩
  · refine ok_aload_n 12 rfl rfl rfl (ok_iload 13 rfl rfl rfl (ok_bipush 14 rfl rfl (by decide) (by decide) (ok_imul 15 rfl rfl (by first | omega | (simp [up_if]; omega) | (simp [up_if] at *; omega)) (ok_iload 16 rfl rfl rfl (ok_iadd 17 rfl rfl (by first | omega | (simp [up_if]; omega) | (simp [up_if] at *; omega)) (ok_iald 18 rfl rfl hs (by first | omega | (simp [up_if]; omega) | (simp [up_if] at *; omega)) (ok_ist8 19 rfl rfl rfl (ok_iload_n 20 rfl rfl rfl (ok_iload 21 rfl rfl rfl (ok_ishr 22 rfl rfl (ok_iconst 23 rfl rfl (by decide) (ok_iand 24 rfl rfl (ok_if_eq 25 90 rfl rfl rfl (fun h38 => ?_) (fun h38 => ?_))))))))))))))
    · refine ok_inc7 55 rfl rfl rfl (by first | omega | (simp [up_if]; omega) | (simp [up_if] at *; omega)) (ok_goto 56 14 rfl rfl rfl ?_)
      exact ok_fg [some (vr 16), some (vr c), some (vi s), some (vi n), some (vi (pc s - 1)), some (vl v), none, some (vi (j + 1)), none, none, none] ⟨rfl, rfl, rfl, rfl, rfl, rfl, rfl, trivial⟩ (ih v (j + 1) ⟨by omega, by omega, by omega, by omega⟩ (by omega))
    · refine ok_iload 26 rfl rfl rfl (ok_if_le 27 90 rfl rfl rfl (fun h43 => ?_) (fun h43 => ?_))
      · refine ok_inc7 55 rfl rfl rfl (by first | omega | (simp [up_if]; omega) | (simp [up_if] at *; omega)) (ok_goto 56 14 rfl rfl rfl ?_)
        exact ok_fg [some (vr 16), some (vr c), some (vi s), some (vi n), some (vi (pc s - 1)), some (vl v), none, some (vi (j + 1)), none, none, none] ⟨rfl, rfl, rfl, rfl, rfl, rfl, rfl, trivial⟩ (ih v (j + 1) ⟨by omega, by omega, by omega, by omega⟩ (by omega))
      · rw [bitG (s := s) (j := j) ⟨by omega, by omega⟩ ⟨by omega, by omega⟩] at h38
        have bb : bt s j = true := by by_cases q : bt s j = true; exact q; rw [if_neg q] at h38; exact absurd rfl h38
        have x := bitX (s := s) (j := j) ⟨by omega, by omega⟩ ⟨by omega, by omega⟩ bb
        have w := hv _ x.1 x.2
        clear h38
        refine ok_aload_n 28 rfl rfl rfl (ok_getR 29 rfl rfl fl_X0_15 rfl rfl (ok_iload_n 30 rfl rfl rfl (ok_iconst 31 rfl rfl (by decide) (ok_iload 32 rfl rfl rfl (ok_ishl 33 rfl rfl (ok_ixor 34 rfl rfl (ok_lald 35 rfl rfl rfl (by first | omega | (simp [up_if]; omega) | (simp [up_if] at *; omega)) (ok_lst9 36 rfl rfl rfl (ok_lload 37 rfl rfl rfl (ok_ldc2 38 (9223372036854775807) rfl rfl kc_X0_36 (by decide) (ok_lload 39 rfl rfl rfl (ok_lsub 40 rfl rfl (by first | omega | (simp [up_if]; omega) | (simp [up_if] at *; omega)) (ok_iload 41 rfl rfl rfl (ok_i2l 42 rfl rfl (ok_ldiv 43 rfl rfl (by first | omega | (simp [up_if]; omega) | (simp [up_if] at *; omega)) (by first | omega | (simp [up_if]; omega) | (simp [up_if] at *; omega)) (ok_lcmp_le 44 45 79 rfl rfl rfl rfl rfl (fun h71 => ?_) (fun h71 => ?_)))))))))))))))))
        · have m : σ c ((pc s - 1) * 8 + j) * σ 18 (ixor s (ishl 1 j)) ≤ 9223372036854775807 - v := mul_le_div (by omega) h71
          have m0 : 0 ≤ σ c ((pc s - 1) * 8 + j) * σ 18 (ixor s (ishl 1 j)) := Int.mul_nonneg (by omega) w
          refine ok_lload 48 rfl rfl rfl (ok_iload 49 rfl rfl rfl (ok_i2l 50 rfl rfl (ok_lload 51 rfl rfl rfl (ok_lmul 52 rfl rfl (by first | omega | (simp [up_if]; omega) | (simp [up_if] at *; omega)) (ok_ladd 53 rfl rfl (by first | omega | (simp [up_if]; omega) | (simp [up_if] at *; omega)) (ok_lst5 54 rfl rfl rfl (ok_inc7 55 rfl rfl rfl (by first | omega | (simp [up_if]; omega) | (simp [up_if] at *; omega)) (ok_goto 56 14 rfl rfl rfl ?_))))))))
          exact ok_fg [some (vr 16), some (vr c), some (vi s), some (vi n), some (vi (pc s - 1)), some (vl _), none, some (vi (j + 1)), none, none, none] ⟨rfl, rfl, rfl, rfl, rfl, rfl, rfl, trivial⟩ (ih _ (j + 1) ⟨by omega, by omega, by omega, by omega⟩ (by omega))
        · refine ok_ldc2 46 (-2) rfl rfl kc_X0_67 (by decide) (ok_lret 47 rfl rfl rfl ?_)
          exact ⟨_, rfl, rfl, Or.inl rfl⟩
theorem s_Ch_multiplyAll {σ : eS} {c : Nat} {n : Int} (hs : nth shA c = some (1, 64, [])) (hn : 0 ≤ n ∧ n ≤ 8) : MtL shA M_Ch_multiplyAll [vr 16, vr c, vi n] σ (fun σ' _ => fr (fun c _ => c = 18) σ σ') := by
  refine Mt.of okM_Ch_multiplyAll (Nat.le_of_ble_eq_true rfl) (fun hk hg => ?_)
  have b2 := bit2 hn
  refine ok_aload_n 0 rfl rfl rfl (ok_getR 1 rfl rfl fl_X0_15 rfl rfl (ok_iconst 2 rfl rfl (by decide) (ok_lconst (w := 1) 3 rfl rfl rfl (by decide) (ok_last 4 rfl rfl rfl (by first | omega | (simp [up_if]; omega) | (simp [up_if] at *; omega)) (ok_iconst 5 rfl rfl (by decide) (ok_ist3 6 rfl rfl rfl ?_))))))
  refine lpO2 (fun (s : Int) (_ : eS) => [some (vr 16), some (vr c), some (vi n), some (vi s)]) (fun _ ρ => ρ) (fun s ρ => 1 ≤ s ∧ s ≤ 256 ∧ fr (fun c _ => c = 18) σ ρ ∧ ∀ k, 0 ≤ k → k < s → 0 ≤ ρ 18 k) (fun s _ => (256 - s).toNat) ?_ 1 _ ⟨by omega, by omega, fr_up fr.rf rfl, fun k a b => by rw [show k = 0 by omega, up_same]; decide⟩
  rintro s ρ ⟨s1, s2, f, hv⟩ ih
  refine ok_iload_n 7 rfl rfl rfl (ok_iconst 8 rfl rfl (by decide) (ok_iload_n 9 rfl rfl rfl (ok_ishl 10 rfl rfl (ok_icmp_ge 11 52 rfl rfl rfl (fun h13 => ?_) (fun h13 => ?_)))))
  · refine ok_aload_n 32 rfl rfl rfl (ok_getR 33 rfl rfl fl_X0_15 rfl rfl (ok_iconst 34 rfl rfl (by decide) (ok_iload_n 35 rfl rfl rfl (ok_ishl 36 rfl rfl (ok_iconst 37 rfl rfl (by decide) (ok_isub 38 rfl rfl (by first | omega | (simp [up_if]; omega) | (simp [up_if] at *; omega)) (ok_lald 39 rfl rfl rfl (by first | omega | (simp [up_if]; omega) | (simp [up_if] at *; omega)) (ok_lret 40 rfl rfl rfl ?_))))))))
    first | exact ⟨_, rfl, f⟩ | exact ⟨_, rfl, fr_up f rfl⟩
  · refine ok_aload_n 12 rfl rfl rfl (ok_getR 13 rfl rfl fl_X0_15 rfl rfl (ok_iload_n 14 rfl rfl rfl (ok_aload_n 15 rfl rfl rfl (ok_aload_n 16 rfl rfl rfl (ok_iload_n 17 rfl rfl rfl (ok_iload_n 18 rfl rfl rfl (ok_callVL (M' := M_Ch_multiplySet) (as := [_, _, _]) 19 rfl rfl ml_X0_63 (s_Ch_multiplySet hs ⟨by omega, by omega⟩ hn.2 hv) rfl rfl (Nat.le_of_ble_eq_true rfl) ⟨Nat.le_of_ble_eq_true rfl, Nat.le_of_ble_eq_true rfl⟩ rfl (Nat.le_of_ble_eq_true rfl) (fun σ' z hz => ?_))))))))
    obtain ⟨hs_, hz⟩ := hz
    rw [hs_]; clear hs_ σ'
    refine ok_last 20 rfl rfl rfl (by first | omega | (simp [up_if]; omega) | (simp [up_if] at *; omega)) (ok_aload_n 21 rfl rfl rfl (ok_getR 22 rfl rfl fl_X0_15 rfl rfl (ok_iload_n 23 rfl rfl rfl (ok_lald 24 rfl rfl rfl (by first | omega | (simp [up_if]; omega) | (simp [up_if] at *; omega)) (ok_ldc2 25 (-2) rfl rfl kc_X0_67 (by decide) (ok_lcmp_ne 26 27 46 rfl rfl rfl rfl rfl (fun h38 => ?_) (fun h38 => ?_)))))))
    · refine ok_inc3 30 rfl rfl rfl (by first | omega | (simp [up_if]; omega) | (simp [up_if] at *; omega)) (ok_goto 31 9 rfl rfl rfl ?_)
      rw [up_same] at h38
      refine ih (s + 1) _ ⟨by omega, by omega, fr_up f rfl, up_to (fun k a b => ?_) ?_⟩ (by omega)
      · rw [up_nk _ _ _ _ (by omega)]; exact hv k a b
      · rw [up_same]; omega
    · refine ok_ldc2 28 (-2) rfl rfl kc_X0_67 (by decide) (ok_lret 29 rfl rfl rfl ?_)
      first | exact ⟨_, rfl, f⟩ | exact ⟨_, rfl, fr_up f rfl⟩
end
