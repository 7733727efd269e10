theorem mul_bd2 {a b A B : Int} (h1 : 0 ≤ a ∧ a ≤ A) (h2 : 0 ≤ b ∧ b ≤ B) : 0 ≤ a * b ∧ a * b ≤ A * B :=
  ⟨Int.mul_nonneg h1.1 h2.1, Int.mul_le_mul h1.2 h2.2 h2.1 (by omega)⟩
theorem s_Nu_lm {σ : eS} {a b l : Int} (ha : a ≤ 9999999999) (hb : b ≤ 9999999999) (hl : 1 ≤ l ∧ l ≤ 9999999999) : MtL shA M_Nu_leastMultiple [vl a, vl b, vl l] σ (fun σ' z => σ' = σ ∧ (z = -1 ∨ (1 ≤ z ∧ z ≤ l))) := by
  refine Mt.of okM_Nu_leastMultiple (Nat.le_of_ble_eq_true rfl) (fun hk hg => ?_)
  refine ok_lload_n 0 rfl rfl rfl (ok_lconst (w := 1) 1 rfl rfl rfl (by decide) (ok_lcmp_lt 2 3 12 rfl rfl rfl rfl rfl (fun h2 => ?_) (fun h2 => ?_)))
  · refine ok_ldc2 8 (-1) rfl rfl kc_X4_9 (by decide) (ok_lret 9 rfl rfl rfl ?_)
    exact ⟨_, rfl, rfl, Or.inl rfl⟩
  · refine ok_lload_n 4 rfl rfl rfl (ok_lconst (w := 1) 5 rfl rfl rfl (by decide) (ok_lcmp_ge 6 7 16 rfl rfl rfl rfl rfl (fun h8 => ?_) (fun h8 => ?_)))
    · obtain ⟨g1, g2⟩ := gcd_pos (a := a) (b := b) (by omega)
      obtain ⟨g, eg⟩ : ∃ g : Int, g = (Int.gcd a b : Int) := ⟨_, rfl⟩
      rw [← eg] at g1 g2
      have d1 := gcd_div (u := a) (g := g) (by omega) g1 g2
      have d2 := div_bd (u := l) (g := b) (B := 9999999999) ⟨by omega, by omega⟩ (by omega)
      refine ok_lload_n 10 rfl rfl rfl (ok_lload_n 11 rfl rfl rfl (ok_lload_n 12 rfl rfl rfl (ok_callSL (M' := M_Nu_greatestDivisor) (as := [_, _]) 13 rfl rfl ml_X4_11 (s_Nu_greatestDivisor (by omega) ⟨by omega, by omega⟩) ⟨Nat.le_of_ble_eq_true rfl, Nat.le_of_ble_eq_true rfl⟩ rfl (Nat.le_of_ble_eq_true rfl) (fun σ' z hz => ?_))))
      rw [hz.1, hz.2]
      clear hz z σ'
      rw [← eg]
      refine ok_ldiv 14 rfl rfl (by first | omega | (simp [up_if]; omega) | (simp [up_if] at *; omega)) (by first | omega | (simp [up_if]; omega) | (simp [up_if] at *; omega)) (ok_lst6 15 rfl rfl rfl (ok_lload 16 rfl rfl rfl (ok_lload 17 rfl rfl rfl (ok_lload_n 18 rfl rfl rfl (ok_ldiv 19 rfl rfl (by first | omega | (simp [up_if]; omega) | (simp [up_if] at *; omega)) (by first | omega | (simp [up_if]; omega) | (simp [up_if] at *; omega)) (ok_lcmp_le 20 21 41 rfl rfl rfl rfl rfl (fun h31 => ?_) (fun h31 => ?_)))))))
      · have m : b * (a / g) ≤ l := mul_le_div (by omega) (by omega)
        rw [Int.mul_comm] at m
        have m1 : 1 * 1 ≤ a / g * b := Int.mul_le_mul (by omega) (by omega) (by decide) (by omega)
        refine ok_lload 24 rfl rfl rfl (ok_lload_n 25 rfl rfl rfl (ok_lmul 26 rfl rfl (by first | omega | (simp [up_if]; omega) | (simp [up_if] at *; omega)) (ok_lret 27 rfl rfl rfl ?_)))
        exact ⟨_, rfl, rfl, Or.inr ⟨by omega, by omega⟩⟩
      · refine ok_ldc2 22 (-1) rfl rfl kc_X4_9 (by decide) (ok_goto 23 45 rfl rfl rfl (ok_lret 27 rfl rfl rfl ?_))
        exact ⟨_, rfl, rfl, Or.inl rfl⟩
    · refine ok_ldc2 8 (-1) rfl rfl kc_X4_9 (by decide) (ok_lret 9 rfl rfl rfl ?_)
      exact ⟨_, rfl, rfl, Or.inl rfl⟩
theorem s_Mk_sharedDivisor {σ : eS} {b n : Int} (hb : 0 ≤ b) (hn : n ≤ 8) (hS : iSu σ) : MtL shA M_Mk_sharedDivisor [vr 14, vl b, vi n] σ (fun σ' _ => σ' = σ ∧ True) := by
  refine Mt.of okM_Mk_sharedDivisor (Nat.le_of_ble_eq_true rfl) (fun hk hg => ?_)
  refine ok_lload_n 0 rfl rfl rfl (ok_lst4 1 rfl rfl rfl (ok_iconst 2 rfl rfl (by decide) (ok_ist6 3 rfl rfl rfl ?_)))
  refine lpO2 (fun v i : Int => [some (vr 14), some (vl b), none, some (vi n), some (vl v), none, some (vi i), none]) (fun _ _ => σ) (fun v i => 0 ≤ i ∧ i ≤ 8 ∧ 0 ≤ v) (fun _ i => (8 - i).toNat) ?_ b 0 ⟨by omega, by omega, hb⟩
  rintro v i ⟨i1, i2, v1⟩ ih
  refine ok_iload 4 rfl rfl rfl (ok_iload_n 5 rfl rfl rfl (ok_icmp_ge 6 60 rfl rfl rfl (fun h9 => ?_) (fun h9 => ?_)))
  · refine ok_lload 31 rfl rfl rfl (ok_lret 32 rfl rfl rfl ?_)
    exact ⟨_, rfl, rfl, trivial⟩
  · refine ok_iconst 7 rfl rfl (by decide) (ok_ist7 8 rfl rfl rfl ?_)
    refine lpO2 (fun v j : Int => [some (vr 14), some (vl b), none, some (vi n), some (vl v), none, some (vi i), some (vi j)]) (fun _ _ => σ) (fun v j => 0 ≤ j ∧ j ≤ 8 ∧ 0 ≤ v) (fun _ j => (8 - j).toNat) ?_ v 0 ⟨by omega, by omega, v1⟩
    clear v1 v
    rintro v j ⟨j1, j2, v1⟩ ih2
    refine ok_iload 9 rfl rfl rfl (ok_iload_n 10 rfl rfl rfl (ok_icmp_ge 11 54 rfl rfl rfl (fun h18 => ?_) (fun h18 => ?_)))
    · refine ok_inc6 29 rfl rfl rfl (by first | omega | (simp [up_if]; omega) | (simp [up_if] at *; omega)) (ok_goto 30 6 rfl rfl rfl ?_)
      exact ok_fg [some (vr 14), some (vl b), none, some (vi n), some (vl _), none, some (vi (i + 1)), none] ⟨rfl, rfl, rfl, rfl, rfl, trivial⟩ (ih _ (i + 1) ⟨by omega, by omega, v1⟩ (by omega))
    · refine ok_lload 12 rfl rfl rfl (ok_lconst (w := 1) 13 rfl rfl rfl (by decide) (ok_lcmp_le 14 15 54 rfl rfl rfl rfl rfl (fun h24 => ?_) (fun h24 => ?_)))
      · refine ok_inc6 29 rfl rfl rfl (by first | omega | (simp [up_if]; omega) | (simp [up_if] at *; omega)) (ok_goto 30 6 rfl rfl rfl ?_)
        exact ok_fg [some (vr 14), some (vl b), none, some (vi n), some (vl _), none, some (vi (i + 1)), none] ⟨rfl, rfl, rfl, rfl, rfl, trivial⟩ (ih _ (i + 1) ⟨by omega, by omega, v1⟩ (by omega))
      · have s1 := hS (i * 8 + j) (by omega) (by omega)
        have s2 := (hg 15 (i * 8 + j)).1.2
        refine ok_lload 16 rfl rfl rfl (ok_aload_n 17 rfl rfl rfl (ok_getR 18 rfl rfl fl_X2_9 rfl rfl (ok_iload 19 rfl rfl rfl (ok_bipush 20 rfl rfl (by decide) (by decide) (ok_imul 21 rfl rfl (by first | omega | (simp [up_if]; omega) | (simp [up_if] at *; omega)) (ok_iload 22 rfl rfl rfl (ok_iadd 23 rfl rfl (by first | omega | (simp [up_if]; omega) | (simp [up_if] at *; omega)) (ok_lald 24 rfl rfl rfl (by first | omega | (simp [up_if]; omega) | (simp [up_if] at *; omega)) (ok_callSL (M' := M_Nu_greatestDivisor) (as := [_, _]) 25 rfl rfl ml_X2_66 (s_Nu_greatestDivisor v1 ⟨s1, by omega⟩) ⟨Nat.le_of_ble_eq_true rfl, Nat.le_of_ble_eq_true rfl⟩ rfl (Nat.le_of_ble_eq_true rfl) (fun σ' z hz => ?_))))))))))
        rw [hz.1, hz.2]
        clear hz z σ'
        refine ok_lst4 26 rfl rfl rfl (ok_inc7 27 rfl rfl rfl (by first | omega | (simp [up_if]; omega) | (simp [up_if] at *; omega)) (ok_goto 28 15 rfl rfl rfl ?_))
        exact ih2 _ (j + 1) ⟨by omega, by omega, by omega⟩ (by omega)
theorem up_to {P : Int → Prop} {j : Int} (h : ∀ k, 0 ≤ k → k < j → P k) (hj : P j) : ∀ k, 0 ≤ k → k < j + 1 → P k := fun k a b => by
  rcases (by omega : k < j ∨ k = j) with q | q
  · exact h k a q
  · rw [q]; exact hj
def cS (σ : eS) (g n : Int) : Prop := ∀ i j, 0 ≤ i → i < n → 0 ≤ j → j < n → σ 15 (i * 8 + j) / g ≤ 99999999
theorem s_Mk_areCells {σ : eS} {g n : Int} (hg1 : 1 ≤ g) (hn : n ≤ 8) (hS : iSu σ) : MtI shA M_Mk_areCells [vr 14, vl g, vi n] σ (fun σ' z => σ' = σ ∧ (z = 0 ∨ (z = 1 ∧ cS σ g n))) := by
  refine Mt.of okM_Mk_areCells (Nat.le_of_ble_eq_true rfl) (fun hk hg => ?_)
  refine ok_iconst 0 rfl rfl (by decide) (ok_ist4 1 rfl rfl rfl ?_)
  refine lpO (fun i : Int => [some (vr 14), some (vl g), none, some (vi n), some (vi i), none]) (fun _ => σ) (fun i => 0 ≤ i ∧ i ≤ 8 ∧ ∀ k j, 0 ≤ k → k < i → 0 ≤ j → j < n → σ 15 (k * 8 + j) / g ≤ 99999999) (fun i => (8 - i).toNat) ?_ 0 ⟨by omega, by omega, fun k j a b => by omega⟩
  rintro i ⟨i1, i2, hi⟩ ih
  refine ok_iload 2 rfl rfl rfl (ok_iload_n 3 rfl rfl rfl (ok_icmp_ge 4 54 rfl rfl rfl (fun h6 => ?_) (fun h6 => ?_)))
  · refine ok_iconst 29 rfl rfl (by decide) (ok_zret 30 rfl rfl rfl (by first | omega | (simp [up_if]; omega) | (simp [up_if] at *; omega)) ?_)
    exact ⟨_, rfl, rfl, Or.inr ⟨rfl, fun k j a b c d => hi k j a (by omega) c d⟩⟩
  · refine ok_iconst 5 rfl rfl (by decide) (ok_ist5 6 rfl rfl rfl ?_)
    refine lpO (fun j : Int => [some (vr 14), some (vl g), none, some (vi n), some (vi i), some (vi j)]) (fun _ => σ) (fun j => 0 ≤ j ∧ j ≤ 8 ∧ ∀ k, 0 ≤ k → k < j → σ 15 (i * 8 + k) / g ≤ 99999999) (fun j => (8 - j).toNat) ?_ 0 ⟨by omega, by omega, fun k a b => by omega⟩
    rintro j ⟨j1, j2, hj⟩ ih2
    refine ok_iload 7 rfl rfl rfl (ok_iload_n 8 rfl rfl rfl (ok_icmp_ge 9 48 rfl rfl rfl (fun h15 => ?_) (fun h15 => ?_)))
    · refine ok_inc4 27 rfl rfl rfl (by first | omega | (simp [up_if]; omega) | (simp [up_if] at *; omega)) (ok_goto 28 3 rfl rfl rfl ?_)
      exact ok_fg [some (vr 14), some (vl g), none, some (vi n), some (vi (i + 1)), none] ⟨rfl, rfl, rfl, rfl, trivial⟩ (ih (i + 1) ⟨by omega, by omega, fun k l a b c d => up_to (P := fun k => ∀ l, 0 ≤ l → l < n → σ 15 (k * 8 + l) / g ≤ 99999999) (fun k a b l c d => hi k l a b c d) (fun l c d => hj l c (by omega)) k a b l c d⟩ (by omega))
    · have s1 := hS (i * 8 + j) (by omega) (by omega)
      refine ok_aload_n 10 rfl rfl rfl (ok_getR 11 rfl rfl fl_X2_9 rfl rfl (ok_iload 12 rfl rfl rfl (ok_bipush 13 rfl rfl (by decide) (by decide) (ok_imul 14 rfl rfl (by first | omega | (simp [up_if]; omega) | (simp [up_if] at *; omega)) (ok_iload 15 rfl rfl rfl (ok_iadd 16 rfl rfl (by first | omega | (simp [up_if]; omega) | (simp [up_if] at *; omega)) (ok_lald 17 rfl rfl rfl (by first | omega | (simp [up_if]; omega) | (simp [up_if] at *; omega)) (ok_lload_n 18 rfl rfl rfl (ok_ldiv 19 rfl rfl (by first | omega | (simp [up_if]; omega) | (simp [up_if] at *; omega)) (by first | omega | (simp [up_if]; omega) | (simp [up_if] at *; omega)) (ok_ldc2 20 (99999999) rfl rfl kc_X2_69 (by decide) (ok_lcmp_le 21 22 42 rfl rfl rfl rfl rfl (fun h36 => ?_) (fun h36 => ?_))))))))))))
      · refine ok_inc5 25 rfl rfl rfl (by first | omega | (simp [up_if]; omega) | (simp [up_if] at *; omega)) (ok_goto 26 12 rfl rfl rfl ?_)
        exact ih2 (j + 1) ⟨by omega, by omega, up_to hj (by omega)⟩ (by omega)
      · refine ok_iconst 23 rfl rfl (by decide) (ok_zret 24 rfl rfl rfl (by first | omega | (simp [up_if]; omega) | (simp [up_if] at *; omega)) ?_)
        exact ⟨_, rfl, rfl, Or.inl rfl⟩
abbrev rgBr (t : Nat) : Nat → Int → Prop := fun c _ => c = t ∨ c = t + 4
theorem s_Mk_bring {σ : eS} {t : Nat} {b n : Int} (ht : tA t) (hb : 0 ≤ b) (hn : 0 ≤ n ∧ n ≤ 8) (hS : iSu σ) (hT : iT σ t) (hM : mT σ t) : MtI shA M_Mk_bring [vr 14, vl b, vi n, vr t] σ (fun σ' z => fr (rgBr t) σ σ' ∧ iT σ' t ∧ mT σ' t ∧ (z = 0 ∨ z = 1)) := by
  refine Mt.of okM_Mk_bring (Nat.le_of_ble_eq_true rfl) (fun hk hg => ?_)
  have nA := tA_10 ht
  refine ok_aload_n 0 rfl rfl rfl (ok_lload_n 1 rfl rfl rfl (ok_iload_n 2 rfl rfl rfl (ok_callVL (M' := M_Mk_sharedDivisor) (as := [_, _]) 3 rfl rfl ml_X2_52 (s_Mk_sharedDivisor hb hn.2 hS) rfl rfl (Nat.le_of_ble_eq_true rfl) ⟨Nat.le_of_ble_eq_true rfl, Nat.le_of_ble_eq_true rfl⟩ rfl (Nat.le_of_ble_eq_true rfl) (fun σ' g hz => ?_))))
  obtain ⟨hs_, hz⟩ := hz
  rw [hs_]; clear hs_ σ'
  refine ok_lst5 4 rfl rfl rfl (ok_lload 5 rfl rfl rfl (ok_lconst (w := 1) 6 rfl rfl rfl (by decide) (ok_lcmp_lt 7 8 36 rfl rfl rfl rfl rfl (fun h11 => ?_) (fun h11 => ?_))))
  · refine ok_iconst 20 rfl rfl (by decide) (ok_zret 21 rfl rfl rfl (by first | omega | (simp [up_if]; omega) | (simp [up_if] at *; omega)) ?_)
    exact ⟨_, rfl, fr.rf, hT, hM, Or.inl rfl⟩
  · refine ok_lload_n 9 rfl rfl rfl (ok_lload 10 rfl rfl rfl (ok_ldiv 11 rfl rfl (by first | omega | (simp [up_if]; omega) | (simp [up_if] at *; omega)) (by first | omega | (simp [up_if]; omega) | (simp [up_if] at *; omega)) (ok_ldc2 12 (999999) rfl rfl kc_X2_56 (by decide) (ok_lcmp_gt 13 14 36 rfl rfl rfl rfl rfl (fun h22 => ?_) (fun h22 => ?_)))))
    · refine ok_iconst 20 rfl rfl (by decide) (ok_zret 21 rfl rfl rfl (by first | omega | (simp [up_if]; omega) | (simp [up_if] at *; omega)) ?_)
      exact ⟨_, rfl, fr.rf, hT, hM, Or.inl rfl⟩
    · refine ok_aload_n 15 rfl rfl rfl (ok_lload 16 rfl rfl rfl (ok_iload_n 17 rfl rfl rfl (ok_callVI (M' := M_Mk_areCells) (as := [_, _]) 18 rfl rfl ml_X2_58 (s_Mk_areCells (by omega) hn.2 hS) rfl rfl (Nat.le_of_ble_eq_true rfl) ⟨Nat.le_of_ble_eq_true rfl, Nat.le_of_ble_eq_true rfl⟩ rfl (Nat.le_of_ble_eq_true rfl) (fun σ' z1 hz1 => ?_))))
      obtain ⟨hs_, hz1⟩ := hz1
      rw [hs_]; clear hs_ σ'
      refine ok_if_ne 19 38 rfl rfl rfl (fun h33 => ?_) (fun h33 => ?_)
      · have hc : cS σ g n := by
          rcases hz1 with q | q
          · exact absurd q h33
          · exact q.2
        clear hz1 h33
        refine ok_iconst 22 rfl rfl (by decide) (ok_ist7 23 rfl rfl rfl ?_)
        refine lpO2 (fun (i : Int) (_ : eS) => [some (vr 14), some (vl b), none, some (vi n), some (vr t), some (vl g), none, some (vi i), none, none]) (fun _ ρ => ρ) (fun i ρ => 0 ≤ i ∧ i ≤ 8 ∧ fr (fun c _ => c = t + 4) σ ρ ∧ ∀ k, 0 ≤ k → k < 64 → 0 ≤ ρ (t + 4) k ∧ ρ (t + 4) k ≤ 99999999) (fun i _ => (8 - i).toNat) ?_ 0 σ ⟨by omega, by omega, fr.rf, hT.2.2.2⟩
        rintro i ρ ⟨i1, i2, f, hcc⟩ ih
        refine ok_iload 24 rfl rfl rfl (ok_iload_n 25 rfl rfl rfl (ok_icmp_ge 26 97 rfl rfl rfl (fun h44 => ?_) (fun h44 => ?_)))
        · have dd : 0 ≤ b / g := Int.ediv_nonneg hb (by omega)
          refine ok_aload 53 rfl rfl rfl (ok_iload_n 54 rfl rfl rfl (ok_lload_n 55 rfl rfl rfl (ok_lload 56 rfl rfl rfl (ok_ldiv 57 rfl rfl (by first | omega | (simp [up_if]; omega) | (simp [up_if] at *; omega)) (by first | omega | (simp [up_if]; omega) | (simp [up_if] at *; omega)) (ok_l2i 58 rfl rfl (by first | omega | (simp [up_if]; omega) | (simp [up_if] at *; omega)) (ok_callVV (M' := M_Ta_settle) (as := [_, _]) 59 rfl rfl ml_X2_62 (s_Ta_settle ht hn (by omega) hcc) (sT ht) rfl (Nat.le_of_ble_eq_true rfl) ⟨Nat.le_of_ble_eq_true rfl, Nat.le_of_ble_eq_true rfl⟩ rfl (Nat.le_of_ble_eq_true rfl) (fun τ hz => ?_)))))))
          refine ok_iconst 60 rfl rfl (by decide) (ok_zret 61 rfl rfl rfl (by first | omega | (simp [up_if]; omega) | (simp [up_if] at *; omega)) ?_)
          exact ⟨_, rfl, (f.mono (fun c k q => by simp only [rgBr]; omega)).tr (hz.1.mono (fun c k q => by simp only [rgT1, rgBr] at q ⊢; omega)), hz.2.1, hz.2.2.1, Or.inr rfl⟩
        · refine ok_iconst 27 rfl rfl (by decide) (ok_ist8 28 rfl rfl rfl ?_)
          have il : i < n := by omega
          clear h44
          refine lpO2 (fun (j : Int) (_ : eS) => [some (vr 14), some (vl b), none, some (vi n), some (vr t), some (vl g), none, some (vi i), some (vi j), none]) (fun _ ρ => ρ) (fun j ρ => 0 ≤ j ∧ j ≤ 8 ∧ fr (fun c _ => c = t + 4) σ ρ ∧ ∀ k, 0 ≤ k → k < 64 → 0 ≤ ρ (t + 4) k ∧ ρ (t + 4) k ≤ 99999999) (fun j _ => (8 - j).toNat) ?_ 0 ρ ⟨by omega, by omega, f, hcc⟩
          clear f hcc ρ
          rintro j ρ ⟨j1, j2, f, hcc⟩ ih2
          have e15 : ρ 15 (i * 8 + j) = σ 15 (i * 8 + j) := f 15 _ (by omega)
          refine ok_iload 29 rfl rfl rfl (ok_iload_n 30 rfl rfl rfl (ok_icmp_ge 31 91 rfl rfl rfl (fun h53 => ?_) (fun h53 => ?_)))
          · refine ok_inc7 51 rfl rfl rfl (by first | omega | (simp [up_if]; omega) | (simp [up_if] at *; omega)) (ok_goto 52 41 rfl rfl rfl ?_)
            exact ok_fg [some (vr 14), some (vl b), none, some (vi n), some (vr t), some (vl g), none, some (vi (i + 1)), none, none] ⟨rfl, rfl, rfl, rfl, rfl, rfl, trivial⟩ (ih (i + 1) ρ ⟨by omega, by omega, f, hcc⟩ (by omega))
          · have s1 : 0 ≤ ρ 15 (i * 8 + j) := by rw [e15]; exact hS _ (by omega) (by omega)
            have d1 := hc i j i1 il j1 (by omega)
            rw [← e15] at d1
            have d0 : 0 ≤ ρ 15 (i * 8 + j) / g := Int.ediv_nonneg s1 (by omega)
            refine ok_iload 32 rfl rfl rfl (ok_bipush 33 rfl rfl (by decide) (by decide) (ok_imul 34 rfl rfl (by first | omega | (simp [up_if]; omega) | (simp [up_if] at *; omega)) (ok_iload 35 rfl rfl rfl (ok_iadd 36 rfl rfl (by first | omega | (simp [up_if]; omega) | (simp [up_if] at *; omega)) (ok_ist9 37 rfl rfl rfl (ok_aload 38 rfl rfl rfl (ok_getR 39 rfl rfl fl_X2_34 (sT ht) rfl (ok_iload 40 rfl rfl rfl (ok_aload_n 41 rfl rfl rfl (ok_getR 42 rfl rfl fl_X2_9 rfl rfl (ok_iload 43 rfl rfl rfl (ok_lald 44 rfl rfl rfl (by first | omega | (simp [up_if]; omega) | (simp [up_if] at *; omega)) (ok_lload 45 rfl rfl rfl (ok_ldiv 46 rfl rfl (by first | omega | (simp [up_if]; omega) | (simp [up_if] at *; omega)) (by first | omega | (simp [up_if]; omega) | (simp [up_if] at *; omega)) (ok_l2i 47 rfl rfl (by first | omega | (simp [up_if]; omega) | (simp [up_if] at *; omega)) (ok_iast 48 rfl rfl (sC ht) (by first | omega | (simp [up_if]; omega) | (simp [up_if] at *; omega)) (ok_inc8 49 rfl rfl rfl (by first | omega | (simp [up_if]; omega) | (simp [up_if] at *; omega)) (ok_goto 50 50 rfl rfl rfl ?_))))))))))))))))))
            refine ok_fg [some (vr 14), some (vl b), none, some (vi n), some (vr t), some (vl g), none, some (vi i), some (vi (j + 1)), none] ⟨rfl, rfl, rfl, rfl, rfl, rfl, rfl, trivial⟩ (ih2 (j + 1) _ ⟨by omega, by omega, fr_up f rfl, fun k a c => ?_⟩ (by omega))
            rw [up_if]
            by_cases q : k = i * 8 + j
            · rw [if_pos ⟨rfl, q⟩]; exact ⟨d0, d1⟩
            · rw [if_neg (fun y => q y.2)]; exact hcc k a c
      · refine ok_iconst 20 rfl rfl (by decide) (ok_zret 21 rfl rfl rfl (by first | omega | (simp [up_if]; omega) | (simp [up_if] at *; omega)) ?_)
        exact ⟨_, rfl, fr.rf, hT, hM, Or.inl rfl⟩
theorem s_Mk_multiplied {σ : eS} {p f : Int} (hp : 0 ≤ p) (hf : 0 ≤ f) : MtL shA M_Mk_multiplied [vl p, vl f] σ (fun σ' z => σ' = σ ∧ (z = -1 ∨ (0 ≤ z ∧ z ≤ 1000000000000000))) := by
  refine Mt.of okM_Mk_multiplied (Nat.le_of_ble_eq_true rfl) (fun hk hg => ?_)
  refine ok_lload_n 0 rfl rfl rfl (ok_lconst (w := 0) 1 rfl rfl rfl (by decide) (ok_lcmp_ne 2 3 8 rfl rfl rfl rfl rfl (fun h2 => ?_) (fun h2 => ?_)))
  · have p1 : 0 < p := by omega
    refine ok_lload_n 6 rfl rfl rfl (ok_ldc2 7 (1000000000000000) rfl rfl kc_X2_42 (by decide) (ok_lload_n 8 rfl rfl rfl (ok_ldiv 9 rfl rfl (by first | omega | (simp [up_if]; omega) | (simp [up_if] at *; omega)) (by first | omega | (simp [up_if]; omega) | (simp [up_if] at *; omega)) (ok_lcmp_le 10 11 24 rfl rfl rfl rfl rfl (fun h14 => ?_) (fun h14 => ?_)))))
    · have m : p * f ≤ 1000000000000000 := mul_le_div p1 h14
      have m0 : 0 ≤ p * f := Int.mul_nonneg hp hf
      refine ok_lload_n 14 rfl rfl rfl (ok_lload_n 15 rfl rfl rfl (ok_lmul 16 rfl rfl (by first | omega | (simp [up_if]; omega) | (simp [up_if] at *; omega)) (ok_lret 17 rfl rfl rfl ?_)))
      exact ⟨_, rfl, rfl, Or.inr ⟨m0, m⟩⟩
    · refine ok_ldc2 12 (-1) rfl rfl kc_X2_29 (by decide) (ok_goto 13 27 rfl rfl rfl (ok_lret 17 rfl rfl rfl ?_))
      exact ⟨_, rfl, rfl, Or.inl rfl⟩
  · refine ok_lconst (w := 0) 4 rfl rfl rfl (by decide) (ok_lret 5 rfl rfl rfl ?_)
    exact ⟨_, rfl, rfl, Or.inr ⟨by omega, by omega⟩⟩
theorem s_Mk_turnedFrom {σ : eS} {i b1 b2 r l : Int} (hi : 0 ≤ i ∧ i ≤ l) (hl : l ≤ 7) (hr : b2 ≠ 0 → 0 ≤ r ∧ r ≤ l) : MtI shA M_Mk_turnedFrom [vi i, vi b1, vi b2, vi r, vi l] σ (fun σ' z => σ' = σ ∧ 0 ≤ z ∧ z ≤ l) := by
  refine Mt.of okM_Mk_turnedFrom (Nat.le_of_ble_eq_true rfl) (fun hk hg => ?_)
  refine ok_iload_n 0 rfl rfl rfl (ok_if_eq 1 9 rfl rfl rfl (fun h1 => ?_) (fun h1 => ?_))
  · refine ok_iload_n 6 rfl rfl rfl (ok_if_eq 7 18 rfl rfl rfl (fun h10 => ?_) (fun h10 => ?_))
    · refine ok_iload_n 11 rfl rfl rfl (ok_iret 12 rfl rfl rfl ?_)
      exact ⟨_, rfl, rfl, by omega, by omega⟩
    · refine ok_iload_n 8 rfl rfl rfl (ok_iload_n 9 rfl rfl rfl (ok_icmp_ge 10 20 rfl rfl rfl (fun h15 => ?_) (fun h15 => ?_)))
      · refine ok_iload_n 13 rfl rfl rfl (ok_iload 14 rfl rfl rfl (ok_icmp_ge 15 32 rfl rfl rfl (fun h23 => ?_) (fun h23 => ?_)))
        · refine ok_iload_n 20 rfl rfl rfl (ok_iret 21 rfl rfl rfl ?_)
          exact ⟨_, rfl, rfl, by omega, by omega⟩
        · refine ok_iload_n 16 rfl rfl rfl (ok_iconst 17 rfl rfl (by decide) (ok_iadd 18 rfl rfl (by first | omega | (simp [up_if]; omega) | (simp [up_if] at *; omega)) (ok_goto 19 33 rfl rfl rfl (ok_iret 21 rfl rfl rfl ?_))))
          exact ⟨_, rfl, rfl, by omega, by omega⟩
      · refine ok_iload_n 11 rfl rfl rfl (ok_iret 12 rfl rfl rfl ?_)
        exact ⟨_, rfl, rfl, by omega, by omega⟩
  · refine ok_iload 2 rfl rfl rfl (ok_iload_n 3 rfl rfl rfl (ok_isub 4 rfl rfl (by first | omega | (simp [up_if]; omega) | (simp [up_if] at *; omega)) (ok_iret 5 rfl rfl rfl ?_)))
    exact ⟨_, rfl, rfl, by omega, by omega⟩
theorem up_su {σ : eS} {j z : Int} (h : iSu σ) (hz : 0 ≤ z) : iSu (up σ 15 j z) := fun k a b => by
  rw [up_if]
  by_cases q : k = j
  · rw [if_pos ⟨rfl, q⟩]; exact hz
  · rw [if_neg (fun y => q y.2)]; exact h k a b
abbrev rgSu : Nat → Int → Prop := fun c _ => c = 15
theorem s_Mk_makeTurned {σ : eS} {t u : Nat} {w r : Int} (ht : tA t) (hu : tA u) (hS : iSu σ) (hT : iT σ t) (hU : iT σ u) (hM : mT σ u) (hn : σ t 1 ≠ 0) (hr : 3 < w → 0 ≤ r ∧ r < σ t 1) (hw : w ≤ 5) : MtI shA M_Mk_makeTurned [vr 14, vr t, vi w, vi r, vr u] σ (fun σ' z => fr (fun c _ => c = 15 ∨ c = u ∨ c = u + 4) σ σ' ∧ iT σ' u ∧ mT σ' u ∧ iSu σ' ∧ (z = 0 ∨ z = 1)) := by
  refine Mt.of okM_Mk_makeTurned (Nat.le_of_ble_eq_true rfl) (fun hk hg => ?_)
  have nA := tA_10 ht
  have nB := tA_10 hu
  have n1 := hT.1
  have n2 := hT.2.1
  have hB := hT.2.2.1 (by omega)
  refine ok_aload_n 0 rfl rfl rfl (ok_getI 1 rfl rfl fl_X2_31 (sT ht) rfl (Or.inl rfl) (ok_iconst 2 rfl rfl (by decide) (ok_isub 3 rfl rfl (by first | omega | (simp [up_if]; omega) | (simp [up_if] at *; omega)) (ok_ist5 4 rfl rfl rfl (ok_iconst 5 rfl rfl (by decide) (ok_ist6 6 rfl rfl rfl ?_))))))
  refine lpO2 (fun (i : Int) (_ : eS) => [some (vr 14), some (vr t), some (vi w), some (vi r), some (vr u), some (vi (σ t 1 - 1)), some (vi i), none, none, none]) (fun _ ρ => ρ) (fun i ρ => 0 ≤ i ∧ i ≤ 8 ∧ fr rgSu σ ρ ∧ iSu ρ) (fun i _ => (8 - i).toNat) ?_ 0 σ ⟨by omega, by omega, fr.rf, hS⟩
  rintro i ρ ⟨i1, i2, f, hS1⟩ ih
  have e1 : ρ t 1 = σ t 1 := f t 1 (by simp only [rgSu]; omega)
  refine ok_iload 7 rfl rfl rfl (ok_aload_n 8 rfl rfl rfl (ok_getI 9 rfl rfl fl_X2_31 (sT ht) rfl (Or.inl rfl) (ok_icmp_ge 10 151 rfl rfl rfl (fun h17 => ?_) (fun h17 => ?_))))
  · have e2 : ρ t 2 = σ t 2 := f t 2 (by simp only [rgSu]; omega)
    have x1 : ∀ k, ρ (u + 4) k = σ (u + 4) k := fun k => f _ _ (by simp only [rgSu]; omega)
    have x2 : ∀ k, ρ u k = σ u k := fun k => f _ _ (by simp only [rgSu]; omega)
    refine ok_aload_n 82 rfl rfl rfl (ok_aload_n 83 rfl rfl rfl (ok_getI 84 rfl rfl fl_X2_15 (sT ht) rfl (Or.inl rfl) (ok_i2l 85 rfl rfl (ok_aload_n 86 rfl rfl rfl (ok_getI 87 rfl rfl fl_X2_31 (sT ht) rfl (Or.inl rfl) (ok_aload 88 rfl rfl rfl (ok_callVI (M' := M_Mk_bring) (as := [_, _, _]) 89 rfl rfl ml_X2_44 (s_Mk_bring hu (by omega) ⟨by omega, by omega⟩ hS1 (iT_cg hU (x2 1) (x2 2) x1).1 (mT_cg hM (x2 1) (x2 3) x1)) rfl rfl (Nat.le_of_ble_eq_true rfl) ⟨Nat.le_of_ble_eq_true rfl, Nat.le_of_ble_eq_true rfl⟩ rfl (Nat.le_of_ble_eq_true rfl) (fun τ z hz => ?_))))))))
    refine ok_zret 90 rfl rfl rfl hz.2.2.2 ?_
    exact ⟨_, rfl, (f.mono (fun c k q => by simp only [rgSu] at q; omega)).tr (hz.1.mono (fun c k q => by simp only [rgBr] at q; omega)), hz.2.1, hz.2.2.1, iSu_cg hS1 (fun k => hz.1 15 k (by simp only [rgBr]; omega)), hz.2.2.2⟩
  · refine ok_iconst 11 rfl rfl (by decide) (ok_ist7 12 rfl rfl rfl ?_)
    have il : i < σ t 1 := by omega
    clear h17
    refine lpO2 (fun (j : Int) (_ : eS) => [some (vr 14), some (vr t), some (vi w), some (vi r), some (vr u), some (vi (σ t 1 - 1)), some (vi i), some (vi j), none, none]) (fun _ ρ => ρ) (fun j ρ => 0 ≤ j ∧ j ≤ 8 ∧ fr rgSu σ ρ ∧ iSu ρ) (fun j _ => (8 - j).toNat) ?_ 0 ρ ⟨by omega, by omega, f, hS1⟩
    clear e1 f hS1 ρ
    rintro j ρ ⟨j1, j2, f, hS1⟩ ih2
    have e1 : ρ t 1 = σ t 1 := f t 1 (by simp only [rgSu]; omega)
    refine ok_iload 13 rfl rfl rfl (ok_aload_n 14 rfl rfl rfl (ok_getI 15 rfl rfl fl_X2_31 (sT ht) rfl (Or.inl rfl) (ok_icmp_ge 16 145 rfl rfl rfl (fun h29 => ?_) (fun h29 => ?_))))
    · refine ok_inc6 80 rfl rfl rfl (by first | omega | (simp [up_if]; omega) | (simp [up_if] at *; omega)) (ok_goto 81 11 rfl rfl rfl ?_)
      exact ok_fg [some (vr 14), some (vr t), some (vi w), some (vi r), some (vr u), some (vi (σ t 1 - 1)), some (vi (i + 1)), none, none, none] ⟨rfl, rfl, rfl, rfl, rfl, rfl, rfl, trivial⟩ (ih (i + 1) ρ ⟨by omega, by omega, f, hS1⟩ (by omega))
    · have jl : j < σ t 1 := by omega
      clear h29
      have tail2 : ∀ a b : Int, 0 ≤ a → a ≤ σ t 1 - 1 → 0 ≤ b → b ≤ σ t 1 - 1 → Ok shA M_Mk_makeTurned 110 [some (vr 14), some (vr t), some (vi w), some (vi r), some (vr u), some (vi (σ t 1 - 1)), some (vi i), some (vi j), some (vi a), none] [vi b] ρ (fun σ' v => ∃ z, v = some (vi z) ∧ fr (fun c _ => c = 15 ∨ c = u ∨ c = u + 4) σ σ' ∧ iT σ' u ∧ mT σ' u ∧ iSu σ' ∧ (z = 0 ∨ z = 1)) := by
        intro a b a1 a2 b1 b2
        refine ok_ist9 60 rfl rfl rfl (ok_aload_n 61 rfl rfl rfl (ok_getR 62 rfl rfl fl_X2_9 rfl rfl (ok_iload 63 rfl rfl rfl (ok_bipush 64 rfl rfl (by decide) (by decide) (ok_imul 65 rfl rfl (by first | omega | (simp [up_if]; omega) | (simp [up_if] at *; omega)) (ok_iload 66 rfl rfl rfl (ok_iadd 67 rfl rfl (by first | omega | (simp [up_if]; omega) | (simp [up_if] at *; omega)) (ok_aload_n 68 rfl rfl rfl (ok_getR 69 rfl rfl fl_X2_34 (sT ht) rfl (ok_iload 70 rfl rfl rfl (ok_bipush 71 rfl rfl (by decide) (by decide) (ok_imul 72 rfl rfl (by first | omega | (simp [up_if]; omega) | (simp [up_if] at *; omega)) (ok_iload 73 rfl rfl rfl (ok_iadd 74 rfl rfl (by first | omega | (simp [up_if]; omega) | (simp [up_if] at *; omega)) (ok_iald 75 rfl rfl (sC ht) (by first | omega | (simp [up_if]; omega) | (simp [up_if] at *; omega)) (ok_i2l 76 rfl rfl (ok_last 77 rfl rfl rfl (by first | omega | (simp [up_if]; omega) | (simp [up_if] at *; omega)) (ok_inc7 78 rfl rfl rfl (by first | omega | (simp [up_if]; omega) | (simp [up_if] at *; omega)) (ok_goto 79 23 rfl rfl rfl ?_)))))))))))))))))))
        have cb := hT.2.2.2 (a * 8 + b) (by omega) (by omega)
        rw [← f (t + 4) (a * 8 + b) (by simp only [rgSu]; omega)] at cb
        exact ok_fg [some (vr 14), some (vr t), some (vi w), some (vi r), some (vr u), some (vi (σ t 1 - 1)), some (vi i), some (vi (j + 1)), none, none] ⟨rfl, rfl, rfl, rfl, rfl, rfl, rfl, rfl, trivial⟩ (ih2 (j + 1) _ ⟨by omega, by omega, fr_up f rfl, up_su hS1 cb.1⟩ (by omega))
      have tail : ∀ a : Int, 0 ≤ a → a ≤ σ t 1 - 1 → Ok shA M_Mk_makeTurned 70 [some (vr 14), some (vr t), some (vi w), some (vi r), some (vr u), some (vi (σ t 1 - 1)), some (vi i), some (vi j), none, none] [vi a] ρ (fun σ' v => ∃ z, v = some (vi z) ∧ fr (fun c _ => c = 15 ∨ c = u ∨ c = u + 4) σ σ' ∧ iT σ' u ∧ mT σ' u ∧ iSu σ' ∧ (z = 0 ∨ z = 1)) := by
        intro a a1 a2
        refine ok_ist8 38 rfl rfl rfl (ok_iload_n 39 rfl rfl rfl (ok_iconst 40 rfl rfl (by decide) (ok_icmp_ne 41 82 rfl rfl rfl (fun h74 => ?_) (fun h74 => ?_))))
        · refine ok_iload 44 rfl rfl rfl (ok_iload_n 45 rfl rfl rfl (ok_iconst 46 rfl rfl (by decide) (ok_icmp_ne 47 93 rfl rfl rfl (fun h86 => ?_) (fun h86 => ?_))))
          · refine ok_iconst 50 rfl rfl (by decide) (ok_iload_n 51 rfl rfl rfl (ok_iconst 52 rfl rfl (by decide) (ok_icmp_ne 53 103 rfl rfl rfl (fun h96 => ?_) (fun h96 => ?_))))
            · refine ok_iconst 56 rfl rfl (by decide) (ok_iload_n 57 rfl rfl rfl (ok_iload 58 rfl rfl rfl (ok_callSI (M' := M_Mk_turnedFrom) (as := [_, _, _, _, _]) 59 rfl rfl ml_X2_48 (s_Mk_turnedFrom ⟨by omega, by omega⟩ (by omega) (by omega)) ⟨Nat.le_of_ble_eq_true rfl, Nat.le_of_ble_eq_true rfl⟩ rfl (Nat.le_of_ble_eq_true rfl) (fun σ' z hz => ?_))))
              obtain ⟨hs_, hz⟩ := hz
              rw [hs_]; clear hs_ σ'
              first | exact tail2 a z a1 a2 hz.1 hz.2 | exact tail2 a i a1 a2 i1 (by omega)
            · refine ok_iconst 54 rfl rfl (by decide) (ok_goto 55 104 rfl rfl rfl (ok_iload_n 57 rfl rfl rfl (ok_iload 58 rfl rfl rfl (ok_callSI (M' := M_Mk_turnedFrom) (as := [_, _, _, _, _]) 59 rfl rfl ml_X2_48 (s_Mk_turnedFrom ⟨by omega, by omega⟩ (by omega) (by omega)) ⟨Nat.le_of_ble_eq_true rfl, Nat.le_of_ble_eq_true rfl⟩ rfl (Nat.le_of_ble_eq_true rfl) (fun σ' z hz => ?_)))))
              obtain ⟨hs_, hz⟩ := hz
              rw [hs_]; clear hs_ σ'
              first | exact tail2 a z a1 a2 hz.1 hz.2 | exact tail2 a i a1 a2 i1 (by omega)
          · refine ok_iconst 48 rfl rfl (by decide) (ok_goto 49 94 rfl rfl rfl (ok_iload_n 51 rfl rfl rfl (ok_iconst 52 rfl rfl (by decide) (ok_icmp_ne 53 103 rfl rfl rfl (fun h96 => ?_) (fun h96 => ?_)))))
            · refine ok_iconst 56 rfl rfl (by decide) (ok_iload_n 57 rfl rfl rfl (ok_iload 58 rfl rfl rfl (ok_callSI (M' := M_Mk_turnedFrom) (as := [_, _, _, _, _]) 59 rfl rfl ml_X2_48 (s_Mk_turnedFrom ⟨by omega, by omega⟩ (by omega) (by omega)) ⟨Nat.le_of_ble_eq_true rfl, Nat.le_of_ble_eq_true rfl⟩ rfl (Nat.le_of_ble_eq_true rfl) (fun σ' z hz => ?_))))
              obtain ⟨hs_, hz⟩ := hz
              rw [hs_]; clear hs_ σ'
              first | exact tail2 a z a1 a2 hz.1 hz.2 | exact tail2 a i a1 a2 i1 (by omega)
            · refine ok_iconst 54 rfl rfl (by decide) (ok_goto 55 104 rfl rfl rfl (ok_iload_n 57 rfl rfl rfl (ok_iload 58 rfl rfl rfl (ok_callSI (M' := M_Mk_turnedFrom) (as := [_, _, _, _, _]) 59 rfl rfl ml_X2_48 (s_Mk_turnedFrom ⟨by omega, by omega⟩ (by omega) (by omega)) ⟨Nat.le_of_ble_eq_true rfl, Nat.le_of_ble_eq_true rfl⟩ rfl (Nat.le_of_ble_eq_true rfl) (fun σ' z hz => ?_)))))
              obtain ⟨hs_, hz⟩ := hz
              rw [hs_]; clear hs_ σ'
              first | exact tail2 a z a1 a2 hz.1 hz.2 | exact tail2 a i a1 a2 i1 (by omega)
        · refine ok_iload 42 rfl rfl rfl (ok_goto 43 110 rfl rfl rfl ?_)
          first | exact tail2 a z a1 a2 hz.1 hz.2 | exact tail2 a i a1 a2 i1 (by omega)
      refine ok_iload_n 17 rfl rfl rfl (ok_iconst 18 rfl rfl (by decide) (ok_icmp_ne 19 42 rfl rfl rfl (fun h34 => ?_) (fun h34 => ?_)))
      · refine ok_iload 22 rfl rfl rfl (ok_iload_n 23 rfl rfl rfl (ok_iconst 24 rfl rfl (by decide) (ok_icmp_ne 25 53 rfl rfl rfl (fun h46 => ?_) (fun h46 => ?_))))
        · refine ok_iconst 28 rfl rfl (by decide) (ok_iload_n 29 rfl rfl rfl (ok_iconst 30 rfl rfl (by decide) (ok_icmp_ne 31 63 rfl rfl rfl (fun h56 => ?_) (fun h56 => ?_))))
          · refine ok_iconst 34 rfl rfl (by decide) (ok_iload_n 35 rfl rfl rfl (ok_iload 36 rfl rfl rfl (ok_callSI (M' := M_Mk_turnedFrom) (as := [_, _, _, _, _]) 37 rfl rfl ml_X2_48 (s_Mk_turnedFrom ⟨by omega, by omega⟩ (by omega) (by omega)) ⟨Nat.le_of_ble_eq_true rfl, Nat.le_of_ble_eq_true rfl⟩ rfl (Nat.le_of_ble_eq_true rfl) (fun σ' z hz => ?_))))
            obtain ⟨hs_, hz⟩ := hz
            rw [hs_]; clear hs_ σ'
            first | exact tail z hz.1 hz.2 | exact tail j j1 (by omega)
          · refine ok_iconst 32 rfl rfl (by decide) (ok_goto 33 64 rfl rfl rfl (ok_iload_n 35 rfl rfl rfl (ok_iload 36 rfl rfl rfl (ok_callSI (M' := M_Mk_turnedFrom) (as := [_, _, _, _, _]) 37 rfl rfl ml_X2_48 (s_Mk_turnedFrom ⟨by omega, by omega⟩ (by omega) (by omega)) ⟨Nat.le_of_ble_eq_true rfl, Nat.le_of_ble_eq_true rfl⟩ rfl (Nat.le_of_ble_eq_true rfl) (fun σ' z hz => ?_)))))
            obtain ⟨hs_, hz⟩ := hz
            rw [hs_]; clear hs_ σ'
            first | exact tail z hz.1 hz.2 | exact tail j j1 (by omega)
        · refine ok_iconst 26 rfl rfl (by decide) (ok_goto 27 54 rfl rfl rfl (ok_iload_n 29 rfl rfl rfl (ok_iconst 30 rfl rfl (by decide) (ok_icmp_ne 31 63 rfl rfl rfl (fun h56 => ?_) (fun h56 => ?_)))))
          · refine ok_iconst 34 rfl rfl (by decide) (ok_iload_n 35 rfl rfl rfl (ok_iload 36 rfl rfl rfl (ok_callSI (M' := M_Mk_turnedFrom) (as := [_, _, _, _, _]) 37 rfl rfl ml_X2_48 (s_Mk_turnedFrom ⟨by omega, by omega⟩ (by omega) (by omega)) ⟨Nat.le_of_ble_eq_true rfl, Nat.le_of_ble_eq_true rfl⟩ rfl (Nat.le_of_ble_eq_true rfl) (fun σ' z hz => ?_))))
            obtain ⟨hs_, hz⟩ := hz
            rw [hs_]; clear hs_ σ'
            first | exact tail z hz.1 hz.2 | exact tail j j1 (by omega)
          · refine ok_iconst 32 rfl rfl (by decide) (ok_goto 33 64 rfl rfl rfl (ok_iload_n 35 rfl rfl rfl (ok_iload 36 rfl rfl rfl (ok_callSI (M' := M_Mk_turnedFrom) (as := [_, _, _, _, _]) 37 rfl rfl ml_X2_48 (s_Mk_turnedFrom ⟨by omega, by omega⟩ (by omega) (by omega)) ⟨Nat.le_of_ble_eq_true rfl, Nat.le_of_ble_eq_true rfl⟩ rfl (Nat.le_of_ble_eq_true rfl) (fun σ' z hz => ?_)))))
            obtain ⟨hs_, hz⟩ := hz
            rw [hs_]; clear hs_ σ'
            first | exact tail z hz.1 hz.2 | exact tail j j1 (by omega)
      · refine ok_iload 20 rfl rfl rfl (ok_goto 21 70 rfl rfl rfl ?_)
        first | exact tail z hz.1 hz.2 | exact tail j j1 (by omega)
