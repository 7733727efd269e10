def lcS (a b l : Int) : Int := if a < 1 ∨ b < 1 then -1 else if l < a / (Int.gcd a b : Int) * b then -1 else a / (Int.gcd a b : Int) * b
theorem t_Nu_leastMultiple {σ : eS} {a b l : Int} (ha : a ≤ 9999999999) (hb : b ≤ 9999999999) (hl : 1 ≤ l ∧ l ≤ 9999999999) : MtL shA M_Nu_leastMultiple [vl a, vl b, vl l] σ (fun σ' z => σ' = σ ∧ z = lcS a b l ∧ (z = -1 ∨ (1 ≤ z ∧ z ≤ l))) := by
  refine Mt.of okM_Nu_leastMultiple (Nat.le_of_ble_eq_true rfl) (fun hk hg => ?_)
  refine ok_lload_n 0 rfl rfl rfl (ok_lconst (w := 1) 1 rfl rfl rfl (by decide) (ok_lcmp_lt 2 3 12 rfl rfl rfl rfl rfl (fun h2 => ?_) (fun h2 => ?_)))
  · refine ok_ldc2 8 (-1) rfl rfl kc_X4_9 (by decide) (ok_lret 9 rfl rfl rfl ?_)
    exact ⟨_, rfl, rfl, by unfold lcS; rw [if_pos (by omega)], Or.inl rfl⟩
  · refine ok_lload_n 4 rfl rfl rfl (ok_lconst (w := 1) 5 rfl rfl rfl (by decide) (ok_lcmp_ge 6 7 16 rfl rfl rfl rfl rfl (fun h8 => ?_) (fun h8 => ?_)))
    · obtain ⟨g1, g2⟩ := gcd_pos (a := a) (b := b) (by omega)
      have hs : lcS a b l = if l < a / (Int.gcd a b : Int) * b then -1 else a / (Int.gcd a b : Int) * b := by unfold lcS; rw [if_neg (by omega)]
      obtain ⟨g, eg⟩ : ∃ g : Int, g = (Int.gcd a b : Int) := ⟨_, rfl⟩
      rw [← eg] at g1 g2 hs
      have d1 := gcd_div (u := a) (g := g) (by omega) g1 g2
      have d2 := div_bd (u := l) (g := b) (B := 9999999999) ⟨by omega, by omega⟩ (by omega)
      refine ok_lload_n 10 rfl rfl rfl (ok_lload_n 11 rfl rfl rfl (ok_lload_n 12 rfl rfl rfl (ok_callSL (M' := M_Nu_greatestDivisor) (as := [_, _]) 13 rfl rfl ml_X4_11 (s_Nu_greatestDivisor (by omega) ⟨by omega, by omega⟩) ⟨Nat.le_of_ble_eq_true rfl, Nat.le_of_ble_eq_true rfl⟩ rfl (Nat.le_of_ble_eq_true rfl) (fun σ' z hz => ?_))))
      rw [hz.1, hz.2]
      clear hz z σ'
      rw [← eg]
      refine ok_ldiv 14 rfl rfl (by first | omega | (simp [up_if]; omega) | (simp [up_if] at *; omega)) (by first | omega | (simp [up_if]; omega) | (simp [up_if] at *; omega)) (ok_lst6 15 rfl rfl rfl (ok_lload 16 rfl rfl rfl (ok_lload 17 rfl rfl rfl (ok_lload_n 18 rfl rfl rfl (ok_ldiv 19 rfl rfl (by first | omega | (simp [up_if]; omega) | (simp [up_if] at *; omega)) (by first | omega | (simp [up_if]; omega) | (simp [up_if] at *; omega)) (ok_lcmp_le 20 21 41 rfl rfl rfl rfl rfl (fun h31 => ?_) (fun h31 => ?_)))))))
      · have m : b * (a / g) ≤ l := mul_le_div (by omega) (by omega)
        rw [Int.mul_comm] at m
        have m1 : 1 * 1 ≤ a / g * b := Int.mul_le_mul (by omega) (by omega) (by decide) (by omega)
        refine ok_lload 24 rfl rfl rfl (ok_lload_n 25 rfl rfl rfl (ok_lmul 26 rfl rfl (by first | omega | (simp [up_if]; omega) | (simp [up_if] at *; omega)) (ok_lret 27 rfl rfl rfl ?_)))
        exact ⟨_, rfl, rfl, by rw [hs, if_neg (by omega)], Or.inr ⟨by omega, by omega⟩⟩
      · refine ok_ldc2 22 (-1) rfl rfl kc_X4_9 (by decide) (ok_goto 23 45 rfl rfl rfl (ok_lret 27 rfl rfl rfl ?_))
        refine ⟨_, rfl, rfl, ?_, Or.inl rfl⟩
        rw [hs]
        rw [if_pos]
        rcases (by omega : l < a / g * b ∨ a / g * b ≤ l) with q | q
        · exact q
        · have := Int.le_ediv_of_mul_le (by omega : 0 < b) q
          omega
    · refine ok_ldc2 8 (-1) rfl rfl kc_X4_9 (by decide) (ok_lret 9 rfl rfl rfl ?_)
      exact ⟨_, rfl, rfl, by unfold lcS; rw [if_pos (by omega)], Or.inl rfl⟩
/-- the common number below, row by row; -1: beyond -/
def cbR (un : Int → Int) (i v : Int) : Nat → Int
  | 0 => v
  | j + 1 => lcS (cbR un i v j) (un (i * 8 + j)) 999999
def cbC (un : Int → Int) (n : Nat) : Nat → Int
  | 0 => 1
  | i + 1 => cbR un i (cbC un n i) n
theorem cbR_s {un : Int → Int} {i v j : Int} (h : 0 ≤ j) : cbR un i v (j + 1).toNat = lcS (cbR un i v j.toNat) (un (i * 8 + j)) 999999 := by
  rw [show (j + 1).toNat = j.toNat + 1 by omega, cbR, show ((j.toNat : Nat) : Int) = j by omega]
theorem cbC_s {un : Int → Int} {n : Nat} {i : Int} (h : 0 ≤ i) : cbC un n (i + 1).toNat = cbR un i (cbC un n i.toNat) n := by
  rw [show (i + 1).toNat = i.toNat + 1 by omega, cbC, show ((i.toNat : Nat) : Int) = i by omega]
theorem t_Tp_commonBelow {σ : eS} (h : uRA σ) : MtI shA M_Tp_commonBelow [vr 10] σ (fun σ' z => σ' = σ ∧ z = cbC (σ 13) (σ 10 7).toNat (σ 10 7).toNat ∧ (z = -1 ∨ (1 ≤ z ∧ z ≤ 999999))) := by
  refine Mt.of okM_Tp_commonBelow (Nat.le_of_ble_eq_true rfl) (fun hk hg => ?_)
  obtain ⟨h1, h2, hu⟩ := h
  refine ok_lconst (w := 1) 0 rfl rfl rfl (by decide) (ok_lst1 1 rfl rfl rfl (ok_iconst 2 rfl rfl (by decide) (ok_ist3 3 rfl rfl rfl ?_)))
  refine lpO2 (fun (v i : Int) => [some (vr 10), some (vl v), none, some (vi i), none]) (fun _ _ => σ) (fun v i => 0 ≤ i ∧ i ≤ σ 10 7 ∧ (v = -1 ∨ (1 ≤ v ∧ v ≤ 999999)) ∧ v = cbC (σ 13) (σ 10 7).toNat i.toNat) (fun _ i => (8 - i).toNat) ?_ 1 0 ⟨by omega, by omega, by omega, rfl⟩
  rintro v i ⟨i1, i2, hv, ev⟩ ih
  refine ok_iload_n 4 rfl rfl rfl (ok_aload_n 5 rfl rfl rfl (ok_getI 6 rfl rfl fl_X10_34 rfl rfl (Or.inl rfl) (ok_icmp_ge 7 57 rfl rfl rfl (fun h9 => ?_) (fun h9 => ?_))))
  · refine ok_lload_n 31 rfl rfl rfl (ok_l2i 32 rfl rfl (by first | omega | (simp [up_if]; omega) | (simp [up_if] at *; omega)) (ok_iret 33 rfl rfl rfl ?_))
    exact ⟨_, rfl, rfl, by rw [ev, show i = σ 10 7 by omega], hv⟩
  · refine ok_iconst 8 rfl rfl (by decide) (ok_ist4 9 rfl rfl rfl ?_)
    refine lpO2 (fun (v' j : Int) => [some (vr 10), some (vl v'), none, some (vi i), some (vi j)]) (fun _ _ => σ) (fun v' j => 0 ≤ j ∧ j ≤ σ 10 7 ∧ (v' = -1 ∨ (1 ≤ v' ∧ v' ≤ 999999)) ∧ v' = cbR (σ 13) i v j.toNat) (fun _ j => (8 - j).toNat) ?_ v 0 ⟨by omega, by omega, hv, rfl⟩
    rintro v' j ⟨j1, j2, hv', ev'⟩ ih2
    refine ok_iload 10 rfl rfl rfl (ok_aload_n 11 rfl rfl rfl (ok_getI 12 rfl rfl fl_X10_34 rfl rfl (Or.inl rfl) (ok_icmp_ge 13 51 rfl rfl rfl (fun h21 => ?_) (fun h21 => ?_))))
    · refine ok_inc3 29 rfl rfl rfl (by first | omega | (simp [up_if]; omega) | (simp [up_if] at *; omega)) (ok_goto 30 4 rfl rfl rfl ?_)
      exact ok_fg [some (vr 10), some (vl v'), none, some (vi (i + 1)), none] ⟨rfl, rfl, rfl, trivial⟩ (ih v' (i + 1) ⟨by omega, by omega, hv', by rw [cbC_s i1, ← ev, ev', show j = σ 10 7 by omega]⟩ (by omega))
    · have hk := hu i j i1 (by omega) j1 (by omega)
      obtain ⟨u1, u2, -⟩ := hk
      refine ok_lload_n 14 rfl rfl rfl (ok_aload_n 15 rfl rfl rfl (ok_getR 16 rfl rfl fl_X10_18 rfl rfl (ok_iload_n 17 rfl rfl rfl (ok_bipush 18 rfl rfl (by decide) (by decide) (ok_imul 19 rfl rfl (by first | omega | (simp [up_if]; omega) | (simp [up_if] at *; omega)) (ok_iload 20 rfl rfl rfl (ok_iadd 21 rfl rfl (by first | omega | (simp [up_if]; omega) | (simp [up_if] at *; omega)) (ok_iald 22 rfl rfl rfl (by first | omega | (simp [up_if]; omega) | (simp [up_if] at *; omega)) (ok_i2l 23 rfl rfl (ok_ldc2 24 (999999) rfl rfl kc_X10_113 (by decide) (ok_callSL (M' := M_Nu_leastMultiple) (as := [_, _, _]) 25 rfl rfl ml_X10_115 (t_Nu_leastMultiple (by omega) (by omega) ⟨by omega, by omega⟩) ⟨Nat.le_of_ble_eq_true rfl, Nat.le_of_ble_eq_true rfl⟩ rfl (Nat.le_of_ble_eq_true rfl) (fun σ' z hz => ?_))))))))))))
      obtain ⟨hs_, hz⟩ := hz
      rw [hs_]; clear hs_ σ'
      refine ok_lst1 26 rfl rfl rfl (ok_inc4 27 rfl rfl rfl (by first | omega | (simp [up_if]; omega) | (simp [up_if] at *; omega)) (ok_goto 28 15 rfl rfl rfl ?_))
      exact ih2 _ (j + 1) ⟨by omega, by omega, hz.2, by rw [cbR_s j1, ← ev']; exact hz.1⟩ (by omega)
def cOk (ab un : Int → Int) (b n : Int) : Prop := ∀ i j, 0 ≤ i → i < n → 0 ≤ j → j < n → ab (i * 8 + j) * (b / un (i * 8 + j)) ≤ 99999999
theorem t_Tp_areCells {σ : eS} {b : Int} (h : uRA σ) (hb : 1 ≤ b ∧ b ≤ 999999) : MtI shA M_Tp_areCells [vr 10, vi b] σ (fun σ' z => σ' = σ ∧ ((z = 0 ∧ ¬ cOk (σ 12) (σ 13) b (σ 10 7)) ∨ (z = 1 ∧ cOk (σ 12) (σ 13) b (σ 10 7)))) := by
  refine Mt.of okM_Tp_areCells (Nat.le_of_ble_eq_true rfl) (fun hk hg => ?_)
  obtain ⟨h1, h2, hu⟩ := h
  refine ok_iconst 0 rfl rfl (by decide) (ok_ist2 1 rfl rfl rfl ?_)
  refine lpO (fun (i : Int) => [some (vr 10), some (vi b), some (vi i), none, none]) (fun _ => σ) (fun i => 0 ≤ i ∧ i ≤ σ 10 7 ∧ ∀ i', 0 ≤ i' → i' < i → ∀ j, 0 ≤ j → j < σ 10 7 → σ 12 (i' * 8 + j) * (b / σ 13 (i' * 8 + j)) ≤ 99999999) (fun i => (8 - i).toNat) ?_ 0 ⟨by omega, by omega, fun i' a c => by omega⟩
  rintro i ⟨i1, i2, hv⟩ ih
  refine ok_iload_n 2 rfl rfl rfl (ok_aload_n 3 rfl rfl rfl (ok_getI 4 rfl rfl fl_X10_34 rfl rfl (Or.inl rfl) (ok_icmp_ge 5 68 rfl rfl rfl (fun h7 => ?_) (fun h7 => ?_))))
  · refine ok_iconst 40 rfl rfl (by decide) (ok_zret 41 rfl rfl rfl (by first | omega | (simp [up_if]; omega) | (simp [up_if] at *; omega)) ?_)
    exact ⟨_, rfl, rfl, Or.inr ⟨rfl, fun i' j a c d e => hv i' a (by omega) j d e⟩⟩
  · refine ok_iconst 6 rfl rfl (by decide) (ok_ist3 7 rfl rfl rfl ?_)
    refine lpO (fun (j : Int) => [some (vr 10), some (vi b), some (vi i), some (vi j), none]) (fun _ => σ) (fun j => 0 ≤ j ∧ j ≤ σ 10 7 ∧ ∀ j', 0 ≤ j' → j' < j → σ 12 (i * 8 + j') * (b / σ 13 (i * 8 + j')) ≤ 99999999) (fun j => (8 - j).toNat) ?_ 0 ⟨by omega, by omega, fun j' a c => by omega⟩
    rintro j ⟨j1, j2, hw⟩ ih2
    refine ok_iload_n 8 rfl rfl rfl (ok_aload_n 9 rfl rfl rfl (ok_getI 10 rfl rfl fl_X10_34 rfl rfl (Or.inl rfl) (ok_icmp_ge 11 62 rfl rfl rfl (fun h17 => ?_) (fun h17 => ?_))))
    · refine ok_inc2 38 rfl rfl rfl (by first | omega | (simp [up_if]; omega) | (simp [up_if] at *; omega)) (ok_goto 39 2 rfl rfl rfl ?_)
      exact ok_fg [some (vr 10), some (vi b), some (vi (i + 1)), none, none] ⟨rfl, rfl, rfl, trivial⟩ (ih (i + 1) ⟨by omega, by omega, lt_ext hv (fun j' a c => hw j' a (by omega))⟩ (by omega))
    · obtain ⟨u1, u2, u3, u4⟩ := hu i j i1 (by omega) j1 (by omega)
      have d := div_bd (u := b) (g := σ 13 (i * 8 + j)) (B := 999999) ⟨by omega, by omega⟩ u1
      have m := mul_bd (a := σ 12 (i * 8 + j)) (b := b / σ 13 (i * 8 + j)) (A := 999999) (B := 999999) ⟨u3, u4⟩ d
      refine ok_iload_n 12 rfl rfl rfl (ok_bipush 13 rfl rfl (by decide) (by decide) (ok_imul 14 rfl rfl (by first | omega | (simp [up_if]; omega) | (simp [up_if] at *; omega)) (ok_iload_n 15 rfl rfl rfl (ok_iadd 16 rfl rfl (by first | omega | (simp [up_if]; omega) | (simp [up_if] at *; omega)) (ok_ist4 17 rfl rfl rfl (ok_aload_n 18 rfl rfl rfl (ok_getR 19 rfl rfl fl_X10_15 rfl rfl (ok_iload 20 rfl rfl rfl (ok_iald 21 rfl rfl rfl (by first | omega | (simp [up_if]; omega) | (simp [up_if] at *; omega)) (ok_i2l 22 rfl rfl (ok_iload_n 23 rfl rfl rfl (ok_aload_n 24 rfl rfl rfl (ok_getR 25 rfl rfl fl_X10_18 rfl rfl (ok_iload 26 rfl rfl rfl (ok_iald 27 rfl rfl rfl (by first | omega | (simp [up_if]; omega) | (simp [up_if] at *; omega)) (ok_idiv 28 rfl rfl (by first | omega | (simp [up_if]; omega) | (simp [up_if] at *; omega)) (by first | omega | (simp [up_if]; omega) | (simp [up_if] at *; omega)) (ok_i2l 29 rfl rfl (ok_lmul 30 rfl rfl (by first | omega | (simp [up_if]; omega) | (simp [up_if] at *; omega)) (ok_ldc2 31 (99999999) rfl rfl kc_X10_119 (by decide) (ok_lcmp_le 32 33 56 rfl rfl rfl rfl rfl (fun h50 => ?_) (fun h50 => ?_)))))))))))))))))))))
      · refine ok_inc3 36 rfl rfl rfl (by first | omega | (simp [up_if]; omega) | (simp [up_if] at *; omega)) (ok_goto 37 12 rfl rfl rfl ?_)
        exact ok_fg [some (vr 10), some (vi b), some (vi i), some (vi (j + 1)), none] ⟨rfl, rfl, rfl, rfl, trivial⟩ (ih2 (j + 1) ⟨by omega, by omega, lt_ext hw (by omega)⟩ (by omega))
      · refine ok_iconst 34 rfl rfl (by decide) (ok_zret 35 rfl rfl rfl (by first | omega | (simp [up_if]; omega) | (simp [up_if] at *; omega)) ?_)
        exact ⟨_, rfl, rfl, Or.inl ⟨rfl, fun q => by have := q i j i1 (by omega) j1 (by omega); omega⟩⟩
