def gF (σ : eS) : Nat → Int
  | 0 => σ 0 4
  | k + 1 => (Int.gcd (gF σ k) (σ 4 k) : Int)
theorem gF_s (σ : eS) {k : Int} (h : 0 ≤ k) : gF σ (k + 1).toNat = (Int.gcd (gF σ k.toNat) (σ 4 k) : Int) := by
  have : (k + 1).toNat = k.toNat + 1 := by omega
  rw [this]
  show ((Int.gcd (gF σ k.toNat) (σ 4 ((k.toNat : Nat) : Int)) : Nat) : Int) = _
  rw [Int.toNat_of_nonneg h]
theorem gF_bd {σ : eS} (h : 1 ≤ σ 0 4) : ∀ k : Nat, 1 ≤ gF σ k ∧ gF σ k ≤ σ 0 4
  | 0 => ⟨h, Int.le_refl _⟩
  | k + 1 => by
    have h1 := gF_bd h k
    have h2 := gcd_pos (a := gF σ k) (b := σ 4 k) (by omega)
    show 1 ≤ (Int.gcd (gF σ k) (σ 4 k) : Int) ∧ _
    exact ⟨h2.1, Int.le_trans h2.2 h1.2⟩
/-- a table written into a slot: size, below, and the first j cells -/
def tw (σ : eS) (s n b g j : Int) : eS := fun c k => if c = 1 ∧ k = s then n else if c = 2 ∧ k = s then b else if c = 3 ∧ 64 * s ≤ k ∧ k < 64 * s + j then σ 4 (k - 64 * s) / g else σ c k
theorem tw_0 (σ : eS) (s n b g : Int) : up (up σ 1 s n) 2 s b = tw σ s n b g 0 := by
  funext c k
  simp only [up_if, tw]
  by_cases h1 : c = 1 ∧ k = s
  · rw [if_neg (by omega), if_pos h1, if_pos h1]
  · by_cases h2 : c = 2 ∧ k = s
    · rw [if_pos h2, if_neg h1, if_pos h2]
    · rw [if_neg h2, if_neg h1, if_neg h1, if_neg h2, if_neg (by omega)]
theorem tw_s {σ : eS} {s n b g j : Int} (h : 0 ≤ j) : up (tw σ s n b g j) 3 (64 * s + j) (σ 4 j / g) = tw σ s n b g (j + 1) := by
  funext c k
  simp only [up_if, tw]
  by_cases h1 : c = 3 ∧ k = 64 * s + j
  · rw [if_pos h1, if_neg (by omega), if_neg (by omega), if_pos ⟨h1.1, by omega, by omega⟩, h1.2]
    congr 2
    omega
  · rw [if_neg h1]
    by_cases h2 : c = 1 ∧ k = s
    · rw [if_pos h2, if_pos h2]
    · rw [if_neg h2, if_neg h2]
      by_cases h3 : c = 2 ∧ k = s
      · rw [if_pos h3, if_pos h3]
      · rw [if_neg h3, if_neg h3]
        by_cases h4 : c = 3 ∧ 64 * s ≤ k ∧ k < 64 * s + j
        · rw [if_pos h4, if_pos ⟨h4.1, by omega, by omega⟩]
        · rw [if_neg h4, if_neg (by omega)]
def fitT (σ : eS) (n : Int) : Prop := σ 0 4 / gF σ (n * n).toNat ≤ 999999 ∧ ∀ k, 0 ≤ k → k < n * n → σ 4 k / gF σ (n * n).toNat ≤ 99999999
def Qtk (σ : eS) (s n : Int) (σ' : eS) (z : Int) : Prop := (z = 0 ∧ σ' = σ ∧ ¬ fitT σ n) ∨ (z = 1 ∧ σ' = tw σ s n (if n = 0 then 0 else σ 0 4 / gF σ (n * n).toNat) (gF σ (n * n).toNat) (n * n) ∧ fitT σ n)
theorem s_Mo_takes {σ : eS} {s n : Int} (hs : 0 ≤ s ∧ s < 4) (hn : 0 ≤ n ∧ n ≤ 8) (hb : 1 ≤ σ 0 4) (hf : ∀ k, 0 ≤ k → k < n * n → 0 ≤ σ 4 k) : MtI shB M_Mo_takes [vr 0, vi s, vi n] σ (Qtk σ s n) := by
  refine Mt.of okM_Mo_takes (Nat.le_of_ble_eq_true rfl) (fun hk hg => ?_)
  obtain ⟨q1, q2⟩ := sq8 hn
  obtain ⟨G, eG⟩ : ∃ x, x = gF σ (n * n).toNat := ⟨_, rfl⟩
  obtain ⟨gp, gl⟩ := gF_bd hb (n * n).toNat
  rw [← eG] at gp gl
  have tail : ∀ b : Int, b = (if n = 0 then 0 else σ 0 4 / G) → fitT σ n → Ok shB M_Mo_takes 112 [some (vr 0), some (vi s), some (vi n), some (vl G), none, some (vi (n * n))] [] (tw σ s n b G 0) (fun σ' v => ∃ z, v = some (vi z) ∧ Qtk σ s n σ' z) := by
    intro b hbb hft
    refine ok_iconst 66 rfl rfl (by decide) (ok_ist5 67 rfl rfl rfl ?_)
    refine lpO (fun j : Int => [some (vr 0), some (vi s), some (vi n), some (vl G), none, some (vi j)]) (fun j => tw σ s n b G j) (fun j => 0 ≤ j ∧ j ≤ n * n) (fun j => (n * n - j).toNat) ?_ 0 ⟨by omega, by omega⟩
    rintro j ⟨h1, h2⟩ ih
    have e4 : ∀ k, tw σ s n b G j 4 k = σ 4 k := fun k => by simp [tw]
    refine ok_iload 68 rfl rfl rfl (ok_iload_n 69 rfl rfl rfl (ok_iload_n 70 rfl rfl rfl (ok_imul 71 rfl rfl (by first | omega | (simp [up_if]; omega) | (simp [up_if] at *; omega)) (ok_icmp_ge 72 151 rfl rfl rfl (fun h120 => ?_) (fun h120 => ?_)))))
    · refine ok_iconst 90 rfl rfl (by decide) (ok_zret 91 rfl rfl rfl (by first | omega | (simp [up_if]; omega) | (simp [up_if] at *; omega)) ?_)
      exact ⟨_, rfl, Or.inr ⟨rfl, by rw [← eG, ← hbb, show j = n * n by omega], hft⟩⟩
    · have d1 := hf j h1 h120
      have d2 := Int.ediv_nonneg d1 (by omega : 0 ≤ G)
      have d3 := hft.2 j h1 h120
      rw [← eG] at d3
      refine ok_aload_n 73 rfl rfl rfl (ok_getR 74 rfl rfl fl_X12_16 rfl rfl (ok_bipush 75 rfl rfl (by decide) (by decide) (ok_iload_n 76 rfl rfl rfl (ok_imul 77 rfl rfl (by first | omega | (simp [up_if]; omega) | (simp [up_if] at *; omega)) (ok_iload 78 rfl rfl rfl (ok_iadd 79 rfl rfl (by first | omega | (simp [up_if]; omega) | (simp [up_if] at *; omega)) (ok_aload_n 80 rfl rfl rfl (ok_getR 81 rfl rfl fl_X12_19 rfl rfl (ok_iload 82 rfl rfl rfl (ok_lald 83 rfl rfl rfl (by first | omega | (simp [up_if]; omega) | (simp [up_if] at *; omega)) (ok_lload_n 84 rfl rfl rfl (ok_ldiv 85 rfl rfl (by rw [e4]; omega) (by omega) (ok_l2i 86 rfl rfl (by rw [e4]; omega) (ok_iast 87 rfl rfl rfl (by first | omega | (simp [up_if]; omega) | (simp [up_if] at *; omega)) (ok_inc5 88 rfl rfl rfl (by first | omega | (simp [up_if]; omega) | (simp [up_if] at *; omega)) (ok_goto 89 115 rfl rfl rfl ?_))))))))))))))))
      rw [e4, tw_s h1]
      exact ih (j + 1) ⟨by omega, by omega⟩ (by omega)
  refine ok_aload_n 0 rfl rfl rfl (ok_getL 1 rfl rfl fl_X12_85 rfl rfl (ok_lst3 2 rfl rfl rfl (ok_iconst 3 rfl rfl (by decide) (ok_ist5 4 rfl rfl rfl ?_))))
  refine lpO (fun j : Int => [some (vr 0), some (vi s), some (vi n), some (vl (gF σ j.toNat)), none, some (vi j)]) (fun _ => σ) (fun j => 0 ≤ j ∧ j ≤ n * n) (fun j => (n * n - j).toNat) ?_ 0 ⟨by omega, by omega⟩
  rintro j ⟨h1, h2⟩ ih
  obtain ⟨gp', gl'⟩ := gF_bd hb j.toNat
  refine ok_iload 5 rfl rfl rfl (ok_iload_n 6 rfl rfl rfl (ok_iload_n 7 rfl rfl rfl (ok_imul 8 rfl rfl (by first | omega | (simp [up_if]; omega) | (simp [up_if] at *; omega)) (ok_icmp_ge 9 34 rfl rfl rfl (fun h13 => ?_) (fun h13 => ?_)))))
  · rw [show j = n * n by omega, ← eG]
    have b0 := Int.ediv_nonneg (by omega : 0 ≤ σ 0 4) (by omega : 0 ≤ G)
    refine ok_aload_n 19 rfl rfl rfl (ok_getL 20 rfl rfl fl_X12_85 rfl rfl (ok_lload_n 21 rfl rfl rfl (ok_ldiv 22 rfl rfl (by first | omega | (simp [up_if]; omega) | (simp [up_if] at *; omega)) (by first | omega | (simp [up_if]; omega) | (simp [up_if] at *; omega)) (ok_ldc2 23 (999999) rfl rfl kc_X12_93 (by decide) (ok_lcmp_le 24 25 49 rfl rfl rfl rfl rfl (fun h43 => ?_) (fun h43 => ?_))))))
    · refine ok_iconst 28 rfl rfl (by decide) (ok_ist5 29 rfl rfl rfl ?_)
      refine lpO (fun j : Int => [some (vr 0), some (vi s), some (vi n), some (vl G), none, some (vi j)]) (fun _ => σ) (fun j => 0 ≤ j ∧ j ≤ n * n ∧ ∀ k, 0 ≤ k → k < j → σ 4 k / G ≤ 99999999) (fun j => (n * n - j).toNat) ?_ 0 ⟨by omega, by omega, fun k a b => by omega⟩
      rintro j ⟨i1, i2, i3⟩ ih
      refine ok_iload 30 rfl rfl rfl (ok_iload_n 31 rfl rfl rfl (ok_iload_n 32 rfl rfl rfl (ok_imul 33 rfl rfl (by first | omega | (simp [up_if]; omega) | (simp [up_if] at *; omega)) (ok_icmp_ge 34 84 rfl rfl rfl (fun h57 => ?_) (fun h57 => ?_)))))
      · refine ok_aload_n 48 rfl rfl rfl (ok_getR 49 rfl rfl fl_X12_7 rfl rfl (ok_iload_n 50 rfl rfl rfl (ok_iload_n 51 rfl rfl rfl (ok_iast 52 rfl rfl rfl (by first | omega | (simp [up_if]; omega) | (simp [up_if] at *; omega)) (ok_aload_n 53 rfl rfl rfl (ok_getR 54 rfl rfl fl_X12_13 rfl rfl (ok_iload_n 55 rfl rfl rfl (ok_iload_n 56 rfl rfl rfl (ok_if_ne 57 104 rfl rfl rfl (fun h97 => ?_) (fun h97 => ?_))))))))))
        · refine ok_aload_n 60 rfl rfl rfl (ok_getL 61 rfl rfl fl_X12_85 rfl rfl (ok_lload_n 62 rfl rfl rfl (ok_ldiv 63 rfl rfl (by first | omega | (simp [up_if]; omega) | (simp [up_if] at *; omega)) (by first | omega | (simp [up_if]; omega) | (simp [up_if] at *; omega)) (ok_l2i 64 rfl rfl (by first | omega | (simp [up_if]; omega) | (simp [up_if] at *; omega)) (ok_iast 65 rfl rfl rfl (by first | omega | (simp [up_if]; omega) | (simp [up_if] at *; omega)) ?_)))))
          have hft : fitT σ n := ⟨by rw [← eG]; omega, fun k a b => by rw [← eG]; exact i3 k a (by omega)⟩
          rw [show j = n * n by omega]
          first | (rw [tw_0 σ s n 0 G]; exact tail 0 (by rw [if_pos (by omega)]) hft) | (simp only [up_ne _ _ _ _ (show (0 : Nat) ≠ 1 by decide)]; rw [tw_0 σ s n _ G]; exact tail _ (by rw [if_neg (by omega)]) hft)
        · refine ok_iconst 58 rfl rfl (by decide) (ok_goto 59 111 rfl rfl rfl (ok_iast 65 rfl rfl rfl (by first | omega | (simp [up_if]; omega) | (simp [up_if] at *; omega)) ?_))
          have hft : fitT σ n := ⟨by rw [← eG]; omega, fun k a b => by rw [← eG]; exact i3 k a (by omega)⟩
          rw [show j = n * n by omega]
          first | (rw [tw_0 σ s n 0 G]; exact tail 0 (by rw [if_pos (by omega)]) hft) | (simp only [up_ne _ _ _ _ (show (0 : Nat) ≠ 1 by decide)]; rw [tw_0 σ s n _ G]; exact tail _ (by rw [if_neg (by omega)]) hft)
      · have d1 := hf j i1 h57
        refine ok_aload_n 35 rfl rfl rfl (ok_getR 36 rfl rfl fl_X12_19 rfl rfl (ok_iload 37 rfl rfl rfl (ok_lald 38 rfl rfl rfl (by first | omega | (simp [up_if]; omega) | (simp [up_if] at *; omega)) (ok_lload_n 39 rfl rfl rfl (ok_ldiv 40 rfl rfl (by first | omega | (simp [up_if]; omega) | (simp [up_if] at *; omega)) (by first | omega | (simp [up_if]; omega) | (simp [up_if] at *; omega)) (ok_ldc2 41 (99999999) rfl rfl kc_X12_95 (by decide) (ok_lcmp_le 42 43 78 rfl rfl rfl rfl rfl (fun h72 => ?_) (fun h72 => ?_))))))))
        · refine ok_inc5 46 rfl rfl rfl (by first | omega | (simp [up_if]; omega) | (simp [up_if] at *; omega)) (ok_goto 47 52 rfl rfl rfl ?_)
          exact ih (j + 1) ⟨by omega, by omega, lt_ext i3 h72⟩ (by omega)
        · refine ok_iconst 44 rfl rfl (by decide) (ok_zret 45 rfl rfl rfl (by first | omega | (simp [up_if]; omega) | (simp [up_if] at *; omega)) ?_)
          exact ⟨_, rfl, Or.inl ⟨rfl, rfl, fun q => by have := q.2 j i1 h57; rw [← eG] at this; omega⟩⟩
    · refine ok_iconst 26 rfl rfl (by decide) (ok_zret 27 rfl rfl rfl (by first | omega | (simp [up_if]; omega) | (simp [up_if] at *; omega)) ?_)
      exact ⟨_, rfl, Or.inl ⟨rfl, rfl, fun q => by have := q.1; rw [← eG] at this; omega⟩⟩
  · refine ok_lload_n 10 rfl rfl rfl (ok_aload_n 11 rfl rfl rfl (ok_getR 12 rfl rfl fl_X12_19 rfl rfl (ok_iload 13 rfl rfl rfl (ok_lald 14 rfl rfl rfl (by first | omega | (simp [up_if]; omega) | (simp [up_if] at *; omega)) (ok_callSL (M' := M_Mo_common) (as := [_, _]) 15 rfl rfl ml_X12_89 (s_Mo_common (by omega) (hf j h1 h13)) ⟨Nat.le_of_ble_eq_true rfl, Nat.le_of_ble_eq_true rfl⟩ rfl (Nat.le_of_ble_eq_true rfl) (fun σ' z hz => ?_))))))
    rw [hz.1, hz.2]
    clear hz z σ'
    refine ok_lst3 16 rfl rfl rfl (ok_inc5 17 rfl rfl rfl (by first | omega | (simp [up_if]; omega) | (simp [up_if] at *; omega)) (ok_goto 18 8 rfl rfl rfl ?_))
    rw [← gF_s σ h1]
    exact ih (j + 1) ⟨by omega, by omega⟩ (by omega)
theorem tw_B {σ : eS} {s n b g : Int} (hB : iB1 σ) (hs : 0 ≤ s ∧ s < 4) (hn : 0 ≤ n ∧ n ≤ 8) (hb : 0 < n → 1 ≤ b ∧ b ≤ 999999) (hc : ∀ k, 0 ≤ k → k < n * n → 0 ≤ σ 4 k / g ∧ σ 4 k / g ≤ 99999999) : iB1 (tw σ s n b g (n * n)) := by
  refine ⟨fun t h1 h2 => ?_, fun k h1 h2 => ?_, fun k h1 h2 => ?_⟩
  · by_cases q : t = s
    · subst q
      simp only [tw]
      simp
      exact ⟨hn.1, hn.2, hb⟩
    · simp only [tw]
      simp [q]
      exact hB.1 t h1 h2
  · simp only [tw]
    simp
    split
    · next q => exact hc _ (by omega) (by omega)
    · exact hB.2.1 k h1 h2
  · simp only [tw]
    simp
    exact hB.2.2 k h1 h2
