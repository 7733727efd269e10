abbrev rgO : Nat → Int → Prop := fun c k => (c = 0 ∧ k = 4) ∨ c = 1 ∨ c = 2 ∨ c = 3 ∨ c = 4 ∨ c = 6 ∨ c = 7
def QO (σ : eS) (σ' : eS) (z : Int) : Prop := fr rgO σ σ' ∧ iB1 σ' ∧ (z = 0 ∨ z = 1)
theorem gcd_div {u g : Int} (hu : 1 ≤ u) (hg : 1 ≤ g) (h : g ≤ u) : 1 ≤ u / g ∧ u / g ≤ u := by
  have h1 : u / g ≤ u := Int.ediv_le_self g (by omega)
  have h2 : 1 ≤ u / g := (Int.le_ediv_iff_mul_le (by omega)).mpr (by omega)
  exact ⟨h2, h1⟩
theorem div_bd {u g B : Int} (hu : 0 ≤ u ∧ u ≤ B) (hg : 1 ≤ g) : 0 ≤ u / g ∧ u / g ≤ B := by
  have h1 : u / g ≤ u := Int.ediv_le_self g hu.1
  have h2 : 0 ≤ u / g := Int.ediv_nonneg hu.1 (by omega)
  exact ⟨h2, by omega⟩
theorem mul_bd {a b A B : Int} (ha : 0 ≤ a ∧ a ≤ A) (hb : 0 ≤ b ∧ b ≤ B) : 0 ≤ a * b ∧ a * b ≤ A * B :=
  ⟨Int.mul_nonneg ha.1 hb.1, Int.mul_le_mul ha.2 hb.2 hb.1 (Int.le_trans ha.1 ha.2)⟩
theorem s_Mo_isOver {σ : eS} {s : Int} (hB : iB1 σ) (hs : 0 ≤ s ∧ s < 4) (hr : 0 ≤ σ 0 18 ∧ σ 0 18 ≤ 8) (hu : uRows σ (σ 0 18) (σ 0 18)) : MtI shB M_Mo_isOver [vr 0, vi s] σ (QO σ) := by
  refine Mt.of okM_Mo_isOver (Nat.le_of_ble_eq_true rfl) (fun hk hg => ?_)
  obtain ⟨n, en⟩ : ∃ x, x = σ 0 18 := ⟨_, rfl⟩
  rw [← en] at hr hu
  have hB' : ∀ τ : eS, fr (fun c k => (c = 0 ∧ k = 4) ∨ c = 4 ∨ c = 6 ∨ c = 7) σ τ → (∀ k, 0 ≤ k → k < 64 → 0 ≤ τ 4 k) → iB1 τ := fun τ f g => ⟨fun t a b => by rw [f 1 t (by omega), f 2 t (by omega)]; exact hB.1 t a b, fun k a b => by rw [f 3 k (by omega)]; exact hB.2.1 k a b, g⟩
  refine ok_aload_n 0 rfl rfl rfl (ok_lconst (w := 1) 1 rfl rfl rfl (by decide) (ok_putL 2 rfl rfl fl_X12_85 rfl rfl rfl rfl (ok_iconst 3 rfl rfl (by decide) (ok_ist2 4 rfl rfl rfl ?_))))
  refine lpO2 (fun (i : Int) (_ : eS) => [some (vr 0), some (vi s), some (vi i), none, none, none, none]) (fun _ τ => τ) (fun i τ => 0 ≤ i ∧ i ≤ n ∧ fr (fun c k => (c = 0 ∧ k = 4) ∨ c = 6 ∨ c = 7) σ τ ∧ 1 ≤ τ 0 4 ∧ τ 0 4 ≤ 999999 ∧ uRows τ n n) (fun i _ => (n - i).toNat) ?_ 0 _ ⟨by omega, by omega, fr_up fr.rf (by omega), by rw [up_same]; omega, by rw [up_same]; omega, fun i j a b c d => by unfold uOk; rw [up_ne _ _ _ _ (by decide), up_ne _ _ _ _ (by decide)]; exact hu i j a b c d⟩
  rintro i τ ⟨i1, i2, i3, i4, i5, i6⟩ ih
  have e18 : τ 0 18 = n := by rw [i3 0 18 (by omega)]; exact en.symm
  refine ok_iload_n 5 rfl rfl rfl (ok_aload_n 6 rfl rfl rfl (ok_getI 7 rfl rfl fl_X12_167 rfl rfl (Or.inl rfl) (ok_icmp_ge 8 138 rfl rfl rfl (fun h12 => ?_) (fun h12 => ?_))))
  · refine ok_iconst 81 rfl rfl (by decide) (ok_ist2 82 rfl rfl rfl ?_)
    refine lpO2 (fun (i : Int) (_ : eS) => [some (vr 0), some (vi s), some (vi i), none, none, none, none]) (fun _ τ => τ) (fun i τ => 0 ≤ i ∧ i ≤ n ∧ fr (fun c k => (c = 0 ∧ k = 4) ∨ c = 4 ∨ c = 6 ∨ c = 7) σ τ ∧ 1 ≤ τ 0 4 ∧ τ 0 4 ≤ 999999 ∧ uRows τ n n ∧ ∀ k, 0 ≤ k → k < 64 → 0 ≤ τ 4 k) (fun i _ => (n - i).toNat) ?_ 0 τ ⟨by omega, by omega, i3.mono (fun c k q => by omega), i4, i5, i6, fun k a b => by rw [i3 4 k (by omega)]; exact hB.2.2 k a b⟩
    clear i1 i2 i3 i4 i5 i6 e18 h12 ih i τ
    rintro i τ ⟨i1, i2, i3, i4, i5, i6, i7⟩ ih
    have e18 : τ 0 18 = n := by rw [i3 0 18 (by omega)]; exact en.symm
    refine ok_iload_n 83 rfl rfl rfl (ok_aload_n 84 rfl rfl rfl (ok_getI 85 rfl rfl fl_X12_167 rfl rfl (Or.inl rfl) (ok_icmp_ge 86 213 rfl rfl rfl (fun h145 => ?_) (fun h145 => ?_))))
    · refine ok_aload_n 128 rfl rfl rfl (ok_iload_n 129 rfl rfl rfl (ok_aload_n 130 rfl rfl rfl (ok_getI 131 rfl rfl fl_X12_167 rfl rfl (Or.inl rfl) (ok_callVI (M' := M_Mo_takes) (as := [_, _]) 132 rfl rfl ml_X12_179 (s_Mo_takes hs (by omega) i4 (by rw [e18]; intro k a b; have := sq8 hr; exact i7 k a (by omega))) rfl rfl (Nat.le_of_ble_eq_true rfl) ⟨Nat.le_of_ble_eq_true rfl, Nat.le_of_ble_eq_true rfl⟩ rfl (Nat.le_of_ble_eq_true rfl) (fun σ' z hz => ?_)))))
      have f0 : fr rgO σ τ := i3.mono (fun c k q => by simp only [rgO]; omega)
      refine ok_zret 133 rfl rfl rfl (by rcases hz with q | q <;> omega) ?_
      rcases hz with ⟨hz, rfl, -⟩ | ⟨hz, rfl, hft⟩
      · exact ⟨_, rfl, f0, hB' _ i3 i7, Or.inl hz⟩
      · refine ⟨_, rfl, f0.tr (fun c k q => ?_), ?_, Or.inr hz⟩
        · simp only [rgO] at q
          simp only [tw]
          rw [if_neg (by omega), if_neg (by omega), if_neg (by omega)]
        · rw [e18] at hft ⊢
          obtain ⟨gp, gl⟩ := gF_bd i4 (n * n).toNat
          refine tw_B (hB' _ i3 i7) hs hr (fun q => ?_) (fun k a b => ?_)
          · rw [if_neg (by omega)]
            exact ⟨(gcd_div i4 gp gl).1, hft.1⟩
          · exact ⟨Int.ediv_nonneg (i7 k a (by have := sq8 hr; omega)) (by omega), hft.2 k a b⟩
    · refine ok_iconst 87 rfl rfl (by decide) (ok_ist3 88 rfl rfl rfl ?_)
      refine lpO2 (fun (j : Int) (_ : eS) => [some (vr 0), some (vi s), some (vi i), some (vi j), none, none, none]) (fun _ τ => τ) (fun j τ => 0 ≤ j ∧ j ≤ n ∧ fr (fun c k => (c = 0 ∧ k = 4) ∨ c = 4 ∨ c = 6 ∨ c = 7) σ τ ∧ 1 ≤ τ 0 4 ∧ τ 0 4 ≤ 999999 ∧ uRows τ n n ∧ ∀ k, 0 ≤ k → k < 64 → 0 ≤ τ 4 k) (fun j _ => (n - j).toNat) ?_ 0 _ ⟨by omega, by omega, i3, i4, i5, i6, i7⟩
      have hin : i < n := by omega
      clear i3 i4 i5 i6 i7 e18
      rintro j τ ⟨j1, j2, i3, i4, i5, i6, i7⟩ ih2
      have e18 : τ 0 18 = n := by rw [i3 0 18 (by omega)]; exact en.symm
      refine ok_iload_n 89 rfl rfl rfl (ok_aload_n 90 rfl rfl rfl (ok_getI 91 rfl rfl fl_X12_167 rfl rfl (Or.inl rfl) (ok_icmp_ge 92 207 rfl rfl rfl (fun h155 => ?_) (fun h155 => ?_))))
      · refine ok_inc2 126 rfl rfl rfl (by first | omega | (simp [up_if]; omega) | (simp [up_if] at *; omega)) (ok_goto 127 140 rfl rfl rfl ?_)
        refine ok_fg [some (vr 0), some (vi s), some (vi (i + 1)), none, none, none, none] ⟨rfl, rfl, rfl, trivial⟩ (ih (i + 1) τ ⟨by omega, by omega, i3, i4, i5, i6, i7⟩ (by omega))
      · have uk := i6 i j (by omega) (by omega) (by omega) (by omega)
        obtain ⟨u1, u2, u3, u4⟩ := id uk
        obtain ⟨x1, x2, x3, x4⟩ := ix8 (n := n) (i := i) (j := j) hr ⟨by omega, by omega⟩ ⟨by omega, by omega⟩
        obtain ⟨d1, d2⟩ := div_bd (u := τ 0 4) (g := τ 7 (8 * i + j)) (B := 999999) ⟨by omega, by omega⟩ u1
        obtain ⟨d7, d8⟩ := mul_bd (a := τ 6 (8 * i + j)) (b := τ 0 4 / τ 7 (8 * i + j)) (A := 999999) (B := 999999) ⟨by omega, by omega⟩ ⟨by omega, by omega⟩
        refine ok_aload_n 93 rfl rfl rfl (ok_getR 94 rfl rfl fl_X12_19 rfl rfl (ok_aload_n 95 rfl rfl rfl (ok_getI 96 rfl rfl fl_X12_167 rfl rfl (Or.inl rfl) (ok_iload_n 97 rfl rfl rfl (ok_imul 98 rfl rfl (by rw [e18]; omega) (ok_iload_n 99 rfl rfl rfl (ok_iadd 100 rfl rfl (by rw [e18]; omega) (ok_aload_n 101 rfl rfl rfl (ok_getR 102 rfl rfl fl_X12_30 rfl rfl (ok_bipush 103 rfl rfl (by decide) (by decide) (ok_iload_n 104 rfl rfl rfl (ok_imul 105 rfl rfl (by first | omega | (simp [up_if]; omega) | (simp [up_if] at *; omega)) (ok_iload_n 106 rfl rfl rfl (ok_iadd 107 rfl rfl (by first | omega | (simp [up_if]; omega) | (simp [up_if] at *; omega)) (ok_iald 108 rfl rfl rfl (by first | omega | (simp [up_if]; omega) | (simp [up_if] at *; omega)) (ok_i2l 109 rfl rfl (ok_aload_n 110 rfl rfl rfl (ok_getL 111 rfl rfl fl_X12_85 rfl rfl (ok_aload_n 112 rfl rfl rfl (ok_getR 113 rfl rfl fl_X12_33 rfl rfl (ok_bipush 114 rfl rfl (by decide) (by decide) (ok_iload_n 115 rfl rfl rfl (ok_imul 116 rfl rfl (by first | omega | (simp [up_if]; omega) | (simp [up_if] at *; omega)) (ok_iload_n 117 rfl rfl rfl (ok_iadd 118 rfl rfl (by first | omega | (simp [up_if]; omega) | (simp [up_if] at *; omega)) (ok_iald 119 rfl rfl rfl (by first | omega | (simp [up_if]; omega) | (simp [up_if] at *; omega)) (ok_i2l 120 rfl rfl (ok_ldiv 121 rfl rfl (by first | omega | (simp [up_if]; omega) | (simp [up_if] at *; omega)) (by first | omega | (simp [up_if]; omega) | (simp [up_if] at *; omega)) (ok_lmul 122 rfl rfl (by first | omega | (simp [up_if]; omega) | (simp [up_if] at *; omega)) (ok_last 123 rfl rfl rfl (by rw [e18]; omega) (ok_inc3 124 rfl rfl rfl (by first | omega | (simp [up_if]; omega) | (simp [up_if] at *; omega)) (ok_goto 125 150 rfl rfl rfl ?_))))))))))))))))))))))))))))))))
        rw [e18]
        refine ih2 (j + 1) _ ⟨by omega, by omega, fr_up i3 (by simp), by rw [up_ne _ _ _ _ (by decide)]; omega, by rw [up_ne _ _ _ _ (by decide)]; omega, fun a b a1 a2 a3 a4 => ?_, ?_⟩ (by omega)
        · unfold uOk
          rw [up_ne _ _ _ _ (by decide), up_ne _ _ _ _ (by decide)]
          exact i6 a b a1 a2 a3 a4
        · intro k a b
          rw [up_if]
          split
          · exact d7
          · exact i7 k a (by omega)
  · refine ok_iconst 9 rfl rfl (by decide) (ok_ist3 10 rfl rfl rfl ?_)
    refine lpO2 (fun (j : Int) (_ : eS) => [some (vr 0), some (vi s), some (vi i), some (vi j), none, none, none]) (fun _ τ => τ) (fun j τ => 0 ≤ j ∧ j ≤ n ∧ fr (fun c k => (c = 0 ∧ k = 4) ∨ c = 6 ∨ c = 7) σ τ ∧ 1 ≤ τ 0 4 ∧ τ 0 4 ≤ 999999 ∧ uRows τ n n) (fun j _ => (n - j).toNat) ?_ 0 _ ⟨by omega, by omega, i3, i4, i5, i6⟩
    have hin : i < n := by omega
    clear i3 i4 i5 i6 e18
    rintro j τ ⟨j1, j2, i3, i4, i5, i6⟩ ih2
    have e18 : τ 0 18 = n := by rw [i3 0 18 (by omega)]; exact en.symm
    refine ok_iload_n 11 rfl rfl rfl (ok_aload_n 12 rfl rfl rfl (ok_getI 13 rfl rfl fl_X12_167 rfl rfl (Or.inl rfl) (ok_icmp_ge 14 132 rfl rfl rfl (fun h22 => ?_) (fun h22 => ?_))))
    · refine ok_inc2 79 rfl rfl rfl (by first | omega | (simp [up_if]; omega) | (simp [up_if] at *; omega)) (ok_goto 80 7 rfl rfl rfl ?_)
      exact ok_fg [some (vr 0), some (vi s), some (vi (i + 1)), none, none, none, none] ⟨rfl, rfl, rfl, trivial⟩ (ih (i + 1) τ ⟨by omega, by omega, i3, i4, i5, i6⟩ (by omega))
    · have uk := i6 i j (by omega) (by omega) (by omega) (by omega)
      obtain ⟨u1, u2, u3, u4⟩ := id uk
      obtain ⟨g1, g2⟩ := gcd_pos (a := τ 7 (8 * i + j)) (b := τ 6 (8 * i + j)) (by omega)
      obtain ⟨d1, d2⟩ := div_bd (B := 999999) ⟨u3, u4⟩ g1
      obtain ⟨d3, d4⟩ := gcd_div u1 g1 g2
      refine ok_bipush 15 rfl rfl (by decide) (by decide) (ok_iload_n 16 rfl rfl rfl (ok_imul 17 rfl rfl (by first | omega | (simp [up_if]; omega) | (simp [up_if] at *; omega)) (ok_iload_n 18 rfl rfl rfl (ok_iadd 19 rfl rfl (by first | omega | (simp [up_if]; omega) | (simp [up_if] at *; omega)) (ok_ist4 20 rfl rfl rfl (ok_aload_n 21 rfl rfl rfl (ok_getR 22 rfl rfl fl_X12_33 rfl rfl (ok_iload 23 rfl rfl rfl (ok_iald 24 rfl rfl rfl (by first | omega | (simp [up_if]; omega) | (simp [up_if] at *; omega)) (ok_i2l 25 rfl rfl (ok_aload_n 26 rfl rfl rfl (ok_getR 27 rfl rfl fl_X12_30 rfl rfl (ok_iload 28 rfl rfl rfl (ok_iald 29 rfl rfl rfl (by first | omega | (simp [up_if]; omega) | (simp [up_if] at *; omega)) (ok_i2l 30 rfl rfl (ok_callSL (M' := M_Mo_common) (as := [_, _]) 31 rfl rfl ml_X12_89 (s_Mo_common (by omega) (by omega)) ⟨Nat.le_of_ble_eq_true rfl, Nat.le_of_ble_eq_true rfl⟩ rfl (Nat.le_of_ble_eq_true rfl) (fun σ' z hz => ?_)))))))))))))))))
      rw [hz.1, hz.2]
      clear hz z σ'
      refine ok_lst5 32 rfl rfl rfl (ok_aload_n 33 rfl rfl rfl (ok_getR 34 rfl rfl fl_X12_30 rfl rfl (ok_iload 35 rfl rfl rfl (ok_dup2 36 rfl rfl ⟨rfl, rfl⟩ (ok_iald 37 rfl rfl rfl (by first | omega | (simp [up_if]; omega) | (simp [up_if] at *; omega)) (ok_lload 38 rfl rfl rfl (ok_l2i 39 rfl rfl (by first | omega | (simp [up_if]; omega) | (simp [up_if] at *; omega)) (ok_idiv 40 rfl rfl (by omega) (by omega) (ok_iast 41 rfl rfl rfl (by first | omega | (simp [up_if]; omega) | (simp [up_if] at *; omega)) (ok_aload_n 42 rfl rfl rfl (ok_getR 43 rfl rfl fl_X12_33 rfl rfl (ok_iload 44 rfl rfl rfl (ok_dup2 45 rfl rfl ⟨rfl, rfl⟩ (ok_iald 46 rfl rfl rfl (by first | omega | (simp [up_if]; omega) | (simp [up_if] at *; omega)) (ok_lload 47 rfl rfl rfl (ok_l2i 48 rfl rfl (by first | omega | (simp [up_if]; omega) | (simp [up_if] at *; omega)) (ok_idiv 49 rfl rfl (by simp only [up_ne _ _ _ _ (show (7 : Nat) ≠ 6 by decide)]; omega) (by omega) (ok_iast 50 rfl rfl rfl (by first | omega | (simp [up_if]; omega) | (simp [up_if] at *; omega)) ?_))))))))))))))))))
      obtain ⟨ρ, er⟩ : ∃ x, x = up (up τ 6 (8 * i + j) (τ 6 (8 * i + j) / (Int.gcd (τ 7 (8 * i + j)) (τ 6 (8 * i + j)) : Int))) 7 (8 * i + j) (τ 7 (8 * i + j) / (Int.gcd (τ 7 (8 * i + j)) (τ 6 (8 * i + j)) : Int)) := ⟨_, rfl⟩
      have f1 : fr (fun c k => (c = 0 ∧ k = 4) ∨ c = 6 ∨ c = 7) σ ρ := by rw [er]; exact fr_up (fr_up i3 (by simp)) (by simp)
      have b4 : ρ 0 4 = τ 0 4 := by rw [er]; simp [up_if]
      have r18 : ρ 0 18 = n := by rw [f1 0 18 (by omega)]; exact en.symm
      have b7 : 1 ≤ ρ 7 (8 * i + j) ∧ ρ 7 (8 * i + j) ≤ 999999 := by rw [er]; simp [up_if]; omega
      have b8 : uRows ρ n n := by
        intro a b a1 a2 a3 a4
        have := i6 a b a1 a2 a3 a4
        by_cases q : 8 * a + b = 8 * i + j
        · rw [q, er]; unfold uOk; simp [up_if]; omega
        · rw [er]; unfold uOk; simp [up_if, q]; exact this
      obtain ⟨g5, g6⟩ := gcd_pos (a := ρ 0 4) (b := ρ 7 (8 * i + j)) (by omega)
      obtain ⟨d5, d6⟩ := gcd_div (by omega : 1 ≤ ρ 0 4) g5 g6
      obtain ⟨d7, d8⟩ := mul_bd (a := ρ 0 4 / (Int.gcd (ρ 0 4) (ρ 7 (8 * i + j)) : Int)) (b := ρ 7 (8 * i + j)) (A := 999999) (B := 999999) ⟨by omega, by omega⟩ ⟨by omega, by omega⟩
      have d9 := Int.mul_pos (by omega : 0 < ρ 0 4 / (Int.gcd (ρ 0 4) (ρ 7 (8 * i + j)) : Int)) (by omega : 0 < ρ 7 (8 * i + j))
      simp only [up_ne _ _ _ _ (show (7 : Nat) ≠ 6 by decide)]
      rw [← er]
      refine ok_aload_n 51 rfl rfl rfl (ok_aload_n 52 rfl rfl rfl (ok_getL 53 rfl rfl fl_X12_85 rfl rfl (ok_aload_n 54 rfl rfl rfl (ok_getL 55 rfl rfl fl_X12_85 rfl rfl (ok_aload_n 56 rfl rfl rfl (ok_getR 57 rfl rfl fl_X12_33 rfl rfl (ok_iload 58 rfl rfl rfl (ok_iald 59 rfl rfl rfl (by first | omega | (simp [up_if]; omega) | (simp [up_if] at *; omega)) (ok_i2l 60 rfl rfl (ok_callSL (M' := M_Mo_common) (as := [_, _]) 61 rfl rfl ml_X12_89 (s_Mo_common (by omega) (by omega)) ⟨Nat.le_of_ble_eq_true rfl, Nat.le_of_ble_eq_true rfl⟩ rfl (Nat.le_of_ble_eq_true rfl) (fun σ' z hz => ?_)))))))))))
      rw [hz.1, hz.2]
      clear hz z σ'
      refine ok_ldiv 62 rfl rfl (by first | omega | (simp [up_if]; omega) | (simp [up_if] at *; omega)) (by first | omega | (simp [up_if]; omega) | (simp [up_if] at *; omega)) (ok_aload_n 63 rfl rfl rfl (ok_getR 64 rfl rfl fl_X12_33 rfl rfl (ok_iload 65 rfl rfl rfl (ok_iald 66 rfl rfl rfl (by first | omega | (simp [up_if]; omega) | (simp [up_if] at *; omega)) (ok_i2l 67 rfl rfl (ok_lmul 68 rfl rfl (by first | omega | (simp [up_if]; omega) | (simp [up_if] at *; omega)) (ok_putL 69 rfl rfl fl_X12_85 rfl rfl rfl rfl (ok_aload_n 70 rfl rfl rfl (ok_getL 71 rfl rfl fl_X12_85 rfl rfl (ok_ldc2 72 (999999) rfl rfl kc_X12_93 (by decide) (ok_lcmp_le 73 74 126 rfl rfl rfl rfl rfl (fun h120 => ?_) (fun h120 => ?_))))))))))))
      · refine ok_inc3 77 rfl rfl rfl (by first | omega | (simp [up_if]; omega) | (simp [up_if] at *; omega)) (ok_goto 78 17 rfl rfl rfl ?_)
        rw [up_same] at h120
        refine ok_fg [some (vr 0), some (vi s), some (vi i), some (vi (j + 1)), none, none, none] ⟨rfl, rfl, rfl, rfl, trivial⟩ (ih2 (j + 1) _ ⟨by omega, by omega, fr_up f1 (by omega), by rw [up_same]; omega, by rw [up_same]; omega, fun a b a1 a2 a3 a4 => ?_⟩ (by omega))
        unfold uOk
        rw [up_ne _ _ _ _ (by decide), up_ne _ _ _ _ (by decide)]
        exact b8 a b a1 a2 a3 a4
      · refine ok_iconst 75 rfl rfl (by decide) (ok_zret 76 rfl rfl rfl (by first | omega | (simp [up_if]; omega) | (simp [up_if] at *; omega)) ?_)
        exact ⟨_, rfl, fr_up (f1.mono (fun c k q => by simp only [rgO]; omega)) (by simp [rgO]), hB' _ (fr_up (f1.mono (fun c k q => by omega)) (by omega)) (fun k a b => by rw [up_ne _ _ _ _ (by decide), f1 4 k (by omega)]; exact hB.2.2 k a b), Or.inl rfl⟩
