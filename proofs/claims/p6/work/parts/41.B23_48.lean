section
theorem cnt_ex {σ : eS} {s : Int} (hn : 0 ≤ σ 1 s ∧ σ 1 s ≤ 8) (h : ¬ cntB σ s = 0) : ∃ i j, 0 ≤ i ∧ i < σ 1 s ∧ 0 ≤ j ∧ j < σ 1 s ∧ 0 < cB σ s i j := by
  obtain ⟨k, a, b, c⟩ := sm_ex h
  have c' : 0 < σ 3 (64 * s + k) := by
    by_cases q : 0 < σ 3 (64 * s + k)
    · exact q
    · exact absurd (if_neg q) c
  have q8 := sq8 hn
  obtain ⟨n, en⟩ : ∃ n, n = σ 1 s := ⟨_, rfl⟩
  have hn0 : n ≠ 0 := by
    intro q
    rw [← en, q] at b
    simp at b
    omega
  rw [← en] at hn b q8
  have g1 := Int.mul_ediv_add_emod k n
  have g2 := Int.emod_nonneg k hn0
  have g3 := Int.emod_lt_of_pos k (by omega : 0 < n)
  have g4 : k / n < n := Int.ediv_lt_of_lt_mul (by omega) (by omega)
  have g5 : 0 ≤ k / n := Int.ediv_nonneg a (by omega)
  refine ⟨k / n, k % n, g5, by omega, g2, by omega, ?_⟩
  unfold cB
  rw [← en, show 64 * s + n * (k / n) + k % n = 64 * s + k by omega]
  exact c'
theorem s_Mo_shop {σ : eS} {s r : Int} (hB : iB1 σ) : MtI shB M_Mo_shop [vr 0, vi s, vi r] σ (fun σ' _ => QP σ σ') := by
  refine Mt.of okM_Mo_shop (Nat.le_of_ble_eq_true rfl) (fun hk hg => ?_)
  refine ok_aload_n 0 rfl rfl rfl (ok_iload_n 1 rfl rfl rfl (ok_callVI (M' := M_Mo_isTable) (as := [_]) 2 rfl rfl ml_X12_111 (s_Mo_isTable_r) rfl rfl (Nat.le_of_ble_eq_true rfl) ⟨Nat.le_of_ble_eq_true rfl, Nat.le_of_ble_eq_true rfl⟩ rfl (Nat.le_of_ble_eq_true rfl) (fun σ' z1 a1 => ?_)))
  obtain ⟨hs_, a1⟩ := a1
  rw [hs_]; clear hs_ σ'
  refine ok_if_eq 3 33 rfl rfl rfl (fun h5 => ?_) (fun h5 => ?_)
  · refine ok_iconst 17 rfl rfl (by decide) (ok_iret 18 rfl rfl rfl ?_)
    exact ⟨_, rfl, fr.rf, id⟩
  · obtain ⟨u1, u2, u3⟩ := yes1 a1 h5
    have tn := hB.1 s u1 u2
    refine ok_aload_n 4 rfl rfl rfl (ok_getR 5 rfl rfl fl_X12_7 rfl rfl (ok_iload_n 6 rfl rfl rfl (ok_iald 7 rfl rfl rfl (by first | omega | (simp [up_if]; omega) | (simp [up_if] at *; omega)) (ok_iconst 8 rfl rfl (by decide) (ok_icmp_gt 9 33 rfl rfl rfl (fun h15 => ?_) (fun h15 => ?_))))))
    · refine ok_iconst 17 rfl rfl (by decide) (ok_iret 18 rfl rfl rfl ?_)
      exact ⟨_, rfl, fr.rf, id⟩
    · refine ok_aload_n 10 rfl rfl rfl (ok_iload_n 11 rfl rfl rfl (ok_callVI (M' := M_Mo_aboveNought) (as := [_]) 12 rfl rfl ml_X12_205 (s_Mo_aboveNought hB ⟨u1, u2⟩) rfl rfl (Nat.le_of_ble_eq_true rfl) ⟨Nat.le_of_ble_eq_true rfl, Nat.le_of_ble_eq_true rfl⟩ rfl (Nat.le_of_ble_eq_true rfl) (fun σ' z hz => ?_)))
      rw [hz.1, hz.2]
      clear hz z σ'
      refine ok_if_eq 13 33 rfl rfl rfl (fun h23 => ?_) (fun h23 => ?_)
      · refine ok_iconst 17 rfl rfl (by decide) (ok_iret 18 rfl rfl rfl ?_)
        exact ⟨_, rfl, fr.rf, id⟩
      · refine ok_iload_n 14 rfl rfl rfl (ok_callSI (M' := M_Mo_isRule) (as := [_]) 15 rfl rfl ml_X12_291 (s_Mo_isRule) ⟨Nat.le_of_ble_eq_true rfl, Nat.le_of_ble_eq_true rfl⟩ rfl (Nat.le_of_ble_eq_true rfl) (fun σ' z2 a2 => ?_))
        obtain ⟨hs_, a2⟩ := a2
        rw [hs_]; clear hs_ σ'
        refine ok_if_ne 16 35 rfl rfl rfl (fun h30 => ?_) (fun h30 => ?_)
        · refine ok_aload_n 19 rfl rfl rfl (ok_getR 20 rfl rfl fl_X12_7 rfl rfl (ok_iload_n 21 rfl rfl rfl (ok_iald 22 rfl rfl rfl (by first | omega | (simp [up_if]; omega) | (simp [up_if] at *; omega)) (ok_ist3 23 rfl rfl rfl (ok_lconst (w := 0) 24 rfl rfl rfl (by decide) (ok_lst4 25 rfl rfl rfl (ok_iconst 26 rfl rfl (by decide) (ok_ist6 27 rfl rfl rfl ?_))))))))
          obtain ⟨i0, j0, p1, p2, p3, p4, p5⟩ := cnt_ex ⟨by omega, by omega⟩ h23
          have hr := yes1 a2 h30
          obtain ⟨n, en⟩ : ∃ n, n = σ 1 s := ⟨_, rfl⟩
          rw [← en]
          have n1 : 1 ≤ n ∧ n ≤ 4 := by omega
          refine lpO2 (fun v i : Int => [some (vr 0), some (vi s), some (vi r), some (vi n), some (vl v), none, some (vi i), none]) (fun _ _ => σ) (fun v i => 0 ≤ i ∧ i ≤ n ∧ 0 ≤ v ∧ v ≤ 799999992 ∧ ∀ k, 0 ≤ k → k < i → rowB σ s k ≤ v ∧ colB σ s k ≤ v) (fun _ i => (n - i).toNat) ?_ 0 0 ⟨by omega, by omega, by omega, by omega, fun k a b => by omega⟩
          rintro v i ⟨i1, i2, v1, v2, vm⟩ ih
          refine ok_iload 28 rfl rfl rfl (ok_iload_n 29 rfl rfl rfl (ok_icmp_ge 30 84 rfl rfl rfl (fun h51 => ?_) (fun h51 => ?_)))
          · have ei : i = n := by omega
            have vrow : ∀ k, 0 ≤ k → k < n → rowB σ s k ≤ v := fun k a b => (vm k a (by omega)).1
            have vcol : ∀ k, 0 ≤ k → k < n → colB σ s k ≤ v := fun k a b => (vm k a (by omega)).2
            have vp : 1 ≤ v := by
              have := sm_le (f := fun j => cB σ s i0 j) (n := (σ 1 s).toNat) (fun k a b => (cB_bd hB ⟨u1, u2⟩ ⟨p1, p2⟩ ⟨a, by omega⟩).1) j0 p3 (by omega)
              have h2 := vrow i0 p1 (by omega)
              unfold rowB at h2
              omega
            clear vm ih
            refine ok_aload_n 45 rfl rfl rfl (ok_iconst 46 rfl rfl (by decide) (ok_iload_n 47 rfl rfl rfl (ok_imul 48 rfl rfl (by first | omega | (simp [up_if]; omega) | (simp [up_if] at *; omega)) (ok_putI 49 rfl rfl fl_X12_234 rfl rfl rfl rfl (ok_iconst 50 rfl rfl (by decide) (ok_ist6 51 rfl rfl rfl ?_))))))
            refine lpO2 (fun (i : Int) (_ : eS) => [some (vr 0), some (vi s), some (vi r), some (vi n), some (vl v), none, some (vi i), none]) (fun _ ρ => ρ) (fun i ρ => 0 ≤ i ∧ i ≤ 64 ∧ fr rgS σ ρ ∧ ρ 0 22 = 2 * n ∧ ∀ k, 0 ≤ k → k < i → ρ 9 k = 0) (fun i _ => (64 - i).toNat) ?_ 0 _ ⟨by omega, by omega, fr_up fr.rf (by simp [rgS]), up_same _ _ _ _, fun k a b => by omega⟩
            rintro i ρ ⟨i1, i2, f, e22, hz⟩ ih
            refine ok_iload 52 rfl rfl rfl (ok_bipush 53 rfl rfl (by decide) (by decide) (ok_icmp_ge 54 115 rfl rfl rfl (fun h98 => ?_) (fun h98 => ?_)))
            · have w0 : ∀ a b, 0 ≤ a → a < 2 * n → 0 ≤ b → b < 2 * n → wk ρ a b = 0 := fun a b a1 a2 b1 b2 => by
                have g := ix8 (n := 2 * n) (i := a) (j := b) ⟨by omega, by omega⟩ ⟨a1, a2⟩ ⟨b1, b2⟩
                unfold wk
                rw [e22]
                exact hz _ (by omega) (by omega)
              clear hz ih
              refine ok_iconst 62 rfl rfl (by decide) (ok_ist6 63 rfl rfl rfl ?_)
              refine lpO2 (fun (i : Int) (_ : eS) => [some (vr 0), some (vi s), some (vi r), some (vi n), some (vl v), none, some (vi i), none]) (fun _ ρ => ρ) (fun i ρ => 0 ≤ i ∧ i ≤ n ∧ fr rgS σ ρ ∧ ρ 0 22 = 2 * n ∧ ∀ a b, 0 ≤ a → a < 2 * n → 0 ≤ b → b < 2 * n → wk ρ a b = tg n v (cB σ s) (rowB σ s) (colB σ s) i 0 a b) (fun i _ => (n - i).toNat) ?_ 0 _ ⟨by omega, by omega, f, e22, fun a b a1 a2 b1 b2 => by rw [w0 a b a1 a2 b1 b2, tg_0 ⟨a1, a2⟩ ⟨b1, b2⟩]⟩
              clear w0 f e22 i1 i2 ρ
              rintro i ρ ⟨i1, i2, f, e22, hw⟩ ih
              refine ok_iload 64 rfl rfl rfl (ok_iload_n 65 rfl rfl rfl (ok_icmp_ge 66 253 rfl rfl rfl (fun h121 => ?_) (fun h121 => ?_)))
              · have hev : EvW (2 * n) (wk (up ρ 0 31 n)) v := by
                  have ei : i = n := by omega
                  refine EvW_cg (w := tg n v (cB σ s) (rowB σ s) (colB σ s) n 0) ?_ (fun a b a1 a2 b1 b2 => ?_)
                  · have hr2 : rowB σ s = fun i => sm (fun j => cB σ s i j) n.toNat := by funext i; unfold rowB; rw [en]
                    have hc2 : colB σ s = fun j => sm (fun i => cB σ s i j) n.toNat := by funext i; unfold colB; rw [en]
                    rw [hr2] at vrow ⊢
                    rw [hc2] at vcol ⊢
                    exact tg_ev (by omega) (fun i j a b c d => (cB_bd hB ⟨u1, u2⟩ ⟨a, by omega⟩ ⟨c, by omega⟩).1) vrow vcol
                  · have hw' := hw a b a1 a2 b1 b2
                    rw [ei] at hw'
                    rw [← hw']
                    unfold wk
                    rw [up_ne _ _ _ _ (show (9 : Nat) ≠ 0 by decide), up_nk _ _ _ _ (show (22 : Int) ≠ 31 by decide)]
                have f31 : fr rgP σ (up ρ 0 31 n) := fr_up (f.mono (fun c k q => by simp only [rgS, rgP] at q ⊢; omega)) (by simp [rgP])
                have e22' : up ρ 0 31 n 0 22 = 2 * n := by rw [up_nk _ _ _ _ (by decide)]; exact e22
                have e31 : up ρ 0 31 n 0 31 = n := up_same _ _ _ _
                have hnW : nW (up ρ 0 31 n) := ⟨by omega, by omega⟩
                refine ok_aload_n 144 rfl rfl rfl (ok_iload_n 145 rfl rfl rfl (ok_putI 146 rfl rfl fl_X12_363 rfl rfl rfl rfl (ok_aload_n 147 rfl rfl rfl (ok_iload_n 148 rfl rfl rfl (ok_iconst 149 rfl rfl (by decide) (ok_lload 150 rfl rfl rfl (ok_l2i 151 rfl rfl (by first | omega | (simp [up_if]; omega) | (simp [up_if] at *; omega)) (ok_callVI (M' := M_Mo_keepsAll) (as := [_, _, _]) 152 rfl rfl ml_X12_297 (s_Mo_keepsAll hnW (by rw [e22']; exact hev) ⟨vp, v2⟩) rfl rfl (Nat.le_of_ble_eq_true rfl) ⟨Nat.le_of_ble_eq_true rfl, Nat.le_of_ble_eq_true rfl⟩ rfl (Nat.le_of_ble_eq_true rfl) (fun σ' z hz => ?_)))))))))
                refine ok_iret 153 rfl rfl rfl ?_
                exact ⟨_, rfl, f31.tr (hz.1.mono (fun c k q => by simp only [rgK, rgP] at q ⊢; omega)), fun _ => hz.iK hnW ⟨by omega, v2⟩ (fun _ => by rw [e31, e22']; omega)⟩
              · refine ok_iconst 67 rfl rfl (by decide) (ok_ist7 68 rfl rfl rfl ?_)
                refine lpO2 (fun (j : Int) (_ : eS) => [some (vr 0), some (vi s), some (vi r), some (vi n), some (vl v), none, some (vi i), some (vi j)]) (fun _ υ => υ) (fun j υ => 0 ≤ j ∧ j ≤ n ∧ fr rgS σ υ ∧ υ 0 22 = 2 * n ∧ ∀ a b, 0 ≤ a → a < 2 * n → 0 ≤ b → b < 2 * n → wk υ a b = tg n v (cB σ s) (rowB σ s) (colB σ s) i j a b) (fun j _ => (n - j).toNat) ?_ 0 _ ⟨by omega, by omega, f, e22, hw⟩
                clear hw f e22 ρ
                rintro j υ ⟨j1, j2, f, e22, hw⟩ ih2
                have bi1 := ix8 (n := 2 * n) (i := i) (j := j) ⟨by omega, by omega⟩ ⟨by omega, by omega⟩ ⟨by omega, by omega⟩
                have bi2 := ix8 (n := 2 * n) (i := i) (j := n + i) ⟨by omega, by omega⟩ ⟨by omega, by omega⟩ ⟨by omega, by omega⟩
                have bi3 := ix8 (n := 2 * n) (i := n + i) (j := i) ⟨by omega, by omega⟩ ⟨by omega, by omega⟩ ⟨by omega, by omega⟩
                have E : ∀ τ : eS, fr rgS σ τ → iB1 τ ∧ τ 1 s = n ∧ cB τ s = cB σ s ∧ rowB τ s = rowB σ s ∧ colB τ s = colB σ s := fun τ g => by
                  have e1 : ∀ k, τ 1 k = σ 1 k := fun k => g 1 k (by simp [rgS])
                  have e3 : ∀ k, τ 3 k = σ 3 k := fun k => g 3 k (by simp [rgS])
                  refine ⟨iB1_frS hB g (fun c k q => by simp only [rgS]; omega), by rw [e1, en], ?_, ?_, ?_⟩
                  · funext a b; unfold cB; rw [e1, e3]
                  · funext a; unfold rowB cB; simp only [e1, e3]
                  · funext a; unfold colB cB; simp only [e1, e3]
                refine ok_iload 69 rfl rfl rfl (ok_iload_n 70 rfl rfl rfl (ok_icmp_ge 71 191 rfl rfl rfl (fun h130 => ?_) (fun h130 => ?_)))
                · have ej : j = n := by omega
                  obtain ⟨eb, e1, ec, er, el⟩ := E υ f
                  have g1 := fun z => E (up υ 9 (2 * n * i + n + i) z) (fr_up f (by simp [rgS]))
                  have b1 := vrow i (by omega) (by omega)
                  have b2 := vcol i (by omega) (by omega)
                  have b3 := rowB_bd hB ⟨u1, u2⟩ (i := i) ⟨by omega, by omega⟩
                  have b4 := colB_bd hB ⟨u1, u2⟩ (j := i) ⟨by omega, by omega⟩
                  refine ok_aload_n 106 rfl rfl rfl (ok_getR 107 rfl rfl fl_X12_39 rfl rfl (ok_aload_n 108 rfl rfl rfl (ok_getI 109 rfl rfl fl_X12_234 rfl rfl (Or.inl rfl) ?_)))
                  rw [e22]
                  refine ok_iload 110 rfl rfl rfl (ok_imul 111 rfl rfl (by first | omega | (simp [up_if]; omega) | (simp [up_if] at *; omega)) (ok_iload_n 112 rfl rfl rfl (ok_iadd 113 rfl rfl (by first | omega | (simp [up_if]; omega) | (simp [up_if] at *; omega)) (ok_iload 114 rfl rfl rfl (ok_iadd 115 rfl rfl (by first | omega | (simp [up_if]; omega) | (simp [up_if] at *; omega)) (ok_lload 116 rfl rfl rfl (ok_aload_n 117 rfl rfl rfl (ok_iload_n 118 rfl rfl rfl (ok_iload 119 rfl rfl rfl (ok_callVL (M' := M_Mo_rowOf) (as := [_, _]) 120 rfl rfl ml_X12_114 (s_Mo_rowOf eb ⟨u1, u2⟩ ⟨by omega, by omega⟩) rfl rfl (Nat.le_of_ble_eq_true rfl) ⟨Nat.le_of_ble_eq_true rfl, Nat.le_of_ble_eq_true rfl⟩ rfl (Nat.le_of_ble_eq_true rfl) (fun σ' z hz => ?_)))))))))))
                  rw [hz.1, hz.2, er]; clear hz z σ'
                  refine ok_lsub 121 rfl rfl (by first | omega | (simp [up_if]; omega) | (simp [up_if] at *; omega)) (ok_l2i 122 rfl rfl (by first | omega | (simp [up_if]; omega) | (simp [up_if] at *; omega)) (ok_iast 123 rfl rfl rfl (by first | omega | (simp [up_if]; omega) | (simp [up_if] at *; omega)) (ok_aload_n 124 rfl rfl rfl (ok_getR 125 rfl rfl fl_X12_39 rfl rfl (ok_aload_n 126 rfl rfl rfl (ok_getI 127 rfl rfl fl_X12_234 rfl rfl (Or.inl rfl) ?_))))))
                  rw [up_ne _ _ _ _ (show (0 : Nat) ≠ 9 by decide), e22]
                  refine ok_iload_n 128 rfl rfl rfl (ok_iload 129 rfl rfl rfl (ok_iadd 130 rfl rfl (by first | omega | (simp [up_if]; omega) | (simp [up_if] at *; omega)) (ok_imul 131 rfl rfl (by first | omega | (simp [up_if]; omega) | (simp [up_if] at *; omega)) (ok_iload 132 rfl rfl rfl (ok_iadd 133 rfl rfl (by first | omega | (simp [up_if]; omega) | (simp [up_if] at *; omega)) (ok_lload 134 rfl rfl rfl (ok_aload_n 135 rfl rfl rfl (ok_iload_n 136 rfl rfl rfl (ok_iload 137 rfl rfl rfl (ok_callVL (M' := M_Mo_columnOf) (as := [_, _]) 138 rfl rfl ml_X12_122 (s_Mo_columnOf (g1 _).1 ⟨u1, u2⟩ ⟨by omega, by rw [(g1 _).2.1]; omega⟩) rfl rfl (Nat.le_of_ble_eq_true rfl) ⟨Nat.le_of_ble_eq_true rfl, Nat.le_of_ble_eq_true rfl⟩ rfl (Nat.le_of_ble_eq_true rfl) (fun σ' z hz => ?_)))))))))))
                  rw [hz.1, hz.2, (g1 _).2.2.2.2]; clear hz z σ'
                  refine ok_lsub 139 rfl rfl (by first | omega | (simp [up_if]; omega) | (simp [up_if] at *; omega)) (ok_l2i 140 rfl rfl (by first | omega | (simp [up_if]; omega) | (simp [up_if] at *; omega)) (ok_iast 141 rfl rfl rfl (by first | omega | (simp [up_if]; omega) | (simp [up_if] at *; omega)) (ok_inc6 142 rfl rfl rfl (by first | omega | (simp [up_if]; omega) | (simp [up_if] at *; omega)) (ok_goto 143 118 rfl rfl rfl ?_))))
                  rw [Int.add_assoc (2 * n * i) n i]
                  rw [ej] at hw
                  refine ok_fg [some (vr 0), some (vi s), some (vi r), some (vi n), some (vl v), none, some (vi (i + 1)), none] ⟨rfl, rfl, rfl, rfl, rfl, rfl, trivial⟩ (ih (i + 1) _ ⟨by omega, by omega, fr_up (fr_up f (by simp [rgS])) (by simp [rgS]), by rw [up_ne _ _ _ _ (by decide), up_ne _ _ _ _ (by decide)]; exact e22, fun a b a1 a2 b1 b2 => ?_⟩ (by omega))
                  rw [wk_up (by rw [up_ne _ _ _ _ (by decide)]; exact e22) ⟨by omega, by omega⟩ ⟨by omega, by omega⟩ ⟨b1, b2⟩, wk_up e22 ⟨by omega, by omega⟩ ⟨by omega, by omega⟩ ⟨b1, b2⟩, hw a b a1 a2 b1 b2]
                  exact tg_d ⟨by omega, by omega⟩ ⟨a1, a2⟩ ⟨b1, b2⟩
                · have bi4 := ix8 (n := 2 * n) (i := n + j) (j := n + i) ⟨by omega, by omega⟩ ⟨by omega, by omega⟩ ⟨by omega, by omega⟩
                  obtain ⟨eb, e1, ec, er, el⟩ := E υ f
                  have g1 := fun z => E (up υ 9 (2 * n * i + j) z) (fr_up f (by simp [rgS]))
                  refine ok_aload_n 72 rfl rfl rfl (ok_getR 73 rfl rfl fl_X12_39 rfl rfl (ok_aload_n 74 rfl rfl rfl (ok_getI 75 rfl rfl fl_X12_234 rfl rfl (Or.inl rfl) ?_)))
                  rw [e22]
                  refine ok_iload 76 rfl rfl rfl (ok_imul 77 rfl rfl (by first | omega | (simp [up_if]; omega) | (simp [up_if] at *; omega)) (ok_iload 78 rfl rfl rfl (ok_iadd 79 rfl rfl (by first | omega | (simp [up_if]; omega) | (simp [up_if] at *; omega)) (ok_aload_n 80 rfl rfl rfl (ok_iload_n 81 rfl rfl rfl (ok_iload 82 rfl rfl rfl (ok_iload 83 rfl rfl rfl (ok_callVI (M' := M_Mo_at) (as := [_, _, _]) 84 rfl rfl ml_X12_107 (s_Mo_at eb ⟨u1, u2⟩ ⟨by omega, by omega⟩ ⟨by omega, by omega⟩) rfl rfl (Nat.le_of_ble_eq_true rfl) ⟨Nat.le_of_ble_eq_true rfl, Nat.le_of_ble_eq_true rfl⟩ rfl (Nat.le_of_ble_eq_true rfl) (fun σ' z hz => ?_)))))))))
                  rw [hz.1, hz.2, ec]; clear hz z σ'
                  refine ok_iast 85 rfl rfl rfl (by first | omega | (simp [up_if]; omega) | (simp [up_if] at *; omega)) (ok_aload_n 86 rfl rfl rfl (ok_getR 87 rfl rfl fl_X12_39 rfl rfl (ok_aload_n 88 rfl rfl rfl (ok_getI 89 rfl rfl fl_X12_234 rfl rfl (Or.inl rfl) ?_))))
                  rw [up_ne _ _ _ _ (show (0 : Nat) ≠ 9 by decide), e22]
                  refine ok_iload_n 90 rfl rfl rfl (ok_iload 91 rfl rfl rfl (ok_iadd 92 rfl rfl (by first | omega | (simp [up_if]; omega) | (simp [up_if] at *; omega)) (ok_imul 93 rfl rfl (by first | omega | (simp [up_if]; omega) | (simp [up_if] at *; omega)) (ok_iload_n 94 rfl rfl rfl (ok_iadd 95 rfl rfl (by first | omega | (simp [up_if]; omega) | (simp [up_if] at *; omega)) (ok_iload 96 rfl rfl rfl (ok_iadd 97 rfl rfl (by first | omega | (simp [up_if]; omega) | (simp [up_if] at *; omega)) (ok_aload_n 98 rfl rfl rfl (ok_iload_n 99 rfl rfl rfl (ok_iload 100 rfl rfl rfl (ok_iload 101 rfl rfl rfl (ok_callVI (M' := M_Mo_at) (as := [_, _, _]) 102 rfl rfl ml_X12_107 (s_Mo_at (g1 _).1 ⟨u1, u2⟩ ⟨by omega, by rw [(g1 _).2.1]; omega⟩ ⟨by omega, by rw [(g1 _).2.1]; omega⟩) rfl rfl (Nat.le_of_ble_eq_true rfl) ⟨Nat.le_of_ble_eq_true rfl, Nat.le_of_ble_eq_true rfl⟩ rfl (Nat.le_of_ble_eq_true rfl) (fun σ' z hz => ?_)))))))))))))
                  rw [hz.1, hz.2, (g1 _).2.2.1]; clear hz z σ'
                  refine ok_iast 103 rfl rfl rfl (by first | omega | (simp [up_if]; omega) | (simp [up_if] at *; omega)) (ok_inc7 104 rfl rfl rfl (by first | omega | (simp [up_if]; omega) | (simp [up_if] at *; omega)) (ok_goto 105 127 rfl rfl rfl ?_))
                  rw [Int.add_assoc (2 * n * (n + j)) n i]
                  refine ih2 (j + 1) _ ⟨by omega, by omega, fr_up (fr_up f (by simp [rgS])) (by simp [rgS]), by rw [up_ne _ _ _ _ (by decide), up_ne _ _ _ _ (by decide)]; exact e22, fun a b a1 a2 b1 b2 => ?_⟩ (by omega)
                  rw [wk_up (by rw [up_ne _ _ _ _ (by decide)]; exact e22) ⟨by omega, by omega⟩ ⟨by omega, by omega⟩ ⟨b1, b2⟩, wk_up e22 ⟨by omega, by omega⟩ ⟨by omega, by omega⟩ ⟨b1, b2⟩, hw a b a1 a2 b1 b2]
                  exact tg_s ⟨by omega, by omega⟩ ⟨by omega, by omega⟩
            · refine ok_aload_n 55 rfl rfl rfl (ok_getR 56 rfl rfl fl_X12_39 rfl rfl (ok_iload 57 rfl rfl rfl (ok_iconst 58 rfl rfl (by decide) (ok_iast 59 rfl rfl rfl (by first | omega | (simp [up_if]; omega) | (simp [up_if] at *; omega)) (ok_inc6 60 rfl rfl rfl (by first | omega | (simp [up_if]; omega) | (simp [up_if] at *; omega)) (ok_goto 61 94 rfl rfl rfl ?_))))))
              refine ih (i + 1) _ ⟨by omega, by omega, fr_up f (by simp [rgS]), by rw [up_ne _ _ _ _ (by decide)]; exact e22, fun k a b => ?_⟩ (by omega)
              rw [up_if]
              by_cases q : k = i
              · rw [if_pos ⟨rfl, q⟩]
              · rw [if_neg (fun y => q y.2)]; exact hz k a (by omega)
          · have rb := rowB_bd hB ⟨u1, u2⟩ (i := i) ⟨i1, by omega⟩
            have cb := colB_bd hB ⟨u1, u2⟩ (j := i) ⟨i1, by omega⟩
            refine ok_lload 31 rfl rfl rfl (ok_aload_n 32 rfl rfl rfl (ok_iload_n 33 rfl rfl rfl (ok_iload 34 rfl rfl rfl (ok_callVL (M' := M_Mo_rowOf) (as := [_, _]) 35 rfl rfl ml_X12_114 (s_Mo_rowOf hB ⟨u1, u2⟩ ⟨by omega, by omega⟩) rfl rfl (Nat.le_of_ble_eq_true rfl) ⟨Nat.le_of_ble_eq_true rfl, Nat.le_of_ble_eq_true rfl⟩ rfl (Nat.le_of_ble_eq_true rfl) (fun σ' z hz => ?_)))))
            rw [hz.1, hz.2]
            clear hz z σ'
            refine ok_aload_n 36 rfl rfl rfl (ok_iload_n 37 rfl rfl rfl (ok_iload 38 rfl rfl rfl (ok_callVL (M' := M_Mo_columnOf) (as := [_, _]) 39 rfl rfl ml_X12_122 (s_Mo_columnOf hB ⟨u1, u2⟩ ⟨by omega, by omega⟩) rfl rfl (Nat.le_of_ble_eq_true rfl) ⟨Nat.le_of_ble_eq_true rfl, Nat.le_of_ble_eq_true rfl⟩ rfl (Nat.le_of_ble_eq_true rfl) (fun σ' z hz => ?_))))
            rw [hz.1, hz.2]
            clear hz z σ'
            refine ok_mmaxL 40 rfl rfl ml_X12_250 ⟨Nat.le_of_ble_eq_true rfl, Nat.le_of_ble_eq_true rfl⟩ (ok_mmaxL 41 rfl rfl ml_X12_250 ⟨Nat.le_of_ble_eq_true rfl, Nat.le_of_ble_eq_true rfl⟩ (ok_lst4 42 rfl rfl rfl (ok_inc6 43 rfl rfl rfl (by first | omega | (simp [up_if]; omega) | (simp [up_if] at *; omega)) (ok_goto 44 48 rfl rfl rfl ?_))))
            refine ih _ (i + 1) ⟨by omega, by omega, by omega, by omega, lt_ext (fun k a b => ?_) (by omega)⟩ (by omega)
            have := vm k a b
            omega
        · refine ok_iconst 17 rfl rfl (by decide) (ok_iret 18 rfl rfl rfl ?_)
          exact ⟨_, rfl, fr.rf, id⟩
end
section
theorem iK.two {σ : eS} (h : iK σ) (q : σ 0 30 = 2) : 1 ≤ σ 0 27 ∧ 1 ≤ σ 0 31 ∧ σ 0 31 ≤ 4 ∧ σ 0 28 = 2 * σ 0 31 := h.2.2.2.2.2.2.2.2 q
theorem s_Mo_isJob {σ : eS} {j : Int} (h : iK σ) : MtI shB M_Mo_isJob [vr 0, vi j] σ (fun σ' z => σ' = σ ∧ ((z = 1 ∧ σ 0 30 = 2 ∧ 0 ≤ j ∧ j < σ 0 31) ∨ (z = 0 ∧ ¬ (σ 0 30 = 2 ∧ 0 ≤ j ∧ j < σ 0 31)))) := by
  refine Mt.of okM_Mo_isJob (Nat.le_of_ble_eq_true rfl) (fun hk hg => ?_)
  refine ok_aload_n 0 rfl rfl rfl (ok_getI 1 rfl rfl fl_X12_282 rfl rfl (Or.inl rfl) (ok_iconst 2 rfl rfl (by decide) (ok_icmp_ne 3 28 rfl rfl rfl (fun h5 => ?_) (fun h5 => ?_))))
  · refine ok_iconst 16 rfl rfl (by decide) (ok_zret 17 rfl rfl rfl (by first | omega | (simp [up_if]; omega) | (simp [up_if] at *; omega)) ?_)
    exact ⟨_, rfl, rfl, by omega⟩
  · have t := h.two (by omega)
    refine ok_iload_n 4 rfl rfl rfl (ok_i2l 5 rfl rfl (ok_lconst (w := 0) 6 rfl rfl rfl (by decide) (ok_aload_n 7 rfl rfl rfl (ok_getI 8 rfl rfl fl_X12_363 rfl rfl (Or.inl rfl) (ok_iconst 9 rfl rfl (by decide) (ok_isub 10 rfl rfl (by first | omega | (simp [up_if]; omega) | (simp [up_if] at *; omega)) (ok_i2l 11 rfl rfl (ok_callSI (M' := M_Mo_isIn) (as := [_, _, _]) 12 rfl rfl ml_X12_99 (s_Mo_isIn_r) ⟨Nat.le_of_ble_eq_true rfl, Nat.le_of_ble_eq_true rfl⟩ rfl (Nat.le_of_ble_eq_true rfl) (fun σ' z hz => ?_)))))))))
    obtain ⟨hs_, hz⟩ := hz
    rw [hs_]; clear hs_ σ'
    refine ok_if_eq 13 28 rfl rfl rfl (fun h21 => ?_) (fun h21 => ?_)
    · refine ok_iconst 16 rfl rfl (by decide) (ok_zret 17 rfl rfl rfl (by first | omega | (simp [up_if]; omega) | (simp [up_if] at *; omega)) ?_)
      exact ⟨_, rfl, rfl, by omega⟩
    · refine ok_iconst 14 rfl rfl (by decide) (ok_goto 15 29 rfl rfl rfl (ok_zret 17 rfl rfl rfl (by first | omega | (simp [up_if]; omega) | (simp [up_if] at *; omega)) ?_))
      exact ⟨_, rfl, rfl, by omega⟩
theorem s_Mo_works {σ : eS} {j t : Int} (h : iK σ) : MtI shB M_Mo_works [vr 0, vi j, vi t] σ (fun σ' _ => σ' = σ) := by
  refine Mt.of okM_Mo_works (Nat.le_of_ble_eq_true rfl) (fun hk hg => ?_)
  obtain ⟨k1, k2, k3, k4, k5, k6, -⟩ := id h
  refine ok_aload_n 0 rfl rfl rfl (ok_iload_n 1 rfl rfl rfl (ok_callVI (M' := M_Mo_isJob) (as := [_]) 2 rfl rfl ml_X12_366 (s_Mo_isJob h) rfl rfl (Nat.le_of_ble_eq_true rfl) ⟨Nat.le_of_ble_eq_true rfl, Nat.le_of_ble_eq_true rfl⟩ rfl (Nat.le_of_ble_eq_true rfl) (fun σ' z1 a1 => ?_)))
  obtain ⟨hs_, a1⟩ := a1
  rw [hs_]; clear hs_ σ'
  refine ok_if_eq 3 24 rfl rfl rfl (fun h5 => ?_) (fun h5 => ?_)
  · refine ok_iconst 14 rfl rfl (by decide) (ok_iret 15 rfl rfl rfl ?_)
    exact ⟨_, rfl, rfl⟩
  · refine ok_iload_n 4 rfl rfl rfl (ok_i2l 5 rfl rfl (ok_lconst (w := 0) 6 rfl rfl rfl (by decide) (ok_aload_n 7 rfl rfl rfl (ok_getI 8 rfl rfl fl_X12_279 rfl rfl (Or.inl rfl) (ok_iconst 9 rfl rfl (by decide) (ok_isub 10 rfl rfl (by first | omega | (simp [up_if]; omega) | (simp [up_if] at *; omega)) (ok_i2l 11 rfl rfl (ok_callSI (M' := M_Mo_isIn) (as := [_, _, _]) 12 rfl rfl ml_X12_99 (s_Mo_isIn_r) ⟨Nat.le_of_ble_eq_true rfl, Nat.le_of_ble_eq_true rfl⟩ rfl (Nat.le_of_ble_eq_true rfl) (fun σ' z2 a2 => ?_)))))))))
    obtain ⟨hs_, a2⟩ := a2
    rw [hs_]; clear hs_ σ'
    refine ok_if_ne 13 26 rfl rfl rfl (fun h21 => ?_) (fun h21 => ?_)
    · have r1 := yes1 a1 h5
      have r2 := yes1 a2 h21
      have r3 := h.two r1.1
      refine ok_aload_n 16 rfl rfl rfl (ok_getR 17 rfl rfl fl_X12_51 rfl rfl (ok_bipush 18 rfl rfl (by decide) (by decide) (ok_aload_n 19 rfl rfl rfl (ok_iload_n 20 rfl rfl rfl (ok_callVI (M' := M_Mo_draw) (as := [_]) 21 rfl rfl ml_X12_369 (s_Mo_draw h) rfl rfl (Nat.le_of_ble_eq_true rfl) ⟨Nat.le_of_ble_eq_true rfl, Nat.le_of_ble_eq_true rfl⟩ rfl (Nat.le_of_ble_eq_true rfl) (fun σ' z3 a3 => ?_))))))
      obtain ⟨hs_, a3⟩ := a3
      rw [hs_]; clear hs_ σ'
      have r4 : 0 ≤ z3 ∧ z3 < σ 0 27 := by omega
      refine ok_imul 22 rfl rfl (by first | omega | (simp [up_if]; omega) | (simp [up_if] at *; omega)) (ok_iload_n 23 rfl rfl rfl (ok_iadd 24 rfl rfl (by first | omega | (simp [up_if]; omega) | (simp [up_if] at *; omega)) (ok_iald 25 rfl rfl rfl (by first | omega | (simp [up_if]; omega) | (simp [up_if] at *; omega)) (ok_ist3 26 rfl rfl rfl (ok_iload_n 27 rfl rfl rfl (ok_aload_n 28 rfl rfl rfl (ok_getI 29 rfl rfl fl_X12_363 rfl rfl (Or.inl rfl) (ok_icmp_ge 30 54 rfl rfl rfl (fun h47 => ?_) (fun h47 => ?_)))))))))
      · refine ok_iconst 33 rfl rfl (by decide) (ok_iret 34 rfl rfl rfl ?_)
        exact ⟨_, rfl, rfl⟩
      · refine ok_iload_n 31 rfl rfl rfl (ok_goto 32 55 rfl rfl rfl (ok_iret 34 rfl rfl rfl ?_))
        exact ⟨_, rfl, rfl⟩
    · refine ok_iconst 14 rfl rfl (by decide) (ok_iret 15 rfl rfl rfl ?_)
      exact ⟨_, rfl, rfl⟩
theorem s_Mo_job {σ : eS} {j w : Int} (h : iK σ) : MtI shB M_Mo_job [vr 0, vi j, vi w] σ (fun σ' _ => σ' = σ) := by
  refine Mt.of okM_Mo_job (Nat.le_of_ble_eq_true rfl) (fun hk hg => ?_)
  obtain ⟨k1, k2, k3, k4, k5, k6, -⟩ := id h
  refine ok_aload_n 0 rfl rfl rfl (ok_iload_n 1 rfl rfl rfl (ok_callVI (M' := M_Mo_isJob) (as := [_]) 2 rfl rfl ml_X12_366 (s_Mo_isJob h) rfl rfl (Nat.le_of_ble_eq_true rfl) ⟨Nat.le_of_ble_eq_true rfl, Nat.le_of_ble_eq_true rfl⟩ rfl (Nat.le_of_ble_eq_true rfl) (fun σ' z1 a1 => ?_)))
  obtain ⟨hs_, a1⟩ := a1
  rw [hs_]; clear hs_ σ'
  refine ok_if_eq 3 20 rfl rfl rfl (fun h5 => ?_) (fun h5 => ?_)
  · refine ok_iconst 10 rfl rfl (by decide) (ok_iret 11 rfl rfl rfl ?_)
    exact ⟨_, rfl, rfl⟩
  · refine ok_iload_n 4 rfl rfl rfl (ok_i2l 5 rfl rfl (ok_lconst (w := 0) 6 rfl rfl rfl (by decide) (ok_ldc2 7 (2) rfl rfl kc_X12_306 (by decide) (ok_callSI (M' := M_Mo_isIn) (as := [_, _, _]) 8 rfl rfl ml_X12_99 (s_Mo_isIn_r) ⟨Nat.le_of_ble_eq_true rfl, Nat.le_of_ble_eq_true rfl⟩ rfl (Nat.le_of_ble_eq_true rfl) (fun σ' z2 a2 => ?_)))))
    obtain ⟨hs_, a2⟩ := a2
    rw [hs_]; clear hs_ σ'
    refine ok_if_ne 9 22 rfl rfl rfl (fun h17 => ?_) (fun h17 => ?_)
    · refine ok_iconst 12 rfl rfl (by decide) (ok_ist3 13 rfl rfl rfl (ok_iconst 14 rfl rfl (by decide) (ok_ist4 15 rfl rfl rfl (ok_iconst 16 rfl rfl (by decide) (ok_ist5 17 rfl rfl rfl (ok_iconst 18 rfl rfl (by decide) (ok_ist6 19 rfl rfl rfl (ok_iconst 20 rfl rfl (by decide) (ok_ist7 21 rfl rfl rfl (ok_iconst 22 rfl rfl (by decide) (ok_ist8 23 rfl rfl rfl ?_)))))))))))
      have r1 := yes1 a1 h5
      have r3 := h.two r1.1
      refine lpO3 (fun (x p : Int) (y : Int × Int × Int × Int) => [some (vr 0), some (vi j), some (vi w), some (vi x), some (vi y.1), some (vi y.2.1), some (vi y.2.2.1), some (vi y.2.2.2), some (vi p), none]) (fun _ _ _ => σ) (fun x p y => 0 ≤ p ∧ p ≤ σ 0 27 ∧ x = sm (fun q => σ 12 q) p.toNat ∧ 0 ≤ y.2.1 ∧ y.2.1 ≤ p ∧ 0 ≤ y.2.2.1 ∧ y.2.2.1 ≤ p) (fun _ p _ => (64 - p).toNat) ?_ 0 0 (0, 0, 0, -1) ⟨by omega, by omega, rfl, by decide, by decide, by decide, by decide⟩
      rintro x p ⟨y1, y2, y3, y4⟩ ⟨p1, p2, xe, c1, c2, c3, c4⟩ ih
      dsimp only at c1 c2 c3 c4 ⊢
      obtain ⟨w3, w4⟩ := wt_sum h p1 p2
      refine ok_iload 24 rfl rfl rfl (ok_aload_n 25 rfl rfl rfl (ok_getI 26 rfl rfl fl_X12_273 rfl rfl (Or.inl rfl) (ok_icmp_ge 27 126 rfl rfl rfl (fun h45 => ?_) (fun h45 => ?_))))
      · refine ok_iload_n 69 rfl rfl rfl (ok_if_ne 70 135 rfl rfl rfl (fun h127 => ?_) (fun h127 => ?_))
        · refine ok_iload_n 73 rfl rfl rfl (ok_iconst 74 rfl rfl (by decide) (ok_icmp_ne 75 145 rfl rfl rfl (fun h137 => ?_) (fun h137 => ?_)))
          · refine ok_iload 78 rfl rfl rfl (ok_iret 79 rfl rfl rfl ?_)
            exact ⟨_, rfl, rfl⟩
          · refine ok_iload 76 rfl rfl rfl (ok_goto 77 147 rfl rfl rfl (ok_iret 79 rfl rfl rfl ?_))
            exact ⟨_, rfl, rfl⟩
        · refine ok_iload 71 rfl rfl rfl (ok_goto 72 147 rfl rfl rfl (ok_iret 79 rfl rfl rfl ?_))
          exact ⟨_, rfl, rfl⟩
      · obtain ⟨w1, w2⟩ := wt_le h p1 (by omega)
        have e := sm_s (fun q => σ 12 q) p1
        have w5 := (wt_sum h (k := p + 1) (by omega) (by omega)).2
        refine ok_iload_n 28 rfl rfl rfl (ok_aload_n 29 rfl rfl rfl (ok_getR 30 rfl rfl fl_X12_48 rfl rfl (ok_iload 31 rfl rfl rfl (ok_iald 32 rfl rfl rfl (by first | omega | (simp [up_if]; omega) | (simp [up_if] at *; omega)) (ok_iadd 33 rfl rfl (by first | omega | (simp [up_if]; omega) | (simp [up_if] at *; omega)) (ok_ist3 34 rfl rfl rfl (ok_aload_n 35 rfl rfl rfl (ok_getR 36 rfl rfl fl_X12_51 rfl rfl (ok_bipush 37 rfl rfl (by decide) (by decide) (ok_iload 38 rfl rfl rfl (ok_imul 39 rfl rfl (by first | omega | (simp [up_if]; omega) | (simp [up_if] at *; omega)) (ok_iload_n 40 rfl rfl rfl (ok_iadd 41 rfl rfl (by first | omega | (simp [up_if]; omega) | (simp [up_if] at *; omega)) (ok_iald 42 rfl rfl rfl (by first | omega | (simp [up_if]; omega) | (simp [up_if] at *; omega)) (ok_ist9 43 rfl rfl rfl (ok_iload 44 rfl rfl rfl (ok_aload_n 45 rfl rfl rfl (ok_getI 46 rfl rfl fl_X12_363 rfl rfl (Or.inl rfl) (ok_icmp_lt 47 84 rfl rfl rfl (fun h78 => ?_) (fun h78 => ?_))))))))))))))))))))
        · refine ok_iload_n 49 rfl rfl rfl (ok_ist4 50 rfl rfl rfl (ok_inc5 51 rfl rfl rfl (by first | omega | (simp [up_if]; omega) | (simp [up_if] at *; omega)) (ok_iload 52 rfl rfl rfl (ok_iload 53 rfl rfl rfl (ok_iconst 54 rfl rfl (by decide) (ok_icmp_eq 55 109 rfl rfl rfl (fun h95 => ?_) (fun h95 => ?_)))))))
          · refine ok_iconst 61 rfl rfl (by decide) (ok_callSI (M' := M_Mo_one) (as := [_]) 62 rfl rfl ml_X12_192 (s_Mo_one) ⟨Nat.le_of_ble_eq_true rfl, Nat.le_of_ble_eq_true rfl⟩ rfl (Nat.le_of_ble_eq_true rfl) (fun σ' z hz => ?_))
            obtain ⟨hs_, hz⟩ := hz
            rw [hs_]; clear hs_ σ'
            have q1 : 0 ≤ z ∧ z ≤ 1 := by rw [hz]; split <;> omega
            refine ok_iadd 63 rfl rfl (by first | omega | (simp [up_if]; omega) | (simp [up_if] at *; omega)) (ok_ist6 64 rfl rfl rfl (ok_iload 65 rfl rfl rfl (ok_ist7 66 rfl rfl rfl (ok_inc8 67 rfl rfl rfl (by first | omega | (simp [up_if]; omega) | (simp [up_if] at *; omega)) (ok_goto 68 39 rfl rfl rfl ?_)))))
            exact ok_fg [some (vr 0), some (vi j), some (vi w), some (vi _), some (vi _), some (vi _), some (vi _), some (vi _), some (vi _), none] ⟨rfl, rfl, rfl, rfl, rfl, rfl, rfl, rfl, rfl, trivial⟩ (ih _ (p + 1) (_, _, _, _) ⟨by omega, by omega, by omega, by dsimp only; omega, by dsimp only; omega, by dsimp only; omega, by dsimp only; omega⟩ (by omega))
          · refine ok_iload 56 rfl rfl rfl (ok_iload 57 rfl rfl rfl (ok_icmp_eq 58 109 rfl rfl rfl (fun h102 => ?_) (fun h102 => ?_)))
            · refine ok_iconst 61 rfl rfl (by decide) (ok_callSI (M' := M_Mo_one) (as := [_]) 62 rfl rfl ml_X12_192 (s_Mo_one) ⟨Nat.le_of_ble_eq_true rfl, Nat.le_of_ble_eq_true rfl⟩ rfl (Nat.le_of_ble_eq_true rfl) (fun σ' z hz => ?_))
              obtain ⟨hs_, hz⟩ := hz
              rw [hs_]; clear hs_ σ'
              have q1 : 0 ≤ z ∧ z ≤ 1 := by rw [hz]; split <;> omega
              refine ok_iadd 63 rfl rfl (by first | omega | (simp [up_if]; omega) | (simp [up_if] at *; omega)) (ok_ist6 64 rfl rfl rfl (ok_iload 65 rfl rfl rfl (ok_ist7 66 rfl rfl rfl (ok_inc8 67 rfl rfl rfl (by first | omega | (simp [up_if]; omega) | (simp [up_if] at *; omega)) (ok_goto 68 39 rfl rfl rfl ?_)))))
              exact ok_fg [some (vr 0), some (vi j), some (vi w), some (vi _), some (vi _), some (vi _), some (vi _), some (vi _), some (vi _), none] ⟨rfl, rfl, rfl, rfl, rfl, rfl, rfl, rfl, rfl, trivial⟩ (ih _ (p + 1) (_, _, _, _) ⟨by omega, by omega, by omega, by dsimp only; omega, by dsimp only; omega, by dsimp only; omega, by dsimp only; omega⟩ (by omega))
            · refine ok_iconst 59 rfl rfl (by decide) (ok_goto 60 110 rfl rfl rfl (ok_callSI (M' := M_Mo_one) (as := [_]) 62 rfl rfl ml_X12_192 (s_Mo_one) ⟨Nat.le_of_ble_eq_true rfl, Nat.le_of_ble_eq_true rfl⟩ rfl (Nat.le_of_ble_eq_true rfl) (fun σ' z hz => ?_)))
              obtain ⟨hs_, hz⟩ := hz
              rw [hs_]; clear hs_ σ'
              have q1 : 0 ≤ z ∧ z ≤ 1 := by rw [hz]; split <;> omega
              refine ok_iadd 63 rfl rfl (by first | omega | (simp [up_if]; omega) | (simp [up_if] at *; omega)) (ok_ist6 64 rfl rfl rfl (ok_iload 65 rfl rfl rfl (ok_ist7 66 rfl rfl rfl (ok_inc8 67 rfl rfl rfl (by first | omega | (simp [up_if]; omega) | (simp [up_if] at *; omega)) (ok_goto 68 39 rfl rfl rfl ?_)))))
              exact ok_fg [some (vr 0), some (vi j), some (vi w), some (vi _), some (vi _), some (vi _), some (vi _), some (vi _), some (vi _), none] ⟨rfl, rfl, rfl, rfl, rfl, rfl, rfl, rfl, rfl, trivial⟩ (ih _ (p + 1) (_, _, _, _) ⟨by omega, by omega, by omega, by dsimp only; omega, by dsimp only; omega, by dsimp only; omega, by dsimp only; omega⟩ (by omega))
        · refine ok_goto 48 120 rfl rfl rfl (ok_inc8 67 rfl rfl rfl (by first | omega | (simp [up_if]; omega) | (simp [up_if] at *; omega)) (ok_goto 68 39 rfl rfl rfl ?_))
          exact ok_fg [some (vr 0), some (vi j), some (vi w), some (vi _), some (vi _), some (vi _), some (vi _), some (vi _), some (vi _), none] ⟨rfl, rfl, rfl, rfl, rfl, rfl, rfl, rfl, rfl, trivial⟩ (ih _ (p + 1) (_, _, _, _) ⟨by omega, by omega, by omega, by dsimp only; omega, by dsimp only; omega, by dsimp only; omega, by dsimp only; omega⟩ (by omega))
    · refine ok_iconst 10 rfl rfl (by decide) (ok_iret 11 rfl rfl rfl ?_)
      exact ⟨_, rfl, rfl⟩
theorem s_Mo_says {σ : eS} {b : Int} (h : 0 ≤ σ 0 42 ∧ σ 0 42 < 1400) : MtV shB M_Mo_says [vr 0, vi b] σ (fun σ' => fr (fun c k => c = 23 ∨ (c = 0 ∧ k = 42)) σ σ' ∧ σ' 0 42 = σ 0 42 + 1) := by
  refine Mt.of okM_Mo_says (Nat.le_of_ble_eq_true rfl) (fun hk hg => ?_)
  refine ok_aload_n 0 rfl rfl rfl (ok_getR 1 rfl rfl fl_X12_82 rfl rfl (ok_aload_n 2 rfl rfl rfl (ok_getI 3 rfl rfl fl_X12_357 rfl rfl (Or.inl rfl) (ok_iload_n 4 rfl rfl rfl (ok_iast 5 rfl rfl rfl (by first | omega | (simp [up_if]; omega) | (simp [up_if] at *; omega)) (ok_aload_n 6 rfl rfl rfl (ok_dup 7 rfl rfl rfl (ok_getI 8 rfl rfl fl_X12_357 rfl rfl (Or.inl rfl) (ok_iconst 9 rfl rfl (by decide) (ok_iadd 10 rfl rfl (by first | omega | (simp [up_if]; omega) | (simp [up_if] at *; omega)) (ok_putI 11 rfl rfl fl_X12_357 rfl rfl rfl rfl (ok_vret 12 rfl rfl rfl ?_))))))))))))
  refine ⟨rfl, fr_up (fr_up fr.rf (by simp)) (by simp), by simp [up_if]⟩
theorem s_Mo_out {σ : eS} {p : Int} (h : 0 ≤ σ 0 42 ∧ σ 0 42 ≤ 1400) : MtI shB M_Mo_out [vr 0, vi p] σ (fun σ' _ => σ' = σ) := by
  refine Mt.of okM_Mo_out (Nat.le_of_ble_eq_true rfl) (fun hk hg => ?_)
  refine ok_iload_n 0 rfl rfl rfl (ok_i2l 1 rfl rfl (ok_lconst (w := 0) 2 rfl rfl rfl (by decide) (ok_aload_n 3 rfl rfl rfl (ok_getI 4 rfl rfl fl_X12_357 rfl rfl (Or.inl rfl) (ok_iconst 5 rfl rfl (by decide) (ok_isub 6 rfl rfl (by first | omega | (simp [up_if]; omega) | (simp [up_if] at *; omega)) (ok_i2l 7 rfl rfl (ok_callSI (M' := M_Mo_isIn) (as := [_, _, _]) 8 rfl rfl ml_X12_99 (s_Mo_isIn_r) ⟨Nat.le_of_ble_eq_true rfl, Nat.le_of_ble_eq_true rfl⟩ rfl (Nat.le_of_ble_eq_true rfl) (fun σ' z hz => ?_)))))))))
  obtain ⟨hs_, hz⟩ := hz
  rw [hs_]; clear hs_ σ'
  refine ok_if_eq 9 25 rfl rfl rfl (fun h13 => ?_) (fun h13 => ?_)
  · refine ok_iconst 15 rfl rfl (by decide) (ok_iret 16 rfl rfl rfl ?_)
    exact ⟨_, rfl, rfl⟩
  · refine ok_aload_n 10 rfl rfl rfl (ok_getR 11 rfl rfl fl_X12_82 rfl rfl (ok_iload_n 12 rfl rfl rfl (ok_iald 13 rfl rfl rfl (by first | omega | (simp [up_if]; omega) | (simp [up_if] at *; omega)) (ok_goto 14 26 rfl rfl rfl (ok_iret 16 rfl rfl rfl ?_)))))
    exact ⟨_, rfl, rfl⟩
theorem s_Mo_isLeast {σ : eS} {w : Int} : MtI shB M_Mo_isLeast [vi w] σ (fun σ' z => σ' = σ ∧ ((z = 1 ∧ 0 ≤ w ∧ w ≤ 99999999) ∨ (z = 0 ∧ ¬ (0 ≤ w ∧ w ≤ 99999999)))) := by
  refine Mt.of okM_Mo_isLeast (Nat.le_of_ble_eq_true rfl) (fun hk hg => ?_)
  refine ok_iload_n 0 rfl rfl rfl (ok_i2l 1 rfl rfl (ok_lconst (w := 0) 2 rfl rfl rfl (by decide) (ok_ldc2 3 (99999999) rfl rfl kc_X12_95 (by decide) (ok_callSI (M' := M_Mo_isIn) (as := [_, _, _]) 4 rfl rfl ml_X12_99 (s_Mo_isIn_r) ⟨Nat.le_of_ble_eq_true rfl, Nat.le_of_ble_eq_true rfl⟩ rfl (Nat.le_of_ble_eq_true rfl) (fun σ' z hz => ?_)))))
  obtain ⟨hs_, hz⟩ := hz
  rw [hs_]; clear hs_ σ'
  refine ok_zret 5 rfl rfl rfl (by omega) ?_
  exact ⟨_, rfl, rfl, hz⟩
end
section
abbrev rgW : Nat → Int → Prop := fun c k => c = 23 ∨ (c = 0 ∧ k = 42)
def tn (e : Int) : Int := if e < 0 then 0 else if e = 0 then 1 else if e = 1 then 10 else if e = 2 then 100 else if e = 3 then 1000 else if e = 4 then 10000 else if e = 5 then 100000 else if e = 6 then 1000000 else if e = 7 then 10000000 else if e = 8 then 100000000 else 1000000000
theorem tn_s {e : Int} (h : 0 ≤ e ∧ e ≤ 8) : tn e * 10 = tn (e + 1) ∧ 1 ≤ tn e ∧ tn e ≤ 100000000 := by
  rcases (show e = 0 ∨ e = 1 ∨ e = 2 ∨ e = 3 ∨ e = 4 ∨ e = 5 ∨ e = 6 ∨ e = 7 ∨ e = 8 by omega) with q | q | q | q | q | q | q | q | q <;> subst q <;> exact ⟨rfl, by decide, by decide⟩
theorem tn_d {e : Int} (h : 0 ≤ e ∧ e ≤ 8) : tn e / 10 = tn (e - 1) := by
  rcases (show e = 0 ∨ e = 1 ∨ e = 2 ∨ e = 3 ∨ e = 4 ∨ e = 5 ∨ e = 6 ∨ e = 7 ∨ e = 8 by omega) with q | q | q | q | q | q | q | q | q <;> subst q <;> rfl
theorem tn_8 : tn 8 = 100000000 := rfl
theorem tn_n {e : Int} (h : 1 ≤ tn e) : 0 ≤ e := by
  by_cases q : e < 0
  · unfold tn at h
    rw [if_pos q] at h
    omega
  · omega
theorem s_Mo_show {σ : eS} (h : iK σ) : MtI shB M_Mo_show [vr 0] σ (fun σ' z => fr rgW σ σ' ∧ 0 ≤ σ' 0 42 ∧ σ' 0 42 ≤ 1216) := by
  refine Mt.of okM_Mo_show (Nat.le_of_ble_eq_true rfl) (fun hk hg => ?_)
  obtain ⟨k1, k2, k3, k4, k5, k6, -⟩ := id h
  refine ok_aload_n 0 rfl rfl rfl (ok_iconst 1 rfl rfl (by decide) (ok_putI 2 rfl rfl fl_X12_357 rfl rfl rfl rfl (ok_iconst 3 rfl rfl (by decide) (ok_ist1 4 rfl rfl rfl ?_))))
  refine lpO2 (fun (p : Int) (_ : eS) => [some (vr 0), some (vi p), none, none]) (fun _ ρ => ρ) (fun p ρ => 0 ≤ p ∧ p ≤ σ 0 27 ∧ fr rgW σ ρ ∧ 0 ≤ ρ 0 42 ∧ ρ 0 42 ≤ 19 * p) (fun p _ => (64 - p).toNat) ?_ 0 _ ⟨by omega, by omega, fr_up fr.rf (by simp [rgW]), by simp [up_if], by simp [up_if]⟩
  rintro p ρ ⟨p1, p2, f, s1, s2⟩ ih
  have e27 : ρ 0 27 = σ 0 27 := f 0 27 (by simp only [rgW]; omega)
  refine ok_iload_n 5 rfl rfl rfl (ok_aload_n 6 rfl rfl rfl (ok_getI 7 rfl rfl fl_X12_273 rfl rfl (Or.inl rfl) (ok_icmp_ge 8 120 rfl rfl rfl (fun h12 => ?_) (fun h12 => ?_))))
  · refine ok_aload_n 71 rfl rfl rfl (ok_getI 72 rfl rfl fl_X12_357 rfl rfl (Or.inl rfl) (ok_iret 73 rfl rfl rfl ?_))
    exact ⟨_, rfl, f, s1, by omega⟩
  · have plt : p < σ 0 27 := by omega
    obtain ⟨w1, w2⟩ := wt_le h p1 plt
    refine ok_iconst 9 rfl rfl (by decide) (ok_ist2 10 rfl rfl rfl ?_)
    have e12 : ρ 12 p = σ 12 p := f 12 p (by simp only [rgW]; omega)
    refine lpO (fun e : Int => [some (vr 0), some (vi p), some (vi (tn e)), none]) (fun _ => ρ) (fun e => 0 ≤ e ∧ e ≤ 8) (fun e => (8 - e).toNat) ?_ 0 ⟨by omega, by omega⟩
    rintro e ⟨e1, e2⟩ ih2
    obtain ⟨t1, t2, t3⟩ := tn_s ⟨e1, e2⟩
    have dv := div_bd (u := ρ 12 p) (g := tn e) (B := 799999992) ⟨by omega, by omega⟩ t2
    refine ok_aload_n 11 rfl rfl rfl (ok_getR 12 rfl rfl fl_X12_48 rfl rfl (ok_iload_n 13 rfl rfl rfl (ok_iald 14 rfl rfl rfl (by first | omega | (simp [up_if]; omega) | (simp [up_if] at *; omega)) (ok_iload_n 15 rfl rfl rfl (ok_idiv 16 rfl rfl (by first | omega | (simp [up_if]; omega) | (simp [up_if] at *; omega)) (by first | omega | (simp [up_if]; omega) | (simp [up_if] at *; omega)) (ok_bipush 17 rfl rfl (by decide) (by decide) (ok_icmp_le 18 38 rfl rfl rfl (fun h27 => ?_) (fun h27 => ?_))))))))
    · clear ih2
      refine lpO2 (fun (e : Int) (_ : eS) => [some (vr 0), some (vi p), some (vi (tn e)), none]) (fun _ υ => υ) (fun e υ => -1 ≤ e ∧ e ≤ 8 ∧ fr rgW σ υ ∧ 0 ≤ υ 0 42 ∧ υ 0 42 + e ≤ 19 * p + 8) (fun e _ => (e + 1).toNat) ?_ e ρ ⟨by omega, by omega, f, s1, by omega⟩
      clear t1 t2 t3 dv h27 e1 e2 e e27 s1 s2 f
      rintro e υ ⟨e1, e2, f, s1, s2⟩ ih2
      have e12 : υ 12 p = σ 12 p := f 12 p (by simp only [rgW]; omega)
      refine ok_iload_n 24 rfl rfl rfl (ok_if_le 25 68 rfl rfl rfl (fun h39 => ?_) (fun h39 => ?_))
      · have e0 : e = -1 := by
          by_cases q : 0 ≤ e
          · have := (tn_s ⟨q, e2⟩).2.1; omega
          · omega
        refine ok_aload_n 43 rfl rfl rfl (ok_bipush 44 rfl rfl (by decide) (by decide) (ok_callVV (M' := M_Mo_says) (as := [_]) 45 rfl rfl ml_X12_360 (s_Mo_says ⟨s1, by omega⟩) rfl rfl (Nat.le_of_ble_eq_true rfl) ⟨Nat.le_of_ble_eq_true rfl, Nat.le_of_ble_eq_true rfl⟩ rfl (Nat.le_of_ble_eq_true rfl) (fun υ' hz => ?_)))
        have f' := f.tr hz.1
        have hz2 := hz.2
        refine ok_iconst 46 rfl rfl (by decide) (ok_ist3 47 rfl rfl rfl ?_)
        refine lpO2 (fun (i : Int) (_ : eS) => [some (vr 0), some (vi p), some (vi (tn e)), some (vi i)]) (fun _ υ => υ) (fun i υ => 0 ≤ i ∧ i ≤ σ 0 28 ∧ fr rgW σ υ ∧ 0 ≤ υ 0 42 ∧ υ 0 42 ≤ 19 * p + 10 + i) (fun i _ => (8 - i).toNat) ?_ 0 υ' ⟨by omega, by omega, f', by omega, by omega⟩
        clear e12 s1 s2 f f' hz hz2 ih2 
        rintro i υ ⟨i1, i2, f, s1, s2⟩ ih2
        have e28 : υ 0 28 = σ 0 28 := f 0 28 (by simp only [rgW]; omega)
        have e13 : ∀ k, υ 13 k = σ 13 k := fun k => f 13 k (by simp only [rgW]; omega)
        refine ok_iload_n 48 rfl rfl rfl (ok_aload_n 49 rfl rfl rfl (ok_getI 50 rfl rfl fl_X12_276 rfl rfl (Or.inl rfl) (ok_icmp_ge 51 108 rfl rfl rfl (fun h81 => ?_) (fun h81 => ?_))))
        · refine ok_aload_n 66 rfl rfl rfl (ok_bipush 67 rfl rfl (by decide) (by decide) (ok_callVV (M' := M_Mo_says) (as := [_]) 68 rfl rfl ml_X12_360 (s_Mo_says ⟨s1, by omega⟩) rfl rfl (Nat.le_of_ble_eq_true rfl) ⟨Nat.le_of_ble_eq_true rfl, Nat.le_of_ble_eq_true rfl⟩ rfl (Nat.le_of_ble_eq_true rfl) (fun υ'' hz => ?_)))
          refine ok_inc1 69 rfl rfl rfl (by first | omega | (simp [up_if]; omega) | (simp [up_if] at *; omega)) (ok_goto 70 7 rfl rfl rfl ?_)
          exact ok_fg [some (vr 0), some (vi (p + 1)), none, none] ⟨rfl, rfl, trivial⟩ (ih (p + 1) _ ⟨by omega, by omega, f.tr hz.1, by have := hz.2; omega, by have := hz.2; omega⟩ (by omega))
        · have hc := h.2.2.2.2.2.2.2.1 p i p1 (by omega) i1 (by omega)
          rw [← e13] at hc
          refine ok_aload_n 52 rfl rfl rfl (ok_bipush 53 rfl rfl (by decide) (by decide) (ok_aload_n 54 rfl rfl rfl (ok_getR 55 rfl rfl fl_X12_51 rfl rfl (ok_bipush 56 rfl rfl (by decide) (by decide) (ok_iload_n 57 rfl rfl rfl (ok_imul 58 rfl rfl (by first | omega | (simp [up_if]; omega) | (simp [up_if] at *; omega)) (ok_iload_n 59 rfl rfl rfl (ok_iadd 60 rfl rfl (by first | omega | (simp [up_if]; omega) | (simp [up_if] at *; omega)) (ok_iald 61 rfl rfl rfl (by first | omega | (simp [up_if]; omega) | (simp [up_if] at *; omega)) (ok_iadd 62 rfl rfl (by first | omega | (simp [up_if]; omega) | (simp [up_if] at *; omega)) (ok_callVV (M' := M_Mo_says) (as := [_]) 63 rfl rfl ml_X12_360 (s_Mo_says ⟨s1, by omega⟩) rfl rfl (Nat.le_of_ble_eq_true rfl) ⟨Nat.le_of_ble_eq_true rfl, Nat.le_of_ble_eq_true rfl⟩ rfl (Nat.le_of_ble_eq_true rfl) (fun υ'' hz => ?_))))))))))))
          refine ok_inc3 64 rfl rfl rfl (by first | omega | (simp [up_if]; omega) | (simp [up_if] at *; omega)) (ok_goto 65 76 rfl rfl rfl ?_)
          exact ih2 (i + 1) _ ⟨by omega, by omega, f.tr hz.1, by have := hz.2; omega, by have := hz.2; omega⟩ (by omega)
      · have e0 : 0 ≤ e := tn_n (by omega)
        obtain ⟨t1, t2, t3⟩ := tn_s (e := e) ⟨e0, e2⟩
        have dv := div_bd (u := υ 12 p) (g := tn e) (B := 799999992) ⟨by omega, by omega⟩ t2
        refine ok_aload_n 26 rfl rfl rfl (ok_bipush 27 rfl rfl (by decide) (by decide) (ok_aload_n 28 rfl rfl rfl (ok_getR 29 rfl rfl fl_X12_48 rfl rfl (ok_iload_n 30 rfl rfl rfl (ok_iald 31 rfl rfl rfl (by first | omega | (simp [up_if]; omega) | (simp [up_if] at *; omega)) (ok_iload_n 32 rfl rfl rfl (ok_idiv 33 rfl rfl (by first | omega | (simp [up_if]; omega) | (simp [up_if] at *; omega)) (by first | omega | (simp [up_if]; omega) | (simp [up_if] at *; omega)) (ok_bipush 34 rfl rfl (by decide) (by decide) (ok_irem 35 rfl rfl (by first | omega | (simp [up_if]; omega) | (simp [up_if] at *; omega)) (by first | omega | (simp [up_if]; omega) | (simp [up_if] at *; omega)) (ok_iadd 36 rfl rfl (by first | omega | (simp [up_if]; omega) | (simp [up_if] at *; omega)) (ok_callVV (M' := M_Mo_says) (as := [_]) 37 rfl rfl ml_X12_360 (s_Mo_says ⟨s1, by omega⟩) rfl rfl (Nat.le_of_ble_eq_true rfl) ⟨Nat.le_of_ble_eq_true rfl, Nat.le_of_ble_eq_true rfl⟩ rfl (Nat.le_of_ble_eq_true rfl) (fun υ' hz => ?_))))))))))))
        refine ok_iload_n 38 rfl rfl rfl (ok_bipush 39 rfl rfl (by decide) (by decide) (ok_idiv 40 rfl rfl (by first | omega | (simp [up_if]; omega) | (simp [up_if] at *; omega)) (by first | omega | (simp [up_if]; omega) | (simp [up_if] at *; omega)) (ok_ist2 41 rfl rfl rfl (ok_goto 42 38 rfl rfl rfl ?_))))
        rw [tn_d ⟨e0, e2⟩]
        exact ih2 (e - 1) _ ⟨by omega, by omega, f.tr hz.1, by have := hz.2; omega, by have := hz.2; omega⟩ (by omega)
    · have e8 : e ≠ 8 := by
        intro q
        rw [q, tn_8] at h27
        omega
      refine ok_iload_n 19 rfl rfl rfl (ok_bipush 20 rfl rfl (by decide) (by decide) (ok_imul 21 rfl rfl (by first | omega | (simp [up_if]; omega) | (simp [up_if] at *; omega)) (ok_ist2 22 rfl rfl rfl (ok_goto 23 17 rfl rfl rfl ?_))))
      rw [t1]
      exact ih2 (e + 1) ⟨by omega, by omega⟩ (by omega)
theorem s_Mo_kept {σ : eS} {w : Int} : MtI shB M_Mo_kept [vr 0, vi w] σ (fun σ' _ => σ' = σ) := by
  refine Mt.of okM_Mo_kept (Nat.le_of_ble_eq_true rfl) (fun hk hg => ?_)
  refine ok_iload_n 0 rfl rfl rfl ?_
  rcases (show w = 0 ∨ w = 1 ∨ w = 2 ∨ w = 3 ∨ w = 4 ∨ (w < 0 ∨ 4 < w) by omega) with q | q | q | q | q | q
  · subst q
    refine ok_tin 1 (len := 35) 36 rfl rfl (by decide) (by decide) rfl rfl ?_
    refine ok_aload_n 2 rfl rfl rfl (ok_getI 3 rfl rfl fl_X12_282 rfl rfl (Or.inl rfl) (ok_iret 4 rfl rfl rfl ?_))
    exact ⟨_, rfl, rfl⟩
  · subst q
    refine ok_tin 1 (len := 35) 41 rfl rfl (by decide) (by decide) rfl rfl ?_
    refine ok_aload_n 5 rfl rfl rfl (ok_getI 6 rfl rfl fl_X12_273 rfl rfl (Or.inl rfl) (ok_iret 7 rfl rfl rfl ?_))
    exact ⟨_, rfl, rfl⟩
  · subst q
    refine ok_tin 1 (len := 35) 46 rfl rfl (by decide) (by decide) rfl rfl ?_
    refine ok_aload_n 8 rfl rfl rfl (ok_getI 9 rfl rfl fl_X12_279 rfl rfl (Or.inl rfl) (ok_iret 10 rfl rfl rfl ?_))
    exact ⟨_, rfl, rfl⟩
  · subst q
    refine ok_tin 1 (len := 35) 51 rfl rfl (by decide) (by decide) rfl rfl ?_
    refine ok_aload_n 11 rfl rfl rfl (ok_getI 12 rfl rfl fl_X12_282 rfl rfl (Or.inl rfl) (ok_iconst 13 rfl rfl (by decide) (ok_icmp_ne 14 66 rfl rfl rfl (fun h56 => ?_) (fun h56 => ?_))))
    · refine ok_aload_n 18 rfl rfl rfl (ok_getI 19 rfl rfl fl_X12_276 rfl rfl (Or.inl rfl) (ok_iret 20 rfl rfl rfl ?_))
      exact ⟨_, rfl, rfl⟩
    · refine ok_aload_n 15 rfl rfl rfl (ok_getI 16 rfl rfl fl_X12_363 rfl rfl (Or.inl rfl) (ok_goto 17 70 rfl rfl rfl (ok_iret 20 rfl rfl rfl ?_)))
      exact ⟨_, rfl, rfl⟩
  · subst q
    refine ok_tin 1 (len := 35) 71 rfl rfl (by decide) (by decide) rfl rfl ?_
    refine ok_aload_n 21 rfl rfl rfl (ok_getI 22 rfl rfl fl_X12_125 rfl rfl (Or.inl rfl) (ok_iret 23 rfl rfl rfl ?_))
    exact ⟨_, rfl, rfl⟩
  · refine ok_tout 1 (len := 35) 76 rfl rfl q rfl ?_
    refine ok_iconst 24 rfl rfl (by decide) (ok_iret 25 rfl rfl rfl ?_)
    exact ⟨_, rfl, rfl⟩
end
section
theorem bit_x : ∀ s : Fin 256, ∀ j : Fin 8, bt (s.val : Int) (j.val : Int) = true → 0 ≤ ixor (s.val : Int) (ishl 1 (j.val : Int)) ∧ ixor (s.val : Int) (ishl 1 (j.val : Int)) < (s.val : Int) := by decide +kernel
theorem bitX {s j : Int} (h1 : 0 ≤ s ∧ s < 256) (h2 : 0 ≤ j ∧ j < 8) (h : bt s j = true) : 0 ≤ ixor s (ishl 1 j) ∧ ixor s (ishl 1 j) < s := fin2 (P := fun s j => bt s j = true → 0 ≤ ixor s (ishl 1 j) ∧ ixor s (ishl 1 j) < s) bit_x h1.1 h1.2 h2.1 h2.2 h
theorem s_Mo_joined {σ : eS} {s T l : Int} (hB : iB1 σ) (ht : tabB σ s) (hT : 0 ≤ T ∧ T < 256) : MtI shB M_Mo_joined [vr 0, vi s, vi T, vi l] σ (fun σ' z => σ' = σ ∧ 0 ≤ z ∧ z < 256) := by
  refine Mt.of okM_Mo_joined (Nat.le_of_ble_eq_true rfl) (fun hk hg => ?_)
  obtain ⟨u1, u2, u3⟩ := ht
  have tn := hB.1 s u1 u2
  obtain ⟨z1, z2, z3, -⟩ := bit2 (n := σ 1 s) ⟨by omega, by omega⟩
  refine ok_iconst 0 rfl rfl (by decide) (ok_ist4 1 rfl rfl rfl (ok_iconst 2 rfl rfl (by decide) (ok_ist5 3 rfl rfl rfl ?_)))
  refine lpO2 (fun v i : Int => [some (vr 0), some (vi s), some (vi T), some (vi l), some (vi v), some (vi i), none]) (fun _ _ => σ) (fun v i => 0 ≤ i ∧ i ≤ σ 1 s ∧ 0 ≤ v ∧ v < p2 (σ 1 s)) (fun _ i => (σ 1 s - i).toNat) ?_ 0 0 ⟨by omega, by omega, by omega, by omega⟩
  rintro v i ⟨i1, i2, v1, v2⟩ ih
  refine ok_iload 4 rfl rfl rfl (ok_aload_n 5 rfl rfl rfl (ok_getR 6 rfl rfl fl_X12_7 rfl rfl (ok_iload_n 7 rfl rfl rfl (ok_iald 8 rfl rfl rfl (by first | omega | (simp [up_if]; omega) | (simp [up_if] at *; omega)) (ok_icmp_ge 9 75 rfl rfl rfl (fun h14 => ?_) (fun h14 => ?_))))))
  · refine ok_iload 42 rfl rfl rfl (ok_iret 43 rfl rfl rfl ?_)
    exact ⟨_, rfl, rfl, v1, by omega⟩
  · refine ok_iconst 10 rfl rfl (by decide) (ok_ist6 11 rfl rfl rfl ?_)
    refine lpO2 (fun v j : Int => [some (vr 0), some (vi s), some (vi T), some (vi l), some (vi v), some (vi i), some (vi j)]) (fun _ _ => σ) (fun v j => 0 ≤ j ∧ j ≤ σ 1 s ∧ 0 ≤ v ∧ v < p2 (σ 1 s)) (fun _ j => (σ 1 s - j).toNat) ?_ v 0 ⟨by omega, by omega, by omega, by omega⟩
    clear v1 v2 v
    rintro v j ⟨j1, j2, v1, v2⟩ ih2
    refine ok_iload 12 rfl rfl rfl (ok_aload_n 13 rfl rfl rfl (ok_getR 14 rfl rfl fl_X12_7 rfl rfl (ok_iload_n 15 rfl rfl rfl (ok_iald 16 rfl rfl rfl (by first | omega | (simp [up_if]; omega) | (simp [up_if] at *; omega)) (ok_icmp_ge 17 69 rfl rfl rfl (fun h28 => ?_) (fun h28 => ?_))))))
    · refine ok_inc5 40 rfl rfl rfl (by first | omega | (simp [up_if]; omega) | (simp [up_if] at *; omega)) (ok_goto 41 6 rfl rfl rfl ?_)
      exact ok_fg [some (vr 0), some (vi s), some (vi T), some (vi l), some (vi _), some (vi (i + 1)), none] ⟨rfl, rfl, rfl, rfl, rfl, rfl, trivial⟩ (ih _ (i + 1) ⟨by omega, by omega, by omega, by omega⟩ (by omega))
    · have e2 := bitP (s := v) (j := j) (by omega) (by omega)
      obtain ⟨l1, l2⟩ := sB_lt (s := v) (j := j) (n := σ 1 s) ⟨v1, v2⟩ ⟨j1, by omega⟩
      refine ok_iload_n 18 rfl rfl rfl (ok_iload 19 rfl rfl rfl (ok_ishr 20 rfl rfl (ok_iconst 21 rfl rfl (by decide) (ok_iand 22 rfl rfl (ok_iconst 23 rfl rfl (by decide) (ok_icmp_ne 24 63 rfl rfl rfl (fun h38 => ?_) (fun h38 => ?_)))))))
      · refine ok_inc6 38 rfl rfl rfl (by first | omega | (simp [up_if]; omega) | (simp [up_if] at *; omega)) (ok_goto 39 20 rfl rfl rfl ?_)
        exact ih2 _ (j + 1) ⟨by omega, by omega, by omega, by omega⟩ (by omega)
      · refine ok_aload_n 25 rfl rfl rfl (ok_iload_n 26 rfl rfl rfl (ok_iload 27 rfl rfl rfl (ok_iload 28 rfl rfl rfl (ok_callVI (M' := M_Mo_at) (as := [_, _, _]) 29 rfl rfl ml_X12_107 (s_Mo_at hB ⟨u1, u2⟩ ⟨by omega, by omega⟩ ⟨by omega, by omega⟩) rfl rfl (Nat.le_of_ble_eq_true rfl) ⟨Nat.le_of_ble_eq_true rfl, Nat.le_of_ble_eq_true rfl⟩ rfl (Nat.le_of_ble_eq_true rfl) (fun σ' z hz => ?_)))))
        rw [hz.1, hz.2]
        clear hz z σ'
        refine ok_iload_n 30 rfl rfl rfl (ok_icmp_lt 31 63 rfl rfl rfl (fun h51 => ?_) (fun h51 => ?_))
        · refine ok_inc6 38 rfl rfl rfl (by first | omega | (simp [up_if]; omega) | (simp [up_if] at *; omega)) (ok_goto 39 20 rfl rfl rfl ?_)
          exact ih2 _ (j + 1) ⟨by omega, by omega, by omega, by omega⟩ (by omega)
        · refine ok_iload 32 rfl rfl rfl (ok_iconst 33 rfl rfl (by decide) (ok_iload 34 rfl rfl rfl (ok_ishl 35 rfl rfl (ok_ior 36 rfl rfl ?_))))
          rw [e2]
          refine ok_ist4 37 rfl rfl rfl (ok_inc6 38 rfl rfl rfl (by first | omega | (simp [up_if]; omega) | (simp [up_if] at *; omega)) (ok_goto 39 20 rfl rfl rfl ?_))
          exact ih2 _ (j + 1) ⟨by omega, by omega, by omega, by omega⟩ (by omega)
theorem s_Mo_lack {σ : eS} {s l w : Int} (hB : iB1 σ) : MtI shB M_Mo_lack [vr 0, vi s, vi l, vi w] σ (fun σ' _ => σ' = σ) := by
  refine Mt.of okM_Mo_lack (Nat.le_of_ble_eq_true rfl) (fun hk hg => ?_)
  refine ok_aload_n 0 rfl rfl rfl (ok_iload_n 1 rfl rfl rfl (ok_callVI (M' := M_Mo_isTable) (as := [_]) 2 rfl rfl ml_X12_111 (s_Mo_isTable_r) rfl rfl (Nat.le_of_ble_eq_true rfl) ⟨Nat.le_of_ble_eq_true rfl, Nat.le_of_ble_eq_true rfl⟩ rfl (Nat.le_of_ble_eq_true rfl) (fun σ' z1 a1 => ?_)))
  obtain ⟨hs_, a1⟩ := a1
  rw [hs_]; clear hs_ σ'
  refine ok_if_eq 3 27 rfl rfl rfl (fun h5 => ?_) (fun h5 => ?_)
  · refine ok_iconst 13 rfl rfl (by decide) (ok_iret 14 rfl rfl rfl ?_)
    exact ⟨_, rfl, rfl⟩
  · refine ok_iload_n 4 rfl rfl rfl (ok_callSI (M' := M_Mo_isLeast) (as := [_]) 5 rfl rfl ml_X12_343 (s_Mo_isLeast) ⟨Nat.le_of_ble_eq_true rfl, Nat.le_of_ble_eq_true rfl⟩ rfl (Nat.le_of_ble_eq_true rfl) (fun σ' z2 a2 => ?_))
    obtain ⟨hs_, a2⟩ := a2
    rw [hs_]; clear hs_ σ'
    refine ok_if_eq 6 27 rfl rfl rfl (fun h12 => ?_) (fun h12 => ?_)
    · refine ok_iconst 13 rfl rfl (by decide) (ok_iret 14 rfl rfl rfl ?_)
      exact ⟨_, rfl, rfl⟩
    · refine ok_iload_n 7 rfl rfl rfl (ok_i2l 8 rfl rfl (ok_lconst (w := 0) 9 rfl rfl rfl (by decide) (ok_ldc2 10 (2) rfl rfl kc_X12_306 (by decide) (ok_callSI (M' := M_Mo_isIn) (as := [_, _, _]) 11 rfl rfl ml_X12_99 (s_Mo_isIn_r) ⟨Nat.le_of_ble_eq_true rfl, Nat.le_of_ble_eq_true rfl⟩ rfl (Nat.le_of_ble_eq_true rfl) (fun σ' z3 a3 => ?_)))))
      obtain ⟨hs_, a3⟩ := a3
      rw [hs_]; clear hs_ σ'
      refine ok_if_ne 12 29 rfl rfl rfl (fun h24 => ?_) (fun h24 => ?_)
      · refine ok_iconst 15 rfl rfl (by decide) (ok_ist4 16 rfl rfl rfl (ok_iconst 17 rfl rfl (by decide) (ok_ist5 18 rfl rfl rfl (ok_iconst 19 rfl rfl (by decide) (ok_ist6 20 rfl rfl rfl ?_)))))
        have ht := yes1 a1 h5
        obtain ⟨u1, u2, u3⟩ := id ht
        have tn := hB.1 s u1 u2
        obtain ⟨z1, z2, z3, -⟩ := bit2 (n := σ 1 s) ⟨by omega, by omega⟩
        refine lpO3 (fun T b k : Int => [some (vr 0), some (vi s), some (vi l), some (vi w), some (vi T), some (vi b), some (vi k), none]) (fun _ _ _ => σ) (fun T b k => 1 ≤ k ∧ k ≤ p2 (σ 1 s) ∧ 0 ≤ T ∧ T < 256) (fun _ _ k => (256 - k).toNat) ?_ 0 0 1 ⟨by omega, by omega, by omega, by omega⟩
        rintro T b k ⟨k1, k2, t1, t2⟩ ih
        refine ok_iload 21 rfl rfl rfl (ok_iconst 22 rfl rfl (by decide) (ok_aload_n 23 rfl rfl rfl (ok_getR 24 rfl rfl fl_X12_7 rfl rfl (ok_iload_n 25 rfl rfl rfl (ok_iald 26 rfl rfl rfl (by first | omega | (simp [up_if]; omega) | (simp [up_if] at *; omega)) (ok_ishl 27 rfl rfl ?_))))))
        rw [z1]
        refine ok_icmp_ge 28 94 rfl rfl rfl (fun h48 => ?_) (fun h48 => ?_)
        · refine ok_iload_n 49 rfl rfl rfl (ok_if_ne 50 103 rfl rfl rfl (fun h95 => ?_) (fun h95 => ?_))
          · refine ok_iload_n 53 rfl rfl rfl (ok_iconst 54 rfl rfl (by decide) (ok_icmp_ne 55 113 rfl rfl rfl (fun h105 => ?_) (fun h105 => ?_)))
            · refine ok_aload_n 58 rfl rfl rfl (ok_iload_n 59 rfl rfl rfl (ok_iload 60 rfl rfl rfl (ok_iload_n 61 rfl rfl rfl (ok_callVI (M' := M_Mo_joined) (as := [_, _, _]) 62 rfl rfl ml_X12_346 (s_Mo_joined hB ht ⟨by omega, by omega⟩) rfl rfl (Nat.le_of_ble_eq_true rfl) ⟨Nat.le_of_ble_eq_true rfl, Nat.le_of_ble_eq_true rfl⟩ rfl (Nat.le_of_ble_eq_true rfl) (fun σ' y hy => ?_)))))
              obtain ⟨hs_, hy⟩ := hy
              rw [hs_]; clear hs_ σ'
              refine ok_iret 63 rfl rfl rfl ?_
              exact ⟨_, rfl, rfl⟩
            · refine ok_iload 56 rfl rfl rfl (ok_goto 57 121 rfl rfl rfl (ok_iret 63 rfl rfl rfl ?_))
              exact ⟨_, rfl, rfl⟩
          · refine ok_iload 51 rfl rfl rfl (ok_goto 52 121 rfl rfl rfl (ok_iret 63 rfl rfl rfl ?_))
            exact ⟨_, rfl, rfl⟩
        · have b1 := (bitL (s := k) (n := 8) (by omega) (by omega)).2.2
          refine ok_iload 29 rfl rfl rfl (ok_callSI (M' := M_Mo_bits) (as := [_]) 30 rfl rfl ml_X12_241 (s_Mo_bits ⟨by omega, by omega⟩) ⟨Nat.le_of_ble_eq_true rfl, Nat.le_of_ble_eq_true rfl⟩ rfl (Nat.le_of_ble_eq_true rfl) (fun σ' z hz => ?_))
          rw [hz.1, hz.2]
          clear hz z σ'
          refine ok_aload_n 31 rfl rfl rfl (ok_iload_n 32 rfl rfl rfl (ok_iload 33 rfl rfl rfl (ok_iload_n 34 rfl rfl rfl (ok_callVI (M' := M_Mo_joined) (as := [_, _, _]) 35 rfl rfl ml_X12_346 (s_Mo_joined hB ht ⟨by omega, by omega⟩) rfl rfl (Nat.le_of_ble_eq_true rfl) ⟨Nat.le_of_ble_eq_true rfl, Nat.le_of_ble_eq_true rfl⟩ rfl (Nat.le_of_ble_eq_true rfl) (fun σ' y hy => ?_)))))
          obtain ⟨hs_, hy⟩ := hy
          rw [hs_]; clear hs_ σ'
          have b2 := (bitL (s := y) (n := 8) (by omega) (by omega)).2.2
          refine ok_callSI (M' := M_Mo_bits) (as := [_]) 36 rfl rfl ml_X12_241 (s_Mo_bits ⟨by omega, by omega⟩) ⟨Nat.le_of_ble_eq_true rfl, Nat.le_of_ble_eq_true rfl⟩ rfl (Nat.le_of_ble_eq_true rfl) (fun σ' z hz => ?_)
          rw [hz.1, hz.2]
          clear hz z σ'
          refine ok_isub 37 rfl rfl (by first | omega | (simp [up_if]; omega) | (simp [up_if] at *; omega)) (ok_ist7 38 rfl rfl rfl (ok_iload 39 rfl rfl rfl (ok_iload 40 rfl rfl rfl (ok_icmp_gt 41 80 rfl rfl rfl (fun h74 => ?_) (fun h74 => ?_)))))
          · refine ok_iload 43 rfl rfl rfl (ok_ist4 44 rfl rfl rfl (ok_iload 45 rfl rfl rfl (ok_ist5 46 rfl rfl rfl (ok_inc6 47 rfl rfl rfl (by first | omega | (simp [up_if]; omega) | (simp [up_if] at *; omega)) (ok_goto 48 38 rfl rfl rfl ?_)))))
            exact ok_fg [some (vr 0), some (vi s), some (vi l), some (vi w), some (vi _), some (vi _), some (vi (k + 1)), none] ⟨rfl, rfl, rfl, rfl, rfl, rfl, rfl, trivial⟩ (ih _ _ (k + 1) ⟨by omega, by omega, by omega, by omega⟩ (by omega))
          · refine ok_goto 42 88 rfl rfl rfl (ok_inc6 47 rfl rfl rfl (by first | omega | (simp [up_if]; omega) | (simp [up_if] at *; omega)) (ok_goto 48 38 rfl rfl rfl ?_))
            exact ok_fg [some (vr 0), some (vi s), some (vi l), some (vi w), some (vi _), some (vi _), some (vi (k + 1)), none] ⟨rfl, rfl, rfl, rfl, rfl, rfl, rfl, trivial⟩ (ih _ _ (k + 1) ⟨by omega, by omega, by omega, by omega⟩ (by omega))
      · refine ok_iconst 13 rfl rfl (by decide) (ok_iret 14 rfl rfl rfl ?_)
        exact ⟨_, rfl, rfl⟩
theorem Qch.fr1 {σ σ' : eS} {n z : Int} {op : Int → Int → Prop} (h : Qch σ n op σ' z) : fr rgS σ σ' := by
  rcases h with q | q
  · exact q.2.2.mono (fun c k y => by simp only [rgS]; omega)
  · exact q.2.2.1.mono (fun c k y => by simp only [rgS]; omega)
theorem s_Mo_paired {σ : eS} {s l r : Int} (hB : iB1 σ) : MtI shB M_Mo_paired [vr 0, vi s, vi l, vi r] σ (fun σ' _ => fr rgS σ σ') := by
  refine Mt.of okM_Mo_paired (Nat.le_of_ble_eq_true rfl) (fun hk hg => ?_)
  refine ok_aload_n 0 rfl rfl rfl (ok_iload_n 1 rfl rfl rfl (ok_callVI (M' := M_Mo_isTable) (as := [_]) 2 rfl rfl ml_X12_111 (s_Mo_isTable_r) rfl rfl (Nat.le_of_ble_eq_true rfl) ⟨Nat.le_of_ble_eq_true rfl, Nat.le_of_ble_eq_true rfl⟩ rfl (Nat.le_of_ble_eq_true rfl) (fun σ' z1 a1 => ?_)))
  obtain ⟨hs_, a1⟩ := a1
  rw [hs_]; clear hs_ σ'
  refine ok_if_eq 3 33 rfl rfl rfl (fun h5 => ?_) (fun h5 => ?_)
  · refine ok_iconst 19 rfl rfl (by decide) (ok_iret 20 rfl rfl rfl ?_)
    exact ⟨_, rfl, fr.rf⟩
  · refine ok_iload_n 4 rfl rfl rfl (ok_callSI (M' := M_Mo_isLeast) (as := [_]) 5 rfl rfl ml_X12_343 (s_Mo_isLeast) ⟨Nat.le_of_ble_eq_true rfl, Nat.le_of_ble_eq_true rfl⟩ rfl (Nat.le_of_ble_eq_true rfl) (fun σ' z2 a2 => ?_))
    obtain ⟨hs_, a2⟩ := a2
    rw [hs_]; clear hs_ σ'
    refine ok_if_eq 6 33 rfl rfl rfl (fun h12 => ?_) (fun h12 => ?_)
    · refine ok_iconst 19 rfl rfl (by decide) (ok_iret 20 rfl rfl rfl ?_)
      exact ⟨_, rfl, fr.rf⟩
    · obtain ⟨u1, u2, u3⟩ := yes1 a1 h5
      have tn := hB.1 s u1 u2
      refine ok_iload_n 7 rfl rfl rfl (ok_i2l 8 rfl rfl (ok_lconst (w := 0) 9 rfl rfl rfl (by decide) (ok_aload_n 10 rfl rfl rfl (ok_getR 11 rfl rfl fl_X12_7 rfl rfl (ok_iload_n 12 rfl rfl rfl (ok_iald 13 rfl rfl rfl (by first | omega | (simp [up_if]; omega) | (simp [up_if] at *; omega)) (ok_iconst 14 rfl rfl (by decide) (ok_isub 15 rfl rfl (by first | omega | (simp [up_if]; omega) | (simp [up_if] at *; omega)) (ok_i2l 16 rfl rfl (ok_callSI (M' := M_Mo_isIn) (as := [_, _, _]) 17 rfl rfl ml_X12_99 (s_Mo_isIn_r) ⟨Nat.le_of_ble_eq_true rfl, Nat.le_of_ble_eq_true rfl⟩ rfl (Nat.le_of_ble_eq_true rfl) (fun σ' z3 a3 => ?_)))))))))))
      obtain ⟨hs_, a3⟩ := a3
      rw [hs_]; clear hs_ σ'
      refine ok_if_ne 18 35 rfl rfl rfl (fun h30 => ?_) (fun h30 => ?_)
      · have f := wo_fr σ s (σ 1 s) (σ 1 s * σ 1 s)
        have hr := yes1 a3 h30
        have hnW : nW (wo σ s (σ 1 s) (σ 1 s * σ 1 s)) := by unfold nW; rw [show wo σ s (σ 1 s) (σ 1 s * σ 1 s) 0 22 = σ 1 s by simp [wo]]; omega
        refine ok_aload_n 21 rfl rfl rfl (ok_iload_n 22 rfl rfl rfl (ok_callVV (M' := M_Mo_worksOn) (as := [_]) 23 rfl rfl ml_X12_294 (s_Mo_worksOn hB ⟨u1, u2, u3⟩) rfl rfl (Nat.le_of_ble_eq_true rfl) ⟨Nat.le_of_ble_eq_true rfl, Nat.le_of_ble_eq_true rfl⟩ rfl (Nat.le_of_ble_eq_true rfl) (fun σ' hz => ?_)))
        rw [hz]
        clear hz σ'
        refine ok_aload_n 24 rfl rfl rfl (ok_iload_n 25 rfl rfl rfl (ok_iconst 26 rfl rfl (by decide) (ok_iconst 27 rfl rfl (by decide) (ok_callVI (M' := M_Mo_isChosen) (as := [_, _, _]) 28 rfl rfl ml_X12_260 (s_Mo_isChosen hnW) rfl rfl (Nat.le_of_ble_eq_true rfl) ⟨Nat.le_of_ble_eq_true rfl, Nat.le_of_ble_eq_true rfl⟩ rfl (Nat.le_of_ble_eq_true rfl) (fun σ' z hz => ?_)))))
        have g := f.tr hz.fr1
        clear hz
        refine ok_if_eq 29 59 rfl rfl rfl (fun h47 => ?_) (fun h47 => ?_)
        · refine ok_iconst 35 rfl rfl (by decide) (ok_iret 36 rfl rfl rfl ?_)
          exact ⟨_, rfl, g⟩
        · refine ok_aload_n 30 rfl rfl rfl (ok_getR 31 rfl rfl fl_X12_45 rfl rfl (ok_iload_n 32 rfl rfl rfl (ok_iald 33 rfl rfl rfl (by first | omega | (simp [up_if]; omega) | (simp [up_if] at *; omega)) (ok_goto 34 60 rfl rfl rfl (ok_iret 36 rfl rfl rfl ?_)))))
          exact ⟨_, rfl, g⟩
      · refine ok_iconst 19 rfl rfl (by decide) (ok_iret 20 rfl rfl rfl ?_)
        exact ⟨_, rfl, fr.rf⟩
end
section
abbrev rgU : Nat → Int → Prop := fun c _ => c = 20
theorem mul_le_div {v p X : Int} (hv : 0 < v) (h : p ≤ X / v) : v * p ≤ X := by
  have a := Int.mul_le_mul_of_nonneg_left h (Int.le_of_lt hv)
  have b := Int.mul_ediv_add_emod X v
  have c := Int.emod_nonneg X (by omega : v ≠ 0)
  omega
theorem s_Mo_isSummed {σ : eS} {s l b : Int} (hB : iB1 σ) (ht : tabB σ s) : MtI shB M_Mo_isSummed [vr 0, vi s, vi l, vi b] σ (fun σ' _ => fr rgU σ σ') := by
  refine Mt.of okM_Mo_isSummed (Nat.le_of_ble_eq_true rfl) (fun hk hg => ?_)
  obtain ⟨u1, u2, u3⟩ := ht
  have tn := hB.1 s u1 u2
  obtain ⟨z1, z2, z3, -⟩ := bit2 (n := σ 1 s) ⟨by omega, by omega⟩
  refine ok_aload_n 0 rfl rfl rfl (ok_getR 1 rfl rfl fl_X12_72 rfl rfl (ok_iconst 2 rfl rfl (by decide) (ok_lconst (w := 1) 3 rfl rfl rfl (by decide) (ok_last 4 rfl rfl rfl (by first | omega | (simp [up_if]; omega) | (simp [up_if] at *; omega)) (ok_iconst 5 rfl rfl (by decide) (ok_ist4 6 rfl rfl rfl ?_))))))
  refine lpO2 (fun (T : Int) (_ : eS) => [some (vr 0), some (vi s), some (vi l), some (vi b), some (vi T), none, none, none, none, none, none]) (fun _ ρ => ρ) (fun T ρ => 1 ≤ T ∧ T ≤ p2 (σ 1 s) ∧ fr rgU σ ρ ∧ ∀ k, 0 ≤ k → k < T → 0 ≤ ρ 20 k ∧ ρ 20 k ≤ 9223372036854775807) (fun T _ => (256 - T).toNat) ?_ 1 _ ⟨by omega, by omega, fr_up fr.rf (by simp [rgU]), fun k a c => by rw [show k = 0 by omega, up_same]; omega⟩
  rintro T ρ ⟨t1, t2, f, hs⟩ ih
  have e1 : ∀ k, ρ 1 k = σ 1 k := fun k => f 1 k (by simp [rgU])
  refine ok_iload 7 rfl rfl rfl (ok_iconst 8 rfl rfl (by decide) (ok_aload_n 9 rfl rfl rfl (ok_getR 10 rfl rfl fl_X12_7 rfl rfl (ok_iload_n 11 rfl rfl rfl (ok_iald 12 rfl rfl rfl (by first | omega | (simp [up_if]; omega) | (simp [up_if] at *; omega)) (ok_ishl 13 rfl rfl ?_))))))
  rw [e1, z1]
  refine ok_icmp_ge 14 178 rfl rfl rfl (fun h20 => ?_) (fun h20 => ?_)
  · refine ok_iconst 102 rfl rfl (by decide) (ok_zret 103 rfl rfl rfl (by first | omega | (simp [up_if]; omega) | (simp [up_if] at *; omega)) ?_)
    exact ⟨_, rfl, f⟩
  · refine ok_iload 15 rfl rfl rfl (ok_callSI (M' := M_Mo_bits) (as := [_]) 16 rfl rfl ml_X12_241 (s_Mo_bits ⟨by omega, by omega⟩) ⟨Nat.le_of_ble_eq_true rfl, Nat.le_of_ble_eq_true rfl⟩ rfl (Nat.le_of_ble_eq_true rfl) (fun σ' z hz => ?_))
    rw [hz.1, hz.2]
    clear hz z σ'
    have b1 := (bitL (s := T) (n := σ 1 s) (by omega) (by omega)).2.2
    have b2 : pc T ≤ σ 1 s := by
      have := bitL (s := T) (n := σ 1 s) (by omega) (by omega)
      rcases (show T < p2 (σ 1 s) - 1 ∨ T = p2 (σ 1 s) - 1 by omega) with q | q
      · have := this.1 q; omega
      · have := this.2.1 q; omega
    have b3 : 1 ≤ pc T := by
      have h0 : ∀ s : Fin 256, (s.val : Int) ≠ 0 → 1 ≤ pc (s.val : Int) := by decide +kernel
      exact fin1 (P := fun s => s ≠ 0 → 1 ≤ pc s) h0 (by omega) (by omega) (by omega)
    refine ok_iconst 17 rfl rfl (by decide) (ok_isub 18 rfl rfl (by first | omega | (simp [up_if]; omega) | (simp [up_if] at *; omega)) (ok_ist5 19 rfl rfl rfl (ok_aload_n 20 rfl rfl rfl (ok_getR 21 rfl rfl fl_X12_72 rfl rfl (ok_iload 22 rfl rfl rfl (ok_lconst (w := 0) 23 rfl rfl rfl (by decide) (ok_last 24 rfl rfl rfl (by first | omega | (simp [up_if]; omega) | (simp [up_if] at *; omega)) (ok_iconst 25 rfl rfl (by decide) (ok_ist6 26 rfl rfl rfl ?_)))))))))
    refine lpO2 (fun (j : Int) (_ : eS) => [some (vr 0), some (vi s), some (vi l), some (vi b), some (vi T), some (vi (pc T - 1)), some (vi j), none, none, none, none]) (fun _ ρ => ρ) (fun j ρ => 0 ≤ j ∧ j ≤ σ 1 s ∧ fr rgU σ ρ ∧ ∀ k, 0 ≤ k → k < T + 1 → 0 ≤ ρ 20 k ∧ ρ 20 k ≤ 9223372036854775807) (fun j _ => (8 - j).toNat) ?_ 0 _ ⟨by omega, by omega, fr_up f (by simp [rgU]), lt_ext (fun k a c => ?_) ?_⟩
    rotate_left
    · rw [up_nk _ _ _ _ (by omega)]; exact hs k a c
    · rw [up_same]; omega
    clear hs f e1
    rintro j ρ ⟨j1, j2, f, hs⟩ ih2
    have e1 : ∀ k, ρ 1 k = σ 1 k := fun k => f 1 k (by simp [rgU])
    have e1s := e1 s
    have hB' : iB1 ρ := iB1_frS hB f (fun c k q => by simp only [rgU]; omega)
    have hT := hs T (by omega) (by omega)
    have cb : j < σ 1 s → 0 ≤ cB ρ s (pc T - 1) j ∧ cB ρ s (pc T - 1) j ≤ 99999999 := fun q => cB_bd hB' ⟨u1, u2⟩ ⟨by omega, by rw [e1]; omega⟩ ⟨j1, by rw [e1]; omega⟩
    have t166 : ∀ (τ : eS) (x y : Option eV), j < σ 1 s → fr rgU σ τ → (∀ k, 0 ≤ k → k < T + 1 → 0 ≤ τ 20 k ∧ τ 20 k ≤ 9223372036854775807) → Ok shB M_Mo_isSummed 166 [some (vr 0), some (vi s), some (vi l), some (vi b), some (vi T), some (vi (pc T - 1)), some (vi j), x, none, y, none] [] τ (fun σ' v => ∃ z, v = some (vi z) ∧ fr rgU σ σ') := by
      intro τ x y jl g hg
      refine ok_inc6 98 rfl rfl rfl (by first | omega | (simp [up_if]; omega) | (simp [up_if] at *; omega)) (ok_goto 99 43 rfl rfl rfl ?_)
      exact ok_fg [some (vr 0), some (vi s), some (vi l), some (vi b), some (vi T), some (vi (pc T - 1)), some (vi (j + 1)), none, none, none, none] ⟨rfl, rfl, rfl, rfl, rfl, rfl, rfl, trivial⟩ (ih2 (j + 1) τ ⟨by omega, by omega, g, hg⟩ (by omega))
    have t106 : ∀ v : Int, j < σ 1 s → bt T j = true → 0 ≤ v → v ≤ 99999999 → Ok shB M_Mo_isSummed 106 [some (vr 0), some (vi s), some (vi l), some (vi b), some (vi T), some (vi (pc T - 1)), some (vi j), none, none, none, none] [vl v] ρ (fun σ' v => ∃ z, v = some (vi z) ∧ fr rgU σ σ') := by
      intro v jl hbt v1 v2
      have hx := bitX (s := T) (j := j) (by omega) (by omega) hbt
      have hx2 := hs _ hx.1 (by omega)
      have t151 : v * ρ 20 (ixor T (ishl 1 j)) ≤ 9223372036854775807 - ρ 20 T → Ok shB M_Mo_isSummed 151 [some (vr 0), some (vi s), some (vi l), some (vi b), some (vi T), some (vi (pc T - 1)), some (vi j), some (vl v), none, some (vl (ρ 20 (ixor T (ishl 1 j)))), none] [] ρ (fun σ' v => ∃ z, v = some (vi z) ∧ fr rgU σ σ') := by
        intro hm
        have hm0 : 0 ≤ v * ρ 20 (ixor T (ishl 1 j)) := Int.mul_nonneg v1 hx2.1
        refine ok_aload_n 88 rfl rfl rfl (ok_getR 89 rfl rfl fl_X12_72 rfl rfl (ok_iload 90 rfl rfl rfl (ok_dup2 91 rfl rfl ⟨rfl, rfl⟩ (ok_lald 92 rfl rfl rfl (by first | omega | (simp [up_if]; omega) | (simp [up_if] at *; omega)) (ok_lload 93 rfl rfl rfl (ok_lload 94 rfl rfl rfl (ok_lmul 95 rfl rfl (by first | omega | (simp [up_if]; omega) | (simp [up_if] at *; omega)) (ok_ladd 96 rfl rfl (by first | omega | (simp [up_if]; omega) | (simp [up_if] at *; omega)) (ok_last 97 rfl rfl rfl (by first | omega | (simp [up_if]; omega) | (simp [up_if] at *; omega)) ?_)))))))))
        refine t166 _ _ _ jl (fr_up f (by simp [rgU])) (fun k a c => ?_)
        rw [up_if]
        by_cases q : k = T
        · rw [if_pos ⟨rfl, q⟩]; omega
        · rw [if_neg (fun y => q y.2)]; exact hs k a c
      refine ok_lst7 61 rfl rfl rfl (ok_aload_n 62 rfl rfl rfl (ok_getR 63 rfl rfl fl_X12_72 rfl rfl (ok_iload 64 rfl rfl rfl (ok_iconst 65 rfl rfl (by decide) (ok_iload 66 rfl rfl rfl (ok_ishl 67 rfl rfl (ok_ixor 68 rfl rfl (ok_lald 69 rfl rfl rfl (by first | omega | (simp [up_if]; omega) | (simp [up_if] at *; omega)) (ok_lst9 70 rfl rfl rfl (ok_lload 71 rfl rfl rfl (ok_lconst (w := 0) 72 rfl rfl rfl (by decide) (ok_lcmp_le 73 74 151 rfl rfl rfl rfl rfl (fun h125 => ?_) (fun h125 => ?_)))))))))))))
      · refine t151 ?_
        first
          | (rw [show v = 0 by omega, Int.zero_mul]; omega)
          | exact mul_le_div (by omega) (by omega)
      · refine ok_lload 75 rfl rfl rfl (ok_ldc2 76 (9223372036854775807) rfl rfl kc_X12_239 (by decide) (ok_aload_n 77 rfl rfl rfl (ok_getR 78 rfl rfl fl_X12_72 rfl rfl (ok_iload 79 rfl rfl rfl (ok_lald 80 rfl rfl rfl (by first | omega | (simp [up_if]; omega) | (simp [up_if] at *; omega)) (ok_lsub 81 rfl rfl (by first | omega | (simp [up_if]; omega) | (simp [up_if] at *; omega)) (ok_lload 82 rfl rfl rfl (ok_ldiv 83 rfl rfl (by first | omega | (simp [up_if]; omega) | (simp [up_if] at *; omega)) (by first | omega | (simp [up_if]; omega) | (simp [up_if] at *; omega)) (ok_lcmp_le 84 85 151 rfl rfl rfl rfl rfl (fun h145 => ?_) (fun h145 => ?_))))))))))
        · refine t151 ?_
          first
            | (rw [show v = 0 by omega, Int.zero_mul]; omega)
            | exact mul_le_div (by omega) (by omega)
        · refine ok_iconst 86 rfl rfl (by decide) (ok_zret 87 rfl rfl rfl (by first | omega | (simp [up_if]; omega) | (simp [up_if] at *; omega)) ?_)
          exact ⟨_, rfl, f⟩
    refine ok_iload 27 rfl rfl rfl (ok_aload_n 28 rfl rfl rfl (ok_getR 29 rfl rfl fl_X12_7 rfl rfl (ok_iload_n 30 rfl rfl rfl (ok_iald 31 rfl rfl rfl (by first | omega | (simp [up_if]; omega) | (simp [up_if] at *; omega)) (ok_icmp_ge 32 172 rfl rfl rfl (fun h51 => ?_) (fun h51 => ?_))))))
    · refine ok_inc4 100 rfl rfl rfl (by first | omega | (simp [up_if]; omega) | (simp [up_if] at *; omega)) (ok_goto 101 10 rfl rfl rfl ?_)
      exact ok_fg [some (vr 0), some (vi s), some (vi l), some (vi b), some (vi (T + 1)), none, none, none, none, none, none] ⟨rfl, rfl, rfl, rfl, rfl, trivial⟩ (ih (T + 1) ρ ⟨by omega, by omega, f, hs⟩ (by omega))
    · refine ok_iload 33 rfl rfl rfl (ok_iload 34 rfl rfl rfl (ok_ishr 35 rfl rfl (ok_iconst 36 rfl rfl (by decide) (ok_iand 37 rfl rfl ?_))))
      have hbg := bitG (s := T) (j := j) ⟨by omega, by omega⟩ ⟨by omega, by omega⟩
      refine ok_if_ne 38 67 rfl rfl rfl (fun h61 => ?_) (fun h61 => ?_)
      · have hbt : bt T j = true := by
          rw [hbg] at h61
          by_cases q : bt T j = true
          · exact q
          · rw [if_neg q] at h61; exact absurd rfl h61
        have jl : j < σ 1 s := by have := e1 s; omega
        refine ok_iload_n 40 rfl rfl rfl (ok_if_eq 41 96 rfl rfl rfl (fun h68 => ?_) (fun h68 => ?_))
        · refine ok_aload_n 55 rfl rfl rfl (ok_iload_n 56 rfl rfl rfl (ok_iload 57 rfl rfl rfl (ok_iload 58 rfl rfl rfl (ok_callVI (M' := M_Mo_at) (as := [_, _, _]) 59 rfl rfl ml_X12_107 (s_Mo_at hB' ⟨u1, u2⟩ ⟨by omega, by rw [e1]; omega⟩ ⟨by omega, by rw [e1]; omega⟩) rfl rfl (Nat.le_of_ble_eq_true rfl) ⟨Nat.le_of_ble_eq_true rfl, Nat.le_of_ble_eq_true rfl⟩ rfl (Nat.le_of_ble_eq_true rfl) (fun σ' z hz => ?_)))))
          rw [hz.1, hz.2]
          clear hz z σ'
          refine ok_i2l 60 rfl rfl ?_
          exact t106 _ jl hbt (by omega) (by omega)
        · refine ok_aload_n 42 rfl rfl rfl (ok_iload_n 43 rfl rfl rfl (ok_iload 44 rfl rfl rfl (ok_iload 45 rfl rfl rfl (ok_callVI (M' := M_Mo_at) (as := [_, _, _]) 46 rfl rfl ml_X12_107 (s_Mo_at hB' ⟨u1, u2⟩ ⟨by omega, by rw [e1]; omega⟩ ⟨by omega, by rw [e1]; omega⟩) rfl rfl (Nat.le_of_ble_eq_true rfl) ⟨Nat.le_of_ble_eq_true rfl, Nat.le_of_ble_eq_true rfl⟩ rfl (Nat.le_of_ble_eq_true rfl) (fun σ' z hz => ?_)))))
          rw [hz.1, hz.2]
          clear hz z σ'
          refine ok_iload_n 47 rfl rfl rfl (ok_icmp_lt 48 88 rfl rfl rfl (fun h81 => ?_) (fun h81 => ?_))
          · refine ok_iconst 51 rfl rfl (by decide) (ok_callSI (M' := M_Mo_one) (as := [_]) 52 rfl rfl ml_X12_192 (s_Mo_one) ⟨Nat.le_of_ble_eq_true rfl, Nat.le_of_ble_eq_true rfl⟩ rfl (Nat.le_of_ble_eq_true rfl) (fun σ' z hz => ?_))
            obtain ⟨hs_, hz⟩ := hz
            rw [hs_]; clear hs_ σ'
            have q1 : 0 ≤ z ∧ z ≤ 1 := by rw [hz]; split <;> omega
            refine ok_i2l 53 rfl rfl (ok_goto 54 106 rfl rfl rfl ?_)
            exact t106 _ jl hbt (by omega) (by omega)
          · refine ok_iconst 49 rfl rfl (by decide) (ok_goto 50 89 rfl rfl rfl (ok_callSI (M' := M_Mo_one) (as := [_]) 52 rfl rfl ml_X12_192 (s_Mo_one) ⟨Nat.le_of_ble_eq_true rfl, Nat.le_of_ble_eq_true rfl⟩ rfl (Nat.le_of_ble_eq_true rfl) (fun σ' z hz => ?_)))
            obtain ⟨hs_, hz⟩ := hz
            rw [hs_]; clear hs_ σ'
            have q1 : 0 ≤ z ∧ z ≤ 1 := by rw [hz]; split <;> omega
            refine ok_i2l 53 rfl rfl (ok_goto 54 106 rfl rfl rfl ?_)
            exact t106 _ jl hbt (by omega) (by omega)
      · refine ok_goto 39 166 rfl rfl rfl ?_
        exact t166 ρ none none (by have := e1 s; omega) f hs
theorem s_Mo_ways {σ : eS} {s l : Int} (hB : iB1 σ) : MtI shB M_Mo_ways [vr 0, vi s, vi l] σ (fun σ' _ => fr rgU σ σ') := by
  refine Mt.of okM_Mo_ways (Nat.le_of_ble_eq_true rfl) (fun hk hg => ?_)
  refine ok_aload_n 0 rfl rfl rfl (ok_iload_n 1 rfl rfl rfl (ok_callVI (M' := M_Mo_isTable) (as := [_]) 2 rfl rfl ml_X12_111 (s_Mo_isTable_r) rfl rfl (Nat.le_of_ble_eq_true rfl) ⟨Nat.le_of_ble_eq_true rfl, Nat.le_of_ble_eq_true rfl⟩ rfl (Nat.le_of_ble_eq_true rfl) (fun σ' z1 a1 => ?_)))
  obtain ⟨hs_, a1⟩ := a1
  rw [hs_]; clear hs_ σ'
  refine ok_if_eq 3 15 rfl rfl rfl (fun h5 => ?_) (fun h5 => ?_)
  · refine ok_iconst 7 rfl rfl (by decide) (ok_iret 8 rfl rfl rfl ?_)
    exact ⟨_, rfl, fr.rf⟩
  · refine ok_iload_n 4 rfl rfl rfl (ok_callSI (M' := M_Mo_isLeast) (as := [_]) 5 rfl rfl ml_X12_343 (s_Mo_isLeast) ⟨Nat.le_of_ble_eq_true rfl, Nat.le_of_ble_eq_true rfl⟩ rfl (Nat.le_of_ble_eq_true rfl) (fun σ' z2 a2 => ?_))
    obtain ⟨hs_, a2⟩ := a2
    rw [hs_]; clear hs_ σ'
    refine ok_if_ne 6 17 rfl rfl rfl (fun h12 => ?_) (fun h12 => ?_)
    · have ht := yes1 a1 h5
      obtain ⟨u1, u2, u3⟩ := id ht
      have tn := hB.1 s u1 u2
      obtain ⟨z1, z2, z3, -⟩ := bit2 (n := σ 1 s) ⟨by omega, by omega⟩
      refine ok_aload_n 9 rfl rfl rfl (ok_iload_n 10 rfl rfl rfl (ok_iload_n 11 rfl rfl rfl (ok_iconst 12 rfl rfl (by decide) (ok_callVI (M' := M_Mo_isSummed) (as := [_, _, _]) 13 rfl rfl ml_X12_349 (s_Mo_isSummed hB ht) rfl rfl (Nat.le_of_ble_eq_true rfl) ⟨Nat.le_of_ble_eq_true rfl, Nat.le_of_ble_eq_true rfl⟩ rfl (Nat.le_of_ble_eq_true rfl) (fun σ' z hz => ?_)))))
      have e1 : σ' 1 s = σ 1 s := hz 1 s (by simp [rgU])
      refine ok_pop 14 rfl rfl rfl (ok_aload_n 15 rfl rfl rfl (ok_getR 16 rfl rfl fl_X12_72 rfl rfl (ok_iconst 17 rfl rfl (by decide) (ok_aload_n 18 rfl rfl rfl (ok_getR 19 rfl rfl fl_X12_7 rfl rfl (ok_iload_n 20 rfl rfl rfl (ok_iald 21 rfl rfl rfl (by first | omega | (simp [up_if]; omega) | (simp [up_if] at *; omega)) (ok_ishl 22 rfl rfl ?_))))))))
      rw [e1, z1]
      refine ok_iconst 23 rfl rfl (by decide) (ok_isub 24 rfl rfl (by first | omega | (simp [up_if]; omega) | (simp [up_if] at *; omega)) (ok_lald 25 rfl rfl rfl (by first | omega | (simp [up_if]; omega) | (simp [up_if] at *; omega)) (ok_l2iW 26 rfl rfl (ok_iret 27 rfl rfl rfl ?_))))
      exact ⟨_, rfl, hz⟩
    · refine ok_iconst 7 rfl rfl (by decide) (ok_iret 8 rfl rfl rfl ?_)
      exact ⟨_, rfl, fr.rf⟩
theorem s_Mo_permanent {σ : eS} {s : Int} (hB : iB1 σ) : MtL shB M_Mo_permanent [vr 0, vi s] σ (fun σ' _ => fr rgU σ σ') := by
  refine Mt.of okM_Mo_permanent (Nat.le_of_ble_eq_true rfl) (fun hk hg => ?_)
  refine ok_aload_n 0 rfl rfl rfl (ok_iload_n 1 rfl rfl rfl (ok_callVI (M' := M_Mo_isTable) (as := [_]) 2 rfl rfl ml_X12_111 (s_Mo_isTable_r) rfl rfl (Nat.le_of_ble_eq_true rfl) ⟨Nat.le_of_ble_eq_true rfl, Nat.le_of_ble_eq_true rfl⟩ rfl (Nat.le_of_ble_eq_true rfl) (fun σ' z1 a1 => ?_)))
  obtain ⟨hs_, a1⟩ := a1
  rw [hs_]; clear hs_ σ'
  refine ok_if_ne 3 12 rfl rfl rfl (fun h5 => ?_) (fun h5 => ?_)
  · have ht := yes1 a1 h5
    obtain ⟨u1, u2, u3⟩ := id ht
    have tn := hB.1 s u1 u2
    obtain ⟨z1, z2, z3, -⟩ := bit2 (n := σ 1 s) ⟨by omega, by omega⟩
    refine ok_aload_n 6 rfl rfl rfl (ok_iload_n 7 rfl rfl rfl (ok_iconst 8 rfl rfl (by decide) (ok_iconst 9 rfl rfl (by decide) (ok_callVI (M' := M_Mo_isSummed) (as := [_, _, _]) 10 rfl rfl ml_X12_349 (s_Mo_isSummed hB ht) rfl rfl (Nat.le_of_ble_eq_true rfl) ⟨Nat.le_of_ble_eq_true rfl, Nat.le_of_ble_eq_true rfl⟩ rfl (Nat.le_of_ble_eq_true rfl) (fun σ' z hz => ?_)))))
    have e1 : σ' 1 s = σ 1 s := hz 1 s (by simp [rgU])
    refine ok_if_eq 11 40 rfl rfl rfl (fun h19 => ?_) (fun h19 => ?_)
    · refine ok_ldc2 24 (-2) rfl rfl kc_X12_355 (by decide) (ok_lret 25 rfl rfl rfl ?_)
      exact ⟨_, rfl, hz⟩
    · refine ok_aload_n 12 rfl rfl rfl (ok_getR 13 rfl rfl fl_X12_72 rfl rfl (ok_iconst 14 rfl rfl (by decide) (ok_aload_n 15 rfl rfl rfl (ok_getR 16 rfl rfl fl_X12_7 rfl rfl (ok_iload_n 17 rfl rfl rfl (ok_iald 18 rfl rfl rfl (by first | omega | (simp [up_if]; omega) | (simp [up_if] at *; omega)) (ok_ishl 19 rfl rfl ?_)))))))
      rw [e1, z1]
      refine ok_iconst 20 rfl rfl (by decide) (ok_isub 21 rfl rfl (by first | omega | (simp [up_if]; omega) | (simp [up_if] at *; omega)) (ok_lald 22 rfl rfl rfl (by first | omega | (simp [up_if]; omega) | (simp [up_if] at *; omega)) (ok_goto 23 43 rfl rfl rfl (ok_lret 25 rfl rfl rfl ?_))))
      exact ⟨_, rfl, hz⟩
  · refine ok_ldc2 4 (-1) rfl rfl kc_X12_219 (by decide) (ok_lret 5 rfl rfl rfl ?_)
    exact ⟨_, rfl, fr.rf⟩
theorem wo_bd {σ : eS} {s : Int} (hB : iB1 σ) (ht : tabB σ s) : nW (wo σ s (σ 1 s) (σ 1 s * σ 1 s)) ∧ wBd (wo σ s (σ 1 s) (σ 1 s * σ 1 s)) := by
  obtain ⟨u1, u2, u3⟩ := ht
  have tn := (hB.1 s u1 u2).2.1
  have e : wo σ s (σ 1 s) (σ 1 s * σ 1 s) 0 22 = σ 1 s := by simp [wo]
  refine ⟨⟨by omega, by omega⟩, fun i j a b c d => ?_⟩
  rw [e] at b d
  rw [wo_wk ⟨by omega, tn⟩ rfl ⟨a, b⟩ ⟨c, d⟩]
  have := cB_bd hB ⟨u1, u2⟩ ⟨a, b⟩ ⟨c, d⟩
  omega
theorem s_Mo_widest {σ : eS} {s : Int} (hB : iB1 σ) : MtI shB M_Mo_widest [vr 0, vi s] σ (fun σ' _ => fr rgS σ σ') := by
  refine Mt.of okM_Mo_widest (Nat.le_of_ble_eq_true rfl) (fun hk hg => ?_)
  refine ok_aload_n 0 rfl rfl rfl (ok_iload_n 1 rfl rfl rfl (ok_callVI (M' := M_Mo_isTable) (as := [_]) 2 rfl rfl ml_X12_111 (s_Mo_isTable_r) rfl rfl (Nat.le_of_ble_eq_true rfl) ⟨Nat.le_of_ble_eq_true rfl, Nat.le_of_ble_eq_true rfl⟩ rfl (Nat.le_of_ble_eq_true rfl) (fun σ' z1 a1 => ?_)))
  obtain ⟨hs_, a1⟩ := a1
  rw [hs_]; clear hs_ σ'
  refine ok_if_ne 3 10 rfl rfl rfl (fun h5 => ?_) (fun h5 => ?_)
  · have ht := yes1 a1 h5
    have f := wo_fr σ s (σ 1 s) (σ 1 s * σ 1 s)
    obtain ⟨w1, w2⟩ := wo_bd hB ht
    refine ok_aload_n 6 rfl rfl rfl (ok_iload_n 7 rfl rfl rfl (ok_callVV (M' := M_Mo_worksOn) (as := [_]) 8 rfl rfl ml_X12_294 (s_Mo_worksOn hB ht) rfl rfl (Nat.le_of_ble_eq_true rfl) ⟨Nat.le_of_ble_eq_true rfl, Nat.le_of_ble_eq_true rfl⟩ rfl (Nat.le_of_ble_eq_true rfl) (fun σ' hz => ?_)))
    rw [hz]
    clear hz σ'
    refine ok_aload_n 9 rfl rfl rfl (ok_iconst 10 rfl rfl (by decide) (ok_iconst 11 rfl rfl (by decide) (ok_callVV (M' := M_Mo_laysCan) (as := [_, _]) 12 rfl rfl ml_X12_256 (s_Mo_laysCan w1 w2 (by omega) (Or.inl rfl)) rfl rfl (Nat.le_of_ble_eq_true rfl) ⟨Nat.le_of_ble_eq_true rfl, Nat.le_of_ble_eq_true rfl⟩ rfl (Nat.le_of_ble_eq_true rfl) (fun σ' hz => ?_))))
    refine ok_aload_n 13 rfl rfl rfl (ok_getR 14 rfl rfl fl_X12_42 rfl rfl (ok_iconst 15 rfl rfl (by decide) (ok_lald 16 rfl rfl rfl (by first | omega | (simp [up_if]; omega) | (simp [up_if] at *; omega)) (ok_l2iW 17 rfl rfl (ok_iret 18 rfl rfl rfl ?_)))))
    exact ⟨_, rfl, f.tr (hz.1.mono (fun c k q => by simp only [rgS]; omega))⟩
  · refine ok_iconst 4 rfl rfl (by decide) (ok_iret 5 rfl rfl rfl ?_)
    exact ⟨_, rfl, fr.rf⟩
theorem s_Mo_best {σ : eS} {s w : Int} (hB : iB1 σ) : MtL shB M_Mo_best [vr 0, vi s, vi w] σ (fun σ' _ => fr rgS σ σ') := by
  refine Mt.of okM_Mo_best (Nat.le_of_ble_eq_true rfl) (fun hk hg => ?_)
  refine ok_aload_n 0 rfl rfl rfl (ok_iload_n 1 rfl rfl rfl (ok_callVI (M' := M_Mo_isTable) (as := [_]) 2 rfl rfl ml_X12_111 (s_Mo_isTable_r) rfl rfl (Nat.le_of_ble_eq_true rfl) ⟨Nat.le_of_ble_eq_true rfl, Nat.le_of_ble_eq_true rfl⟩ rfl (Nat.le_of_ble_eq_true rfl) (fun σ' z1 a1 => ?_)))
  obtain ⟨hs_, a1⟩ := a1
  rw [hs_]; clear hs_ σ'
  refine ok_if_eq 3 33 rfl rfl rfl (fun h5 => ?_) (fun h5 => ?_)
  · refine ok_ldc2 18 (-1) rfl rfl kc_X12_219 (by decide) (ok_lret 19 rfl rfl rfl ?_)
    exact ⟨_, rfl, fr.rf⟩
  · obtain ⟨u1, u2, u3⟩ := yes1 a1 h5
    have tn := hB.1 s u1 u2
    have f := wo_fr σ s (σ 1 s) (σ 1 s * σ 1 s)
    obtain ⟨w1, w2⟩ := wo_bd hB ⟨u1, u2, u3⟩
    have hc : cpl (wo σ s (σ 1 s) (σ 1 s * σ 1 s) 0 22) (fun i j => 0 ≤ wk (wo σ s (σ 1 s) (σ 1 s * σ 1 s)) i j) (wo σ s (σ 1 s) (σ 1 s * σ 1 s) 0 22).toNat 0 := cpl_of (f := fun i => i) (by have := w1.1; omega) ⟨fun i a b => ⟨a, b⟩, fun i k a b c => by show i ≠ k; omega⟩ (fun i a b => (w2 i i a b a b).1)
    refine ok_iload_n 4 rfl rfl rfl (ok_if_eq 5 37 rfl rfl rfl (fun h9 => ?_) (fun h9 => ?_))
    · refine ok_aload_n 20 rfl rfl rfl (ok_iload_n 21 rfl rfl rfl (ok_callVV (M' := M_Mo_worksOn) (as := [_]) 22 rfl rfl ml_X12_294 (s_Mo_worksOn hB ⟨u1, u2, u3⟩) rfl rfl (Nat.le_of_ble_eq_true rfl) ⟨Nat.le_of_ble_eq_true rfl, Nat.le_of_ble_eq_true rfl⟩ rfl (Nat.le_of_ble_eq_true rfl) (fun σ' hz => ?_)))
      rw [hz]
      clear hz σ'
      refine ok_aload_n 23 rfl rfl rfl (ok_iconst 24 rfl rfl (by decide) (ok_callVL (M' := M_Mo_chooseGreatest) (as := [_]) 25 rfl rfl ml_X12_263 (s_Mo_chooseGreatest w1 w2 (by omega) hc) rfl rfl (Nat.le_of_ble_eq_true rfl) ⟨Nat.le_of_ble_eq_true rfl, Nat.le_of_ble_eq_true rfl⟩ rfl (Nat.le_of_ble_eq_true rfl) (fun σ' z hz => ?_)))
      have g := f.tr (hz.1.mono (fun c k q => by simp only [rgS]; omega))
      clear hz
      refine ok_lst3 26 rfl rfl rfl (ok_iload_n 27 rfl rfl rfl (ok_if_ne 28 56 rfl rfl rfl (fun h49 => ?_) (fun h49 => ?_)))
      · refine ok_aload_n 31 rfl rfl rfl (ok_getR 32 rfl rfl fl_X12_45 rfl rfl (ok_iload_n 33 rfl rfl rfl (ok_bipush 34 rfl rfl (by decide) (by decide) (ok_isub 35 rfl rfl (by first | omega | (simp [up_if]; omega) | (simp [up_if] at *; omega)) (ok_iald 36 rfl rfl rfl (by first | omega | (simp [up_if]; omega) | (simp [up_if] at *; omega)) (ok_i2l 37 rfl rfl (ok_lret 38 rfl rfl rfl ?_)))))))
        exact ⟨_, rfl, g⟩
      · refine ok_lload_n 29 rfl rfl rfl (ok_goto 30 66 rfl rfl rfl (ok_lret 38 rfl rfl rfl ?_))
        exact ⟨_, rfl, g⟩
    · refine ok_iload_n 6 rfl rfl rfl (ok_i2l 7 rfl rfl (ok_ldc2 8 (10) rfl rfl kc_X12_353 (by decide) (ok_bipush 9 rfl rfl (by decide) (by decide) (ok_aload_n 10 rfl rfl rfl (ok_getR 11 rfl rfl fl_X12_7 rfl rfl (ok_iload_n 12 rfl rfl rfl (ok_iald 13 rfl rfl rfl (by first | omega | (simp [up_if]; omega) | (simp [up_if] at *; omega)) (ok_iadd 14 rfl rfl (by first | omega | (simp [up_if]; omega) | (simp [up_if] at *; omega)) (ok_i2l 15 rfl rfl (ok_callSI (M' := M_Mo_isIn) (as := [_, _, _]) 16 rfl rfl ml_X12_99 (s_Mo_isIn_r) ⟨Nat.le_of_ble_eq_true rfl, Nat.le_of_ble_eq_true rfl⟩ rfl (Nat.le_of_ble_eq_true rfl) (fun σ' z2 a2 => ?_)))))))))))
      obtain ⟨hs_, a2⟩ := a2
      rw [hs_]; clear hs_ σ'
      refine ok_if_ne 17 37 rfl rfl rfl (fun h30 => ?_) (fun h30 => ?_)
      · refine ok_aload_n 20 rfl rfl rfl (ok_iload_n 21 rfl rfl rfl (ok_callVV (M' := M_Mo_worksOn) (as := [_]) 22 rfl rfl ml_X12_294 (s_Mo_worksOn hB ⟨u1, u2, u3⟩) rfl rfl (Nat.le_of_ble_eq_true rfl) ⟨Nat.le_of_ble_eq_true rfl, Nat.le_of_ble_eq_true rfl⟩ rfl (Nat.le_of_ble_eq_true rfl) (fun σ' hz => ?_)))
        rw [hz]
        clear hz σ'
        refine ok_aload_n 23 rfl rfl rfl (ok_iconst 24 rfl rfl (by decide) (ok_callVL (M' := M_Mo_chooseGreatest) (as := [_]) 25 rfl rfl ml_X12_263 (s_Mo_chooseGreatest w1 w2 (by omega) hc) rfl rfl (Nat.le_of_ble_eq_true rfl) ⟨Nat.le_of_ble_eq_true rfl, Nat.le_of_ble_eq_true rfl⟩ rfl (Nat.le_of_ble_eq_true rfl) (fun σ' z hz => ?_)))
        have g := f.tr (hz.1.mono (fun c k q => by simp only [rgS]; omega))
        clear hz
        refine ok_lst3 26 rfl rfl rfl (ok_iload_n 27 rfl rfl rfl (ok_if_ne 28 56 rfl rfl rfl (fun h49 => ?_) (fun h49 => ?_)))
        · refine ok_aload_n 31 rfl rfl rfl (ok_getR 32 rfl rfl fl_X12_45 rfl rfl (ok_iload_n 33 rfl rfl rfl (ok_bipush 34 rfl rfl (by decide) (by decide) (ok_isub 35 rfl rfl (by first | omega | (simp [up_if]; omega) | (simp [up_if] at *; omega)) (ok_iald 36 rfl rfl rfl (by first | omega | (simp [up_if]; omega) | (simp [up_if] at *; omega)) (ok_i2l 37 rfl rfl (ok_lret 38 rfl rfl rfl ?_)))))))
          exact ⟨_, rfl, g⟩
        · refine ok_lload_n 29 rfl rfl rfl (ok_goto 30 66 rfl rfl rfl (ok_lret 38 rfl rfl rfl ?_))
          exact ⟨_, rfl, g⟩
      · refine ok_ldc2 18 (-1) rfl rfl kc_X12_219 (by decide) (ok_lret 19 rfl rfl rfl ?_)
        exact ⟨_, rfl, fr.rf⟩
end
section
def bz (ρ : eS) (m : Int) : Prop := ∀ k, 0 ≤ k → k < m → ρ 22 k = 0 ∨ ρ 22 k = 1
theorem bz_up {ρ : eS} {m v : Int} (h : bz ρ m) (hv : v = 0 ∨ v = 1) : bz (up ρ 22 m v) (m + 1) := lt_ext (fun k a b => by rw [up_nk _ _ _ _ (by omega)]; exact h k a b) (by rw [up_same]; exact hv)
abbrev rgX : Nat → Int → Prop := fun c _ => c = 21 ∨ c = 22
theorem s_Mo_mixing {σ : eS} {s : Int} (hB : iB1 σ) : MtI shB M_Mo_mixing [vr 0, vi s] σ (fun σ' _ => fr rgX σ σ') := by
  refine Mt.of okM_Mo_mixing (Nat.le_of_ble_eq_true rfl) (fun hk hg => ?_)
  refine ok_aload_n 0 rfl rfl rfl (ok_iload_n 1 rfl rfl rfl (ok_callVI (M' := M_Mo_isTable) (as := [_]) 2 rfl rfl ml_X12_111 (s_Mo_isTable_r) rfl rfl (Nat.le_of_ble_eq_true rfl) ⟨Nat.le_of_ble_eq_true rfl, Nat.le_of_ble_eq_true rfl⟩ rfl (Nat.le_of_ble_eq_true rfl) (fun σ' z1 a1 => ?_)))
  obtain ⟨hs_, a1⟩ := a1
  rw [hs_]; clear hs_ σ'
  refine ok_if_ne 3 10 rfl rfl rfl (fun h5 => ?_) (fun h5 => ?_)
  · obtain ⟨u1, u2, u3⟩ := yes1 a1 h5
    have tn := hB.1 s u1 u2
    refine ok_aload_n 6 rfl rfl rfl (ok_getR 7 rfl rfl fl_X12_7 rfl rfl (ok_iload_n 8 rfl rfl rfl (ok_iald 9 rfl rfl rfl (by first | omega | (simp [up_if]; omega) | (simp [up_if] at *; omega)) (ok_ist2 10 rfl rfl rfl (ok_iconst 11 rfl rfl (by decide) (ok_ist3 12 rfl rfl rfl ?_))))))
    obtain ⟨n, en⟩ : ∃ n, n = σ 1 s := ⟨_, rfl⟩
    rw [← en]
    have n1 : 1 ≤ n ∧ n ≤ 8 := by omega
    obtain ⟨q1, q2⟩ := sq8 (n := n) ⟨by omega, by omega⟩
    have E : ∀ τ : eS, fr rgX σ τ → iB1 τ ∧ τ 1 s = n := fun τ g => ⟨iB1_frS hB g (fun c k q => by simp only [rgX]; omega), by rw [g 1 s (by simp [rgX]), en]⟩
    refine lpO2 (fun (k : Int) (_ : eS) => [some (vr 0), some (vi s), some (vi n), some (vi k), none, none, none, none, none]) (fun _ ρ => ρ) (fun k ρ => 0 ≤ k ∧ k ≤ n * n ∧ fr rgX σ ρ) (fun k _ => (n * n - k).toNat) ?_ 0 _ ⟨by omega, by omega, fr.rf⟩
    rintro k ρ ⟨k1, k2, f⟩ ih
    refine ok_iload_n 13 rfl rfl rfl (ok_iload_n 14 rfl rfl rfl (ok_iload_n 15 rfl rfl rfl (ok_imul 16 rfl rfl (by first | omega | (simp [up_if]; omega) | (simp [up_if] at *; omega)) (ok_icmp_ge 17 57 rfl rfl rfl (fun h23 => ?_) (fun h23 => ?_)))))
    · refine ok_iconst 36 rfl rfl (by decide) (ok_ist3 37 rfl rfl rfl ?_)
      clear ih k1 k2
      refine lpO2 (fun (k : Int) (_ : eS) => [some (vr 0), some (vi s), some (vi n), some (vi k), none, none, none, none, none]) (fun _ ρ => ρ) (fun k ρ => 1 ≤ k ∧ k ≤ 65 ∧ fr rgX σ ρ) (fun k _ => (65 - k).toNat) ?_ 1 ρ ⟨by omega, by omega, f⟩
      clear f h23 k
      rintro k ρ ⟨k1, k2, f⟩ ih
      refine ok_iload_n 38 rfl rfl rfl (ok_bipush 39 rfl rfl (by decide) (by decide) (ok_icmp_gt 40 252 rfl rfl rfl (fun h62 => ?_) (fun h62 => ?_)))
      · refine ok_iconst 139 rfl rfl (by decide) (ok_iret 140 rfl rfl rfl ?_)
        exact ⟨_, rfl, f⟩
      · refine ok_iconst 41 rfl rfl (by decide) (ok_ist4 42 rfl rfl rfl (ok_iconst 43 rfl rfl (by decide) (ok_ist5 44 rfl rfl rfl ?_)))
        refine lpO2 (fun (a i : Int) => [some (vr 0), some (vi s), some (vi n), some (vi k), some (vi a), some (vi i), none, none, none]) (fun _ _ => ρ) (fun _ i => 0 ≤ i ∧ i ≤ n * n) (fun _ i => (n * n - i).toNat) ?_ 1 0 ⟨by omega, by omega⟩
        rintro a i ⟨i1, i2⟩ ih2
        refine ok_iload 45 rfl rfl rfl (ok_iload_n 46 rfl rfl rfl (ok_iload_n 47 rfl rfl rfl (ok_imul 48 rfl rfl (by first | omega | (simp [up_if]; omega) | (simp [up_if] at *; omega)) (ok_icmp_ge 49 107 rfl rfl rfl (fun h76 => ?_) (fun h76 => ?_)))))
        · refine ok_iload 63 rfl rfl rfl (ok_if_eq 64 114 rfl rfl rfl (fun h109 => ?_) (fun h109 => ?_))
          · refine ok_iconst 67 rfl rfl (by decide) (ok_ist5 68 rfl rfl rfl ?_)
            clear ih2 i1 i2
            refine lpO2 (fun (i : Int) (_ : eS) => [some (vr 0), some (vi s), some (vi n), some (vi k), some (vi a), some (vi i), none, none, none]) (fun _ ρ => ρ) (fun i ρ => 0 ≤ i ∧ i ≤ n ∧ fr rgX σ ρ ∧ bz ρ (n * i)) (fun i _ => (n - i).toNat) ?_ 0 ρ ⟨by omega, by omega, f, fun k a b => by omega⟩
            clear f h76 i ρ
            rintro i ρ ⟨i1, i2, f, hz⟩ ih2
            refine ok_iload 69 rfl rfl rfl (ok_iload_n 70 rfl rfl rfl (ok_icmp_ge 71 215 rfl rfl rfl (fun h120 => ?_) (fun h120 => ?_)))
            · refine ok_iconst 120 rfl rfl (by decide) (ok_ist5 121 rfl rfl rfl ?_)
              have hz' : bz ρ (n * n) := by rw [show i = n by omega] at hz; exact hz
              clear ih2 i1 i2
              refine lpO2 (fun (i : Int) (_ : eS) => [some (vr 0), some (vi s), some (vi n), some (vi k), some (vi a), some (vi i), none, none, none]) (fun _ ρ => ρ) (fun i ρ => 0 ≤ i ∧ i ≤ n * n ∧ fr rgX σ ρ ∧ bz ρ (n * n)) (fun i _ => (n * n - i).toNat) ?_ 0 ρ ⟨by omega, by omega, f, hz'⟩
              clear f ρ hz hz' h120 i
              rintro i ρ ⟨i1, i2, f, hz⟩ ih2
              refine ok_iload 122 rfl rfl rfl (ok_iload_n 123 rfl rfl rfl (ok_iload_n 124 rfl rfl rfl (ok_imul 125 rfl rfl (by first | omega | (simp [up_if]; omega) | (simp [up_if] at *; omega)) (ok_icmp_ge 126 246 rfl rfl rfl (fun h223 => ?_) (fun h223 => ?_)))))
              · refine ok_inc3 137 rfl rfl rfl (by first | omega | (simp [up_if]; omega) | (simp [up_if] at *; omega)) (ok_goto 138 59 rfl rfl rfl ?_)
                exact ok_fg [some (vr 0), some (vi s), some (vi n), some (vi (k + 1)), none, none, none, none, none] ⟨rfl, rfl, rfl, rfl, trivial⟩ (ih (k + 1) _ ⟨by omega, by omega, f⟩ (by omega))
              · refine ok_aload_n 127 rfl rfl rfl (ok_getR 128 rfl rfl fl_X12_75 rfl rfl (ok_iload 129 rfl rfl rfl (ok_aload_n 130 rfl rfl rfl (ok_getR 131 rfl rfl fl_X12_79 rfl rfl (ok_iload 132 rfl rfl rfl (ok_zald 133 rfl rfl rfl (by first | omega | (simp [up_if]; omega) | (simp [up_if] at *; omega)) (ok_zast 134 rfl rfl rfl (by omega) (hz i (by omega) (by omega)) (ok_inc5 135 rfl rfl rfl (by first | omega | (simp [up_if]; omega) | (simp [up_if] at *; omega)) (ok_goto 136 218 rfl rfl rfl ?_)))))))))
                exact ih2 (i + 1) _ ⟨by omega, by omega, fr_up f (by simp [rgX]), fun k a b => by rw [up_ne _ _ _ _ (by decide)]; exact hz k a b⟩ (by omega)
            · refine ok_iconst 72 rfl rfl (by decide) (ok_ist6 73 rfl rfl rfl ?_)
              refine lpO2 (fun (j : Int) (_ : eS) => [some (vr 0), some (vi s), some (vi n), some (vi k), some (vi a), some (vi i), some (vi j), none, none]) (fun _ ρ => ρ) (fun j ρ => 0 ≤ j ∧ j ≤ n ∧ fr rgX σ ρ ∧ bz ρ (n * i + j)) (fun j _ => (n - j).toNat) ?_ 0 ρ ⟨by omega, by omega, f, by rw [Int.add_zero]; exact hz⟩
              clear f hz ρ
              rintro j ρ ⟨j1, j2, f, hz⟩ ih3
              refine ok_iload 74 rfl rfl rfl (ok_iload_n 75 rfl rfl rfl (ok_icmp_ge 76 209 rfl rfl rfl (fun h129 => ?_) (fun h129 => ?_)))
              · refine ok_inc5 118 rfl rfl rfl (by first | omega | (simp [up_if]; omega) | (simp [up_if] at *; omega)) (ok_goto 119 117 rfl rfl rfl ?_)
                exact ok_fg [some (vr 0), some (vi s), some (vi n), some (vi k), some (vi a), some (vi (i + 1)), none, none, none] ⟨rfl, rfl, rfl, rfl, rfl, rfl, trivial⟩ (ih2 (i + 1) _ ⟨by omega, by omega, f, by rw [Int.mul_add, Int.mul_one, show n = j by omega]; rw [show n = j by omega] at hz; exact hz⟩ (by omega))
              · refine ok_iconst 77 rfl rfl (by decide) (ok_ist7 78 rfl rfl rfl (ok_iconst 79 rfl rfl (by decide) (ok_ist8 80 rfl rfl rfl ?_)))
                refine lpO2 (fun (v m : Int) => [some (vr 0), some (vi s), some (vi n), some (vi k), some (vi a), some (vi i), some (vi j), some (vi v), some (vi m)]) (fun _ _ => ρ) (fun v m => 0 ≤ m ∧ m ≤ n ∧ (v = 0 ∨ v = 1)) (fun _ m => (n - m).toNat) ?_ 0 0 ⟨by omega, by omega, by omega⟩
                rintro v m ⟨m1, m2, m3⟩ ih4
                obtain ⟨eb, e1⟩ := E ρ f
                have bi := ix8 (n := n) (i := i) (j := j) ⟨by omega, by omega⟩ ⟨by omega, by omega⟩ ⟨by omega, by omega⟩
                refine ok_iload 81 rfl rfl rfl (ok_iload_n 82 rfl rfl rfl (ok_icmp_ge 83 189 rfl rfl rfl (fun h141 => ?_) (fun h141 => ?_)))
                · refine ok_aload_n 107 rfl rfl rfl (ok_getR 108 rfl rfl fl_X12_79 rfl rfl (ok_iload_n 109 rfl rfl rfl (ok_iload 110 rfl rfl rfl (ok_imul 111 rfl rfl (by first | omega | (simp [up_if]; omega) | (simp [up_if] at *; omega)) (ok_iload 112 rfl rfl rfl (ok_iadd 113 rfl rfl (by first | omega | (simp [up_if]; omega) | (simp [up_if] at *; omega)) (ok_iload 114 rfl rfl rfl (ok_zast 115 rfl rfl rfl (by first | omega | (simp [up_if]; omega) | (simp [up_if] at *; omega)) (by first | omega | (simp [up_if]; omega) | (simp [up_if] at *; omega)) (ok_inc6 116 rfl rfl rfl (by first | omega | (simp [up_if]; omega) | (simp [up_if] at *; omega)) (ok_goto 117 126 rfl rfl rfl ?_))))))))))
                  exact ok_fg [some (vr 0), some (vi s), some (vi n), some (vi k), some (vi a), some (vi i), some (vi (j + 1)), none, none] ⟨rfl, rfl, rfl, rfl, rfl, rfl, rfl, trivial⟩ (ih3 (j + 1) _ ⟨by omega, by omega, fr_up f (by simp [rgX]), by rw [← Int.add_assoc]; exact bz_up hz m3⟩ (by omega))
                · refine ok_iload 84 rfl rfl rfl (ok_if_ne 85 176 rfl rfl rfl (fun h146 => ?_) (fun h146 => ?_))
                  · refine ok_iconst 101 rfl rfl (by decide) (ok_goto 102 181 rfl rfl rfl (ok_ist7 104 rfl rfl rfl (ok_inc8 105 rfl rfl rfl (by first | omega | (simp [up_if]; omega) | (simp [up_if] at *; omega)) (ok_goto 106 138 rfl rfl rfl ?_))))
                    exact ih4 _ (m + 1) ⟨by omega, by omega, by omega⟩ (by omega)
                  · have bm := ix8 (n := n) (i := i) (j := m) ⟨by omega, by omega⟩ ⟨by omega, by omega⟩ ⟨by omega, by omega⟩
                    refine ok_aload_n 86 rfl rfl rfl (ok_getR 87 rfl rfl fl_X12_75 rfl rfl (ok_iload_n 88 rfl rfl rfl (ok_iload 89 rfl rfl rfl (ok_imul 90 rfl rfl (by first | omega | (simp [up_if]; omega) | (simp [up_if] at *; omega)) (ok_iload 91 rfl rfl rfl (ok_iadd 92 rfl rfl (by first | omega | (simp [up_if]; omega) | (simp [up_if] at *; omega)) (ok_zald 93 rfl rfl rfl (by first | omega | (simp [up_if]; omega) | (simp [up_if] at *; omega)) (ok_if_eq 94 180 rfl rfl rfl (fun h161 => ?_) (fun h161 => ?_)))))))))
                    · refine ok_iconst 103 rfl rfl (by decide) (ok_ist7 104 rfl rfl rfl (ok_inc8 105 rfl rfl rfl (by first | omega | (simp [up_if]; omega) | (simp [up_if] at *; omega)) (ok_goto 106 138 rfl rfl rfl ?_)))
                      exact ih4 _ (m + 1) ⟨by omega, by omega, by omega⟩ (by omega)
                    · refine ok_aload_n 95 rfl rfl rfl (ok_iload_n 96 rfl rfl rfl (ok_iload 97 rfl rfl rfl (ok_iload 98 rfl rfl rfl (ok_callVI (M' := M_Mo_at) (as := [_, _, _]) 99 rfl rfl ml_X12_107 (s_Mo_at eb ⟨u1, u2⟩ ⟨by omega, by omega⟩ ⟨by omega, by omega⟩) rfl rfl (Nat.le_of_ble_eq_true rfl) ⟨Nat.le_of_ble_eq_true rfl, Nat.le_of_ble_eq_true rfl⟩ rfl (Nat.le_of_ble_eq_true rfl) (fun σ' z hz => ?_)))))
                      rw [hz.1, hz.2]
                      clear hz z σ'
                      refine ok_if_le 100 180 rfl rfl rfl (fun h173 => ?_) (fun h173 => ?_)
                      · refine ok_iconst 103 rfl rfl (by decide) (ok_ist7 104 rfl rfl rfl (ok_inc8 105 rfl rfl rfl (by first | omega | (simp [up_if]; omega) | (simp [up_if] at *; omega)) (ok_goto 106 138 rfl rfl rfl ?_)))
                        exact ih4 _ (m + 1) ⟨by omega, by omega, by omega⟩ (by omega)
                      · refine ok_iconst 101 rfl rfl (by decide) (ok_goto 102 181 rfl rfl rfl (ok_ist7 104 rfl rfl rfl (ok_inc8 105 rfl rfl rfl (by first | omega | (simp [up_if]; omega) | (simp [up_if] at *; omega)) (ok_goto 106 138 rfl rfl rfl ?_))))
                        exact ih4 _ (m + 1) ⟨by omega, by omega, by omega⟩ (by omega)
          · refine ok_iload_n 65 rfl rfl rfl (ok_iret 66 rfl rfl rfl ?_)
            exact ⟨_, rfl, f⟩
        · refine ok_iload 50 rfl rfl rfl (ok_if_eq 51 98 rfl rfl rfl (fun h81 => ?_) (fun h81 => ?_))
          · refine ok_iconst 59 rfl rfl (by decide) (ok_ist4 60 rfl rfl rfl (ok_inc5 61 rfl rfl rfl (by first | omega | (simp [up_if]; omega) | (simp [up_if] at *; omega)) (ok_goto 62 71 rfl rfl rfl ?_)))
            exact ih2 _ (i + 1) ⟨by omega, by omega⟩ (by omega)
          · refine ok_aload_n 52 rfl rfl rfl (ok_getR 53 rfl rfl fl_X12_75 rfl rfl (ok_iload 54 rfl rfl rfl (ok_zald 55 rfl rfl rfl (by first | omega | (simp [up_if]; omega) | (simp [up_if] at *; omega)) (ok_if_eq 56 98 rfl rfl rfl (fun h91 => ?_) (fun h91 => ?_)))))
            · refine ok_iconst 59 rfl rfl (by decide) (ok_ist4 60 rfl rfl rfl (ok_inc5 61 rfl rfl rfl (by first | omega | (simp [up_if]; omega) | (simp [up_if] at *; omega)) (ok_goto 62 71 rfl rfl rfl ?_)))
              exact ih2 _ (i + 1) ⟨by omega, by omega⟩ (by omega)
            · refine ok_iconst 57 rfl rfl (by decide) (ok_goto 58 99 rfl rfl rfl (ok_ist4 60 rfl rfl rfl (ok_inc5 61 rfl rfl rfl (by first | omega | (simp [up_if]; omega) | (simp [up_if] at *; omega)) (ok_goto 62 71 rfl rfl rfl ?_))))
              exact ih2 _ (i + 1) ⟨by omega, by omega⟩ (by omega)
    · refine ok_aload_n 18 rfl rfl rfl (ok_getR 19 rfl rfl fl_X12_75 rfl rfl (ok_iload_n 20 rfl rfl rfl (ok_aload_n 21 rfl rfl rfl (ok_getR 22 rfl rfl fl_X12_16 rfl rfl (ok_bipush 23 rfl rfl (by decide) (by decide) (ok_iload_n 24 rfl rfl rfl (ok_imul 25 rfl rfl (by first | omega | (simp [up_if]; omega) | (simp [up_if] at *; omega)) (ok_iload_n 26 rfl rfl rfl (ok_iadd 27 rfl rfl (by first | omega | (simp [up_if]; omega) | (simp [up_if] at *; omega)) (ok_iald 28 rfl rfl rfl (by first | omega | (simp [up_if]; omega) | (simp [up_if] at *; omega)) (ok_if_le 29 49 rfl rfl rfl (fun h42 => ?_) (fun h42 => ?_))))))))))))
      · refine ok_iconst 32 rfl rfl (by decide) (ok_zast 33 rfl rfl rfl (by first | omega | (simp [up_if]; omega) | (simp [up_if] at *; omega)) (by first | omega | (simp [up_if]; omega) | (simp [up_if] at *; omega)) (ok_inc3 34 rfl rfl rfl (by first | omega | (simp [up_if]; omega) | (simp [up_if] at *; omega)) (ok_goto 35 19 rfl rfl rfl ?_)))
        exact ih (k + 1) _ ⟨by omega, by omega, fr_up f (by simp [rgX])⟩ (by omega)
      · refine ok_iconst 30 rfl rfl (by decide) (ok_goto 31 50 rfl rfl rfl (ok_zast 33 rfl rfl rfl (by first | omega | (simp [up_if]; omega) | (simp [up_if] at *; omega)) (by first | omega | (simp [up_if]; omega) | (simp [up_if] at *; omega)) (ok_inc3 34 rfl rfl rfl (by first | omega | (simp [up_if]; omega) | (simp [up_if] at *; omega)) (ok_goto 35 19 rfl rfl rfl ?_))))
        exact ih (k + 1) _ ⟨by omega, by omega, fr_up f (by simp [rgX])⟩ (by omega)
  · refine ok_iconst 4 rfl rfl (by decide) (ok_iret 5 rfl rfl rfl ?_)
    exact ⟨_, rfl, fr.rf⟩
theorem s_Mo_kin {σ : eS} {s r : Int} (hB : iB1 σ) : MtI shB M_Mo_kin [vr 0, vi s, vi r] σ (fun σ' _ => fr rgX σ σ') := by
  refine Mt.of okM_Mo_kin (Nat.le_of_ble_eq_true rfl) (fun hk hg => ?_)
  refine ok_aload_n 0 rfl rfl rfl (ok_iload_n 1 rfl rfl rfl (ok_callVI (M' := M_Mo_isTable) (as := [_]) 2 rfl rfl ml_X12_111 (s_Mo_isTable_r) rfl rfl (Nat.le_of_ble_eq_true rfl) ⟨Nat.le_of_ble_eq_true rfl, Nat.le_of_ble_eq_true rfl⟩ rfl (Nat.le_of_ble_eq_true rfl) (fun σ' z1 a1 => ?_)))
  obtain ⟨hs_, a1⟩ := a1
  rw [hs_]; clear hs_ σ'
  refine ok_if_eq 3 26 rfl rfl rfl (fun h5 => ?_) (fun h5 => ?_)
  · refine ok_iconst 16 rfl rfl (by decide) (ok_iret 17 rfl rfl rfl ?_)
    exact ⟨_, rfl, fr.rf⟩
  · obtain ⟨u1, u2, u3⟩ := yes1 a1 h5
    have tn := hB.1 s u1 u2
    refine ok_iload_n 4 rfl rfl rfl (ok_i2l 5 rfl rfl (ok_lconst (w := 0) 6 rfl rfl rfl (by decide) (ok_aload_n 7 rfl rfl rfl (ok_getR 8 rfl rfl fl_X12_7 rfl rfl (ok_iload_n 9 rfl rfl rfl (ok_iald 10 rfl rfl rfl (by first | omega | (simp [up_if]; omega) | (simp [up_if] at *; omega)) (ok_iconst 11 rfl rfl (by decide) (ok_isub 12 rfl rfl (by first | omega | (simp [up_if]; omega) | (simp [up_if] at *; omega)) (ok_i2l 13 rfl rfl (ok_callSI (M' := M_Mo_isIn) (as := [_, _, _]) 14 rfl rfl ml_X12_99 (s_Mo_isIn_r) ⟨Nat.le_of_ble_eq_true rfl, Nat.le_of_ble_eq_true rfl⟩ rfl (Nat.le_of_ble_eq_true rfl) (fun σ' z2 a2 => ?_)))))))))))
    obtain ⟨hs_, a2⟩ := a2
    rw [hs_]; clear hs_ σ'
    refine ok_if_ne 15 28 rfl rfl rfl (fun h23 => ?_) (fun h23 => ?_)
    · refine ok_aload_n 18 rfl rfl rfl (ok_getR 19 rfl rfl fl_X12_7 rfl rfl (ok_iload_n 20 rfl rfl rfl (ok_iald 21 rfl rfl rfl (by first | omega | (simp [up_if]; omega) | (simp [up_if] at *; omega)) (ok_ist3 22 rfl rfl rfl (ok_iconst 23 rfl rfl (by decide) (ok_ist4 24 rfl rfl rfl ?_))))))
      have hr := yes1 a2 h23
      obtain ⟨n, en⟩ : ∃ n, n = σ 1 s := ⟨_, rfl⟩
      rw [← en]
      have n1 : 1 ≤ n ∧ n ≤ 8 := by omega
      have r1 : 0 ≤ r ∧ r < n := by omega
      have E : ∀ τ : eS, fr rgX σ τ → iB1 τ ∧ τ 1 s = n := fun τ g => ⟨iB1_frS hB g (fun c k q => by simp only [rgX]; omega), by rw [g 1 s (by simp [rgX]), en]⟩
      refine lpO2 (fun (k : Int) (_ : eS) => [some (vr 0), some (vi s), some (vi r), some (vi n), some (vi k), none, none]) (fun _ ρ => ρ) (fun k ρ => 0 ≤ k ∧ k ≤ n ∧ fr rgX σ ρ) (fun k _ => (n - k).toNat) ?_ 0 _ ⟨by omega, by omega, fr.rf⟩
      rintro k ρ ⟨k1, k2, f⟩ ih
      refine ok_iload 25 rfl rfl rfl (ok_iload_n 26 rfl rfl rfl (ok_icmp_ge 27 101 rfl rfl rfl (fun h41 => ?_) (fun h41 => ?_)))
      · refine ok_iconst 57 rfl rfl (by decide) (ok_ist4 58 rfl rfl rfl ?_)
        clear ih k1 k2
        refine lpO2 (fun (k : Int) (_ : eS) => [some (vr 0), some (vi s), some (vi r), some (vi n), some (vi k), none, none]) (fun _ ρ => ρ) (fun k ρ => 0 ≤ k ∧ k ≤ n ∧ fr rgX σ ρ) (fun k _ => (n - k).toNat) ?_ 0 _ ⟨by omega, by omega, f⟩
        clear f h41 ρ k
        rintro k ρ ⟨k1, k2, f⟩ ih
        refine ok_iload 59 rfl rfl rfl (ok_iload_n 60 rfl rfl rfl (ok_icmp_ge 61 208 rfl rfl rfl (fun h107 => ?_) (fun h107 => ?_)))
        · refine ok_iconst 116 rfl rfl (by decide) (ok_ist4 117 rfl rfl rfl (ok_iconst 118 rfl rfl (by decide) (ok_ist5 119 rfl rfl rfl ?_)))
          clear ih k1 k2
          refine lpO2 (fun (v i : Int) => [some (vr 0), some (vi s), some (vi r), some (vi n), some (vi v), some (vi i), none]) (fun _ _ => ρ) (fun v i => 0 ≤ i ∧ i ≤ n) (fun _ i => (n - i).toNat) ?_ 0 0 ⟨by omega, by omega⟩
          rintro v i ⟨i1, i2⟩ ih2
          refine ok_iload 120 rfl rfl rfl (ok_iload_n 121 rfl rfl rfl (ok_icmp_ge 122 270 rfl rfl rfl (fun h217 => ?_) (fun h217 => ?_)))
          · refine ok_iload 152 rfl rfl rfl (ok_iret 153 rfl rfl rfl ?_)
            exact ⟨_, rfl, f⟩
          · have b1 := ix8 (n := n) (i := r) (j := i) ⟨by omega, by omega⟩ ⟨by omega, by omega⟩ ⟨by omega, by omega⟩
            have b2 := ix8 (n := n) (i := i) (j := r) ⟨by omega, by omega⟩ ⟨by omega, by omega⟩ ⟨by omega, by omega⟩
            refine ok_iload 123 rfl rfl rfl (ok_aload_n 124 rfl rfl rfl (ok_getR 125 rfl rfl fl_X12_75 rfl rfl (ok_iload_n 126 rfl rfl rfl (ok_iload_n 127 rfl rfl rfl (ok_imul 128 rfl rfl (by first | omega | (simp [up_if]; omega) | (simp [up_if] at *; omega)) (ok_iload 129 rfl rfl rfl (ok_iadd 130 rfl rfl (by first | omega | (simp [up_if]; omega) | (simp [up_if] at *; omega)) (ok_zald 131 rfl rfl rfl (by first | omega | (simp [up_if]; omega) | (simp [up_if] at *; omega)) (ok_if_eq 132 254 rfl rfl rfl (fun h233 => ?_) (fun h233 => ?_))))))))))
            · refine ok_iconst 144 rfl rfl (by decide) (ok_callSI (M' := M_Mo_one) (as := [_]) 145 rfl rfl ml_X12_192 (s_Mo_one) ⟨Nat.le_of_ble_eq_true rfl, Nat.le_of_ble_eq_true rfl⟩ rfl (Nat.le_of_ble_eq_true rfl) (fun σ' z hz => ?_))
              rw [hz.1, hz.2]
              clear hz z σ'
              refine ok_iload 146 rfl rfl rfl (ok_ishl 147 rfl rfl (ok_ior 148 rfl rfl (ok_ist4 149 rfl rfl rfl (ok_inc5 150 rfl rfl rfl (by first | omega | (simp [up_if]; omega) | (simp [up_if] at *; omega)) (ok_goto 151 214 rfl rfl rfl ?_)))))
              exact ih2 _ (i + 1) ⟨by omega, by omega⟩ (by omega)
            · refine ok_aload_n 133 rfl rfl rfl (ok_getR 134 rfl rfl fl_X12_75 rfl rfl (ok_iload_n 135 rfl rfl rfl (ok_iload 136 rfl rfl rfl (ok_imul 137 rfl rfl (by first | omega | (simp [up_if]; omega) | (simp [up_if] at *; omega)) (ok_iload_n 138 rfl rfl rfl (ok_iadd 139 rfl rfl (by first | omega | (simp [up_if]; omega) | (simp [up_if] at *; omega)) (ok_zald 140 rfl rfl rfl (by first | omega | (simp [up_if]; omega) | (simp [up_if] at *; omega)) (ok_if_eq 141 254 rfl rfl rfl (fun h247 => ?_) (fun h247 => ?_)))))))))
              · refine ok_iconst 144 rfl rfl (by decide) (ok_callSI (M' := M_Mo_one) (as := [_]) 145 rfl rfl ml_X12_192 (s_Mo_one) ⟨Nat.le_of_ble_eq_true rfl, Nat.le_of_ble_eq_true rfl⟩ rfl (Nat.le_of_ble_eq_true rfl) (fun σ' z hz => ?_))
                rw [hz.1, hz.2]
                clear hz z σ'
                refine ok_iload 146 rfl rfl rfl (ok_ishl 147 rfl rfl (ok_ior 148 rfl rfl (ok_ist4 149 rfl rfl rfl (ok_inc5 150 rfl rfl rfl (by first | omega | (simp [up_if]; omega) | (simp [up_if] at *; omega)) (ok_goto 151 214 rfl rfl rfl ?_)))))
                exact ih2 _ (i + 1) ⟨by omega, by omega⟩ (by omega)
              · refine ok_iconst 142 rfl rfl (by decide) (ok_goto 143 255 rfl rfl rfl (ok_callSI (M' := M_Mo_one) (as := [_]) 145 rfl rfl ml_X12_192 (s_Mo_one) ⟨Nat.le_of_ble_eq_true rfl, Nat.le_of_ble_eq_true rfl⟩ rfl (Nat.le_of_ble_eq_true rfl) (fun σ' z hz => ?_)))
                rw [hz.1, hz.2]
                clear hz z σ'
                refine ok_iload 146 rfl rfl rfl (ok_ishl 147 rfl rfl (ok_ior 148 rfl rfl (ok_ist4 149 rfl rfl rfl (ok_inc5 150 rfl rfl rfl (by first | omega | (simp [up_if]; omega) | (simp [up_if] at *; omega)) (ok_goto 151 214 rfl rfl rfl ?_)))))
                exact ih2 _ (i + 1) ⟨by omega, by omega⟩ (by omega)
        · refine ok_iconst 62 rfl rfl (by decide) (ok_ist5 63 rfl rfl rfl ?_)
          refine lpO2 (fun (i : Int) (_ : eS) => [some (vr 0), some (vi s), some (vi r), some (vi n), some (vi k), some (vi i), none]) (fun _ ρ => ρ) (fun i ρ => 0 ≤ i ∧ i ≤ n ∧ fr rgX σ ρ) (fun i _ => (n - i).toNat) ?_ 0 _ ⟨by omega, by omega, f⟩
          clear f ρ
          rintro i ρ ⟨i1, i2, f⟩ ih2
          refine ok_iload 64 rfl rfl rfl (ok_iload_n 65 rfl rfl rfl (ok_icmp_ge 66 202 rfl rfl rfl (fun h116 => ?_) (fun h116 => ?_)))
          · refine ok_inc4 114 rfl rfl rfl (by first | omega | (simp [up_if]; omega) | (simp [up_if] at *; omega)) (ok_goto 115 104 rfl rfl rfl ?_)
            exact ok_fg [some (vr 0), some (vi s), some (vi r), some (vi n), some (vi (k + 1)), none, none] ⟨rfl, rfl, rfl, rfl, rfl, trivial⟩ (ih (k + 1) _ ⟨by omega, by omega, f⟩ (by omega))
          · refine ok_iconst 67 rfl rfl (by decide) (ok_ist6 68 rfl rfl rfl ?_)
            refine lpO2 (fun (j : Int) (_ : eS) => [some (vr 0), some (vi s), some (vi r), some (vi n), some (vi k), some (vi i), some (vi j)]) (fun _ ρ => ρ) (fun j ρ => 0 ≤ j ∧ j ≤ n ∧ fr rgX σ ρ) (fun j _ => (n - j).toNat) ?_ 0 _ ⟨by omega, by omega, f⟩
            clear f ρ
            rintro j ρ ⟨j1, j2, f⟩ ih3
            refine ok_iload 69 rfl rfl rfl (ok_iload_n 70 rfl rfl rfl (ok_icmp_ge 71 196 rfl rfl rfl (fun h125 => ?_) (fun h125 => ?_)))
            · refine ok_inc5 112 rfl rfl rfl (by first | omega | (simp [up_if]; omega) | (simp [up_if] at *; omega)) (ok_goto 113 113 rfl rfl rfl ?_)
              exact ok_fg [some (vr 0), some (vi s), some (vi r), some (vi n), some (vi k), some (vi (i + 1)), none] ⟨rfl, rfl, rfl, rfl, rfl, rfl, trivial⟩ (ih2 (i + 1) _ ⟨by omega, by omega, f⟩ (by omega))
            · have b1 := ix8 (n := n) (i := i) (j := j) ⟨by omega, by omega⟩ ⟨by omega, by omega⟩ ⟨by omega, by omega⟩
              have b2 := ix8 (n := n) (i := i) (j := k) ⟨by omega, by omega⟩ ⟨by omega, by omega⟩ ⟨by omega, by omega⟩
              have b3 := ix8 (n := n) (i := k) (j := j) ⟨by omega, by omega⟩ ⟨by omega, by omega⟩ ⟨by omega, by omega⟩
              refine ok_aload_n 72 rfl rfl rfl (ok_getR 73 rfl rfl fl_X12_75 rfl rfl (ok_iload_n 74 rfl rfl rfl (ok_iload 75 rfl rfl rfl (ok_imul 76 rfl rfl (by first | omega | (simp [up_if]; omega) | (simp [up_if] at *; omega)) (ok_iload 77 rfl rfl rfl (ok_iadd 78 rfl rfl (by first | omega | (simp [up_if]; omega) | (simp [up_if] at *; omega)) (ok_aload_n 79 rfl rfl rfl (ok_getR 80 rfl rfl fl_X12_75 rfl rfl (ok_iload_n 81 rfl rfl rfl (ok_iload 82 rfl rfl rfl (ok_imul 83 rfl rfl (by first | omega | (simp [up_if]; omega) | (simp [up_if] at *; omega)) (ok_iload 84 rfl rfl rfl (ok_iadd 85 rfl rfl (by first | omega | (simp [up_if]; omega) | (simp [up_if] at *; omega)) (ok_zald 86 rfl rfl rfl (by first | omega | (simp [up_if]; omega) | (simp [up_if] at *; omega)) (ok_if_ne 87 184 rfl rfl rfl (fun h151 => ?_) (fun h151 => ?_))))))))))))))))
              · refine ok_iconst 106 rfl rfl (by decide) (ok_goto 107 189 rfl rfl rfl (ok_zast 109 rfl rfl rfl (by first | omega | (simp [up_if]; omega) | (simp [up_if] at *; omega)) (by first | omega | (simp [up_if]; omega) | (simp [up_if] at *; omega)) (ok_inc6 110 rfl rfl rfl (by first | omega | (simp [up_if]; omega) | (simp [up_if] at *; omega)) (ok_goto 111 122 rfl rfl rfl ?_))))
                exact ih3 (j + 1) _ ⟨by omega, by omega, fr_up f (by simp [rgX])⟩ (by omega)
              · refine ok_aload_n 88 rfl rfl rfl (ok_getR 89 rfl rfl fl_X12_75 rfl rfl (ok_iload_n 90 rfl rfl rfl (ok_iload 91 rfl rfl rfl (ok_imul 92 rfl rfl (by first | omega | (simp [up_if]; omega) | (simp [up_if] at *; omega)) (ok_iload 93 rfl rfl rfl (ok_iadd 94 rfl rfl (by first | omega | (simp [up_if]; omega) | (simp [up_if] at *; omega)) (ok_zald 95 rfl rfl rfl (by first | omega | (simp [up_if]; omega) | (simp [up_if] at *; omega)) (ok_if_eq 96 188 rfl rfl rfl (fun h166 => ?_) (fun h166 => ?_)))))))))
                · refine ok_iconst 108 rfl rfl (by decide) (ok_zast 109 rfl rfl rfl (by first | omega | (simp [up_if]; omega) | (simp [up_if] at *; omega)) (by first | omega | (simp [up_if]; omega) | (simp [up_if] at *; omega)) (ok_inc6 110 rfl rfl rfl (by first | omega | (simp [up_if]; omega) | (simp [up_if] at *; omega)) (ok_goto 111 122 rfl rfl rfl ?_)))
                  exact ih3 (j + 1) _ ⟨by omega, by omega, fr_up f (by simp [rgX])⟩ (by omega)
                · refine ok_aload_n 97 rfl rfl rfl (ok_getR 98 rfl rfl fl_X12_75 rfl rfl (ok_iload_n 99 rfl rfl rfl (ok_iload 100 rfl rfl rfl (ok_imul 101 rfl rfl (by first | omega | (simp [up_if]; omega) | (simp [up_if] at *; omega)) (ok_iload 102 rfl rfl rfl (ok_iadd 103 rfl rfl (by first | omega | (simp [up_if]; omega) | (simp [up_if] at *; omega)) (ok_zald 104 rfl rfl rfl (by first | omega | (simp [up_if]; omega) | (simp [up_if] at *; omega)) (ok_if_eq 105 188 rfl rfl rfl (fun h181 => ?_) (fun h181 => ?_)))))))))
                  · refine ok_iconst 108 rfl rfl (by decide) (ok_zast 109 rfl rfl rfl (by first | omega | (simp [up_if]; omega) | (simp [up_if] at *; omega)) (by first | omega | (simp [up_if]; omega) | (simp [up_if] at *; omega)) (ok_inc6 110 rfl rfl rfl (by first | omega | (simp [up_if]; omega) | (simp [up_if] at *; omega)) (ok_goto 111 122 rfl rfl rfl ?_)))
                    exact ih3 (j + 1) _ ⟨by omega, by omega, fr_up f (by simp [rgX])⟩ (by omega)
                  · refine ok_iconst 106 rfl rfl (by decide) (ok_goto 107 189 rfl rfl rfl (ok_zast 109 rfl rfl rfl (by first | omega | (simp [up_if]; omega) | (simp [up_if] at *; omega)) (by first | omega | (simp [up_if]; omega) | (simp [up_if] at *; omega)) (ok_inc6 110 rfl rfl rfl (by first | omega | (simp [up_if]; omega) | (simp [up_if] at *; omega)) (ok_goto 111 122 rfl rfl rfl ?_))))
                    exact ih3 (j + 1) _ ⟨by omega, by omega, fr_up f (by simp [rgX])⟩ (by omega)
      · refine ok_iconst 28 rfl rfl (by decide) (ok_ist5 29 rfl rfl rfl ?_)
        refine lpO2 (fun (j : Int) (_ : eS) => [some (vr 0), some (vi s), some (vi r), some (vi n), some (vi k), some (vi j), none]) (fun _ ρ => ρ) (fun j ρ => 0 ≤ j ∧ j ≤ n ∧ fr rgX σ ρ) (fun j _ => (n - j).toNat) ?_ 0 _ ⟨by omega, by omega, f⟩
        clear f ρ
        rintro j ρ ⟨j1, j2, f⟩ ih2
        obtain ⟨eb, e1⟩ := E ρ f
        refine ok_iload 30 rfl rfl rfl (ok_iload_n 31 rfl rfl rfl (ok_icmp_ge 32 95 rfl rfl rfl (fun h50 => ?_) (fun h50 => ?_)))
        · refine ok_inc4 55 rfl rfl rfl (by first | omega | (simp [up_if]; omega) | (simp [up_if] at *; omega)) (ok_goto 56 38 rfl rfl rfl ?_)
          exact ok_fg [some (vr 0), some (vi s), some (vi r), some (vi n), some (vi (k + 1)), none, none] ⟨rfl, rfl, rfl, rfl, rfl, trivial⟩ (ih (k + 1) _ ⟨by omega, by omega, f⟩ (by omega))
        · have bm := ix8 (n := n) (i := k) (j := j) ⟨by omega, by omega⟩ ⟨by omega, by omega⟩ ⟨by omega, by omega⟩
          refine ok_aload_n 33 rfl rfl rfl (ok_getR 34 rfl rfl fl_X12_75 rfl rfl (ok_iload_n 35 rfl rfl rfl (ok_iload 36 rfl rfl rfl (ok_imul 37 rfl rfl (by first | omega | (simp [up_if]; omega) | (simp [up_if] at *; omega)) (ok_iload 38 rfl rfl rfl (ok_iadd 39 rfl rfl (by first | omega | (simp [up_if]; omega) | (simp [up_if] at *; omega)) (ok_iload 40 rfl rfl rfl (ok_iload 41 rfl rfl rfl (ok_icmp_eq 42 83 rfl rfl rfl (fun h68 => ?_) (fun h68 => ?_))))))))))
          · refine ok_iconst 49 rfl rfl (by decide) (ok_goto 50 88 rfl rfl rfl (ok_zast 52 rfl rfl rfl (by first | omega | (simp [up_if]; omega) | (simp [up_if] at *; omega)) (by first | omega | (simp [up_if]; omega) | (simp [up_if] at *; omega)) (ok_inc5 53 rfl rfl rfl (by first | omega | (simp [up_if]; omega) | (simp [up_if] at *; omega)) (ok_goto 54 47 rfl rfl rfl ?_))))
            exact ih2 (j + 1) _ ⟨by omega, by omega, fr_up f (by simp [rgX])⟩ (by omega)
          · refine ok_aload_n 43 rfl rfl rfl (ok_iload_n 44 rfl rfl rfl (ok_iload 45 rfl rfl rfl (ok_iload 46 rfl rfl rfl (ok_callVI (M' := M_Mo_at) (as := [_, _, _]) 47 rfl rfl ml_X12_107 (s_Mo_at eb ⟨u1, u2⟩ ⟨by omega, by omega⟩ ⟨by omega, by omega⟩) rfl rfl (Nat.le_of_ble_eq_true rfl) ⟨Nat.le_of_ble_eq_true rfl, Nat.le_of_ble_eq_true rfl⟩ rfl (Nat.le_of_ble_eq_true rfl) (fun σ' z hz => ?_)))))
            rw [hz.1, hz.2]
            clear hz z σ'
            refine ok_if_le 48 87 rfl rfl rfl (fun h80 => ?_) (fun h80 => ?_)
            · refine ok_iconst 51 rfl rfl (by decide) (ok_zast 52 rfl rfl rfl (by first | omega | (simp [up_if]; omega) | (simp [up_if] at *; omega)) (by first | omega | (simp [up_if]; omega) | (simp [up_if] at *; omega)) (ok_inc5 53 rfl rfl rfl (by first | omega | (simp [up_if]; omega) | (simp [up_if] at *; omega)) (ok_goto 54 47 rfl rfl rfl ?_)))
              exact ih2 (j + 1) _ ⟨by omega, by omega, fr_up f (by simp [rgX])⟩ (by omega)
            · refine ok_iconst 49 rfl rfl (by decide) (ok_goto 50 88 rfl rfl rfl (ok_zast 52 rfl rfl rfl (by first | omega | (simp [up_if]; omega) | (simp [up_if] at *; omega)) (by first | omega | (simp [up_if]; omega) | (simp [up_if] at *; omega)) (ok_inc5 53 rfl rfl rfl (by first | omega | (simp [up_if]; omega) | (simp [up_if] at *; omega)) (ok_goto 54 47 rfl rfl rfl ?_))))
              exact ih2 (j + 1) _ ⟨by omega, by omega, fr_up f (by simp [rgX])⟩ (by omega)
    · refine ok_iconst 16 rfl rfl (by decide) (ok_iret 17 rfl rfl rfl ?_)
      exact ⟨_, rfl, fr.rf⟩
end
section
theorem wr_q (z : Int) : ∃ q : Int, wr z = z + 4294967296 * q ∧ -2147483648 ≤ wr z ∧ wr z ≤ 2147483647 := by
  have e : wr z = z.bmod 4294967296 := Int32.toInt_ofInt
  rw [e, Int.bmod_def]
  have g := Int.mul_ediv_add_emod z 4294967296
  have g1 := Int.emod_nonneg z (by decide : (4294967296 : Int) ≠ 0)
  have g2 := Int.emod_lt_of_pos z (by decide : (0 : Int) < 4294967296)
  by_cases q : z % ((4294967296 : Nat) : Int) < (((4294967296 : Nat) : Int) + 1) / 2
  · rw [if_pos q]
    exact ⟨-(z / 4294967296), by omega, by omega, by omega⟩
  · rw [if_neg q]
    exact ⟨-(z / 4294967296) - 1, by omega, by omega, by omega⟩
theorem wr_add (a b : Int) : wr (wr a + b) = wr (a + b) := by
  obtain ⟨q1, h1, h2, h3⟩ := wr_q a
  obtain ⟨q2, h4, h5, h6⟩ := wr_q (a + b)
  obtain ⟨q3, h7, h8, h9⟩ := wr_q (wr a + b)
  omega
theorem wr_sub {a b : Int} (h : -2147483648 ≤ a - b ∧ a - b ≤ 2147483647) : wr (wr a - wr b) = a - b := by
  obtain ⟨q1, h1, h2, h3⟩ := wr_q a
  obtain ⟨q2, h4, h5, h6⟩ := wr_q b
  obtain ⟨q3, h7, h8, h9⟩ := wr_q (wr a - wr b)
  omega
theorem fl_sum {f : Int → Int} {b : Int} (hb : 1 ≤ b) : ∀ {n : Nat}, (∀ k : Int, 0 ≤ k → k < n → 0 ≤ f k) → b * sm (fun k => f k / b) n ≤ sm f n ∧ sm f n ≤ b * sm (fun k => f k / b) n + n * (b - 1)
  | 0, _ => by simp [sm]
  | n + 1, h => by
    have ih := fl_sum hb (n := n) (fun k a c => h k a (by omega))
    have g := Int.mul_ediv_add_emod (f n) b
    have g1 := Int.emod_nonneg (f n) (by omega : b ≠ 0)
    have g2 := Int.emod_lt_of_pos (f n) (by omega : 0 < b)
    have e1 : sm f (n + 1) = sm f n + f n := rfl
    have e2 : sm (fun k => f k / b) (n + 1) = sm (fun k => f k / b) n + f n / b := rfl
    rw [e1, e2, Int.mul_add, show ((n + 1 : Nat) : Int) * (b - 1) = n * (b - 1) + (b - 1) by rw [Int.natCast_add, Int.add_mul]; simp]
    omega
theorem fl_div {b g X m : Int} (hb : 1 ≤ b) (hm : 0 ≤ m) (h1 : b * g ≤ X) (h2 : X ≤ b * g + m * (b - 1)) : (g ≤ X / b ∧ X / b ≤ g + m) ∧ g ≤ (X + b - 1) / b ∧ (X + b - 1) / b ≤ g + m := by
  have e1 : b * g = g * b := Int.mul_comm _ _
  have e2 : (g + m + 1) * b = g * b + m * b + b := by rw [Int.add_mul, Int.add_mul, Int.one_mul]
  have e3 : m * (b - 1) = m * b - m := by rw [Int.mul_sub, Int.mul_one]
  have c1 : X / b < g + m + 1 := Int.ediv_lt_of_lt_mul (by omega) (by omega)
  have c2 : (X + b - 1) / b < g + m + 1 := Int.ediv_lt_of_lt_mul (by omega) (by omega)
  have c3 : g ≤ X / b := Int.le_ediv_of_mul_le (by omega) (by omega)
  have c4 : g ≤ (X + b - 1) / b := Int.le_ediv_of_mul_le (by omega) (by omega)
  omega
theorem s_Mo_cut {σ : eS} {x b : Int} (hx : 0 ≤ x) (hb : 1 ≤ b) : MtI shB M_Mo_cut [vl x, vi b] σ (fun σ' z => σ' = σ ∧ z = wr (x / b)) := by
  refine Mt.of okM_Mo_cut (Nat.le_of_ble_eq_true rfl) (fun hk hg => ?_)
  refine ok_lload_n 0 rfl rfl rfl (ok_iload_n 1 rfl rfl rfl (ok_i2l 2 rfl rfl (ok_ldiv 3 rfl rfl (by first | omega | (simp [up_if]; omega) | (simp [up_if] at *; omega)) (by first | omega | (simp [up_if]; omega) | (simp [up_if] at *; omega)) (ok_l2iW 4 rfl rfl (ok_iret 5 rfl rfl rfl ?_)))))
  exact ⟨_, rfl, rfl, rfl⟩
theorem s_Mo_up {σ : eS} {x b : Int} (hx : 0 ≤ x ∧ x ≤ 99999999999) (hb : 1 ≤ b ∧ b ≤ 999999) : MtI shB M_Mo_up [vl x, vi b] σ (fun σ' z => σ' = σ ∧ z = wr ((x + b - 1) / b)) := by
  refine Mt.of okM_Mo_up (Nat.le_of_ble_eq_true rfl) (fun hk hg => ?_)
  refine ok_lload_n 0 rfl rfl rfl (ok_iload_n 1 rfl rfl rfl (ok_i2l 2 rfl rfl (ok_ladd 3 rfl rfl (by first | omega | (simp [up_if]; omega) | (simp [up_if] at *; omega)) (ok_lconst (w := 1) 4 rfl rfl rfl (by decide) (ok_lsub 5 rfl rfl (by first | omega | (simp [up_if]; omega) | (simp [up_if] at *; omega)) (ok_iload_n 6 rfl rfl rfl (ok_i2l 7 rfl rfl (ok_ldiv 8 rfl rfl (by first | omega | (simp [up_if]; omega) | (simp [up_if] at *; omega)) (by first | omega | (simp [up_if]; omega) | (simp [up_if] at *; omega)) (ok_l2iW 9 rfl rfl (ok_iret 10 rfl rfl rfl ?_))))))))))
  exact ⟨_, rfl, rfl, rfl⟩
abbrev rgH : Nat → Int → Prop := fun c _ => c = 15 ∨ c = 16
def lhB (σ : eS) (n : Int) : Prop := ∀ k, ((0 ≤ k ∧ k < n) ∨ (8 ≤ k ∧ k < 8 + n)) → 0 ≤ σ 15 k ∧ σ 15 k ≤ 8 ∧ 0 ≤ σ 16 k ∧ σ 16 k ≤ 8
def lhT (σ : eS) : Prop := 0 ≤ σ 15 16 ∧ σ 15 16 ≤ 64 ∧ 0 ≤ σ 16 16 ∧ σ 16 16 ≤ 64
theorem up15 (σ : eS) (k z j : Int) : up σ 15 k z 2 j = σ 2 j := up_ne _ _ _ _ (by decide)
theorem up16 (σ : eS) (k z j : Int) : up σ 16 k z 2 j = σ 2 j := up_ne _ _ _ _ (by decide)
theorem s_Mo_laysBounds {σ : eS} {s : Int} (hB : iB1 σ) (ht : tabB σ s) : MtV shB M_Mo_laysBounds [vr 0, vi s] σ (fun σ' => fr rgH σ σ' ∧ lhB σ' (σ 1 s) ∧ lhT σ') := by
  refine Mt.of okM_Mo_laysBounds (Nat.le_of_ble_eq_true rfl) (fun hk hg => ?_)
  obtain ⟨u1, u2, u3⟩ := ht
  have tn := hB.1 s u1 u2
  obtain ⟨n, en⟩ : ∃ n, n = σ 1 s := ⟨_, rfl⟩
  obtain ⟨b, eb⟩ : ∃ b, b = σ 2 s := ⟨_, rfl⟩
  have hb : 1 ≤ b ∧ b ≤ 999999 := by have := tn.2.2 (by omega); omega
  have n1 : 1 ≤ n ∧ n ≤ 8 := by omega
  rw [← en]
  have E : ∀ τ : eS, fr rgH σ τ → iB1 τ ∧ τ 1 s = n ∧ cB τ s = cB σ s ∧ rowB τ s = rowB σ s ∧ colB τ s = colB σ s := fun τ g => by
    have e1 : ∀ k, τ 1 k = σ 1 k := fun k => g 1 k (by simp [rgH])
    have e3 : ∀ k, τ 3 k = σ 3 k := fun k => g 3 k (by simp [rgH])
    refine ⟨iB1_frS hB g (fun c k q => by simp only [rgH]; omega), by rw [e1, en], ?_, ?_, ?_⟩
    · funext a b; unfold cB; rw [e1, e3]
    · funext a; unfold rowB cB; simp only [e1, e3]
    · funext a; unfold colB cB; simp only [e1, e3]
  have A : ∀ (τ : eS) (i j : Int), fr rgH σ τ → 0 ≤ i ∧ i < n → 0 ≤ j ∧ j < n → MtI shB M_Mo_at [vr 0, vi s, vi i, vi j] τ (fun σ' z => σ' = τ ∧ z = cB σ s i j) := fun τ i j g hi hj => by
    obtain ⟨x1, x2, x3, x4, x5⟩ := E τ g
    rw [← x3]; exact s_Mo_at x1 ⟨u1, u2⟩ (by rw [x2]; exact hi) (by rw [x2]; exact hj)
  have R : ∀ (τ : eS) (i : Int), fr rgH σ τ → 0 ≤ i ∧ i < n → MtL shB M_Mo_rowOf [vr 0, vi s, vi i] τ (fun σ' z => σ' = τ ∧ z = rowB σ s i) := fun τ i g hi => by
    obtain ⟨x1, x2, x3, x4, x5⟩ := E τ g
    rw [← x4]; exact s_Mo_rowOf x1 ⟨u1, u2⟩ (by rw [x2]; exact hi)
  have C : ∀ (τ : eS) (i : Int), fr rgH σ τ → 0 ≤ i ∧ i < n → MtL shB M_Mo_columnOf [vr 0, vi s, vi i] τ (fun σ' z => σ' = τ ∧ z = colB σ s i) := fun τ i g hi => by
    obtain ⟨x1, x2, x3, x4, x5⟩ := E τ g
    rw [← x5]; exact s_Mo_columnOf x1 ⟨u1, u2⟩ (by rw [x2]; exact hi)
  refine ok_aload_n 0 rfl rfl rfl (ok_getR 1 rfl rfl fl_X12_7 rfl rfl (ok_iload_n 2 rfl rfl rfl (ok_iald 3 rfl rfl rfl (by first | omega | (simp [up_if]; omega) | (simp [up_if] at *; omega)) ?_)))
  rw [← en]
  refine ok_ist2 4 rfl rfl rfl (ok_lconst (w := 0) 5 rfl rfl rfl (by decide) (ok_lst3 6 rfl rfl rfl (ok_iconst 7 rfl rfl (by decide) (ok_ist5 8 rfl rfl rfl (ok_iconst 9 rfl rfl (by decide) (ok_ist6 10 rfl rfl rfl ?_))))))
  refine lpO4 (fun (t v i : Int) (_ : eS) => [some (vr 0), some (vi s), some (vi n), some (vl t), none, some (vi v), some (vi i), none, none, none]) (fun _ _ _ ρ => ρ) (fun t v i ρ => 0 ≤ i ∧ i ≤ n ∧ fr rgH σ ρ ∧ 0 ≤ t ∧ t ≤ 799999992 * i ∧ lhB ρ i ∧ ∃ G, v = wr G ∧ b * G ≤ t ∧ t ≤ b * G + 8 * i * (b - 1)) (fun _ _ i _ => (n - i).toNat) ?_ 0 0 0 σ ⟨by omega, by omega, fr.rf, by omega, by omega, fun k q => by omega, 0, rfl, by omega, by omega⟩
  rintro t v i ρ ⟨i1, i2, f, t1, t2, lb, G, ev, G1, G2⟩ ih
  have e2 : ρ 2 s = b := by rw [f 2 s (by simp [rgH]), eb]
  refine ok_iload 11 rfl rfl rfl (ok_iload_n 12 rfl rfl rfl (ok_icmp_ge 13 223 rfl rfl rfl (fun h18 => ?_) (fun h18 => ?_)))
  · have ei : i = n := by omega
    have q0 := fl_div hb.1 (show 0 ≤ 8 * i by omega) G1 G2
    obtain ⟨q1, q2⟩ := q0
    refine ok_aload_n 130 rfl rfl rfl (ok_getR 131 rfl rfl fl_X12_57 rfl rfl (ok_bipush 132 rfl rfl (by decide) (by decide) (ok_lload_n 133 rfl rfl rfl (ok_aload_n 134 rfl rfl rfl (ok_getR 135 rfl rfl fl_X12_13 rfl rfl (ok_iload_n 136 rfl rfl rfl (ok_iald 137 rfl rfl rfl (by first | omega | (simp [up_if]; omega) | (simp [up_if] at *; omega)) ?_)))))))
    rw [e2]
    refine ok_callSI (M' := M_Mo_cut) (as := [_, _]) 138 rfl rfl ml_X12_323 (s_Mo_cut t1 hb.1) ⟨Nat.le_of_ble_eq_true rfl, Nat.le_of_ble_eq_true rfl⟩ rfl (Nat.le_of_ble_eq_true rfl) (fun σ' z hz => ?_)
    rw [hz.1, hz.2]
    clear hz z σ'
    rw [ev]
    refine ok_iload 139 rfl rfl rfl (ok_isubW 140 rfl rfl ?_)
    rw [wr_sub ⟨by omega, by omega⟩]
    refine ok_iast 141 rfl rfl rfl (by first | omega | (simp [up_if]; omega) | (simp [up_if] at *; omega)) (ok_aload_n 142 rfl rfl rfl (ok_getR 143 rfl rfl fl_X12_60 rfl rfl (ok_bipush 144 rfl rfl (by decide) (by decide) (ok_lload_n 145 rfl rfl rfl (ok_aload_n 146 rfl rfl rfl (ok_getR 147 rfl rfl fl_X12_13 rfl rfl (ok_iload_n 148 rfl rfl rfl (ok_iald 149 rfl rfl rfl (by first | omega | (simp [up_if]; omega) | (simp [up_if] at *; omega)) ?_))))))))
    rw [up15, e2]
    refine ok_callSI (M' := M_Mo_up) (as := [_, _]) 150 rfl rfl ml_X12_327 (s_Mo_up ⟨by omega, by omega⟩ hb) ⟨Nat.le_of_ble_eq_true rfl, Nat.le_of_ble_eq_true rfl⟩ rfl (Nat.le_of_ble_eq_true rfl) (fun σ' z hz => ?_)
    rw [hz.1, hz.2]
    clear hz z σ'
    refine ok_iload 151 rfl rfl rfl (ok_isubW 152 rfl rfl ?_)
    rw [wr_sub ⟨by omega, by omega⟩]
    refine ok_iast 153 rfl rfl rfl (by first | omega | (simp [up_if]; omega) | (simp [up_if] at *; omega)) (ok_vret 154 rfl rfl rfl ?_)
    refine ⟨rfl, fr_up (fr_up f (by simp [rgH])) (by simp [rgH]), fun k q => ?_, ?_⟩
    · have old := lb k (by omega)
      simp only [up_if]
      rw [if_neg (by omega), if_neg (by omega), if_neg (by omega), if_neg (by omega)]
      exact old
    · unfold lhT
      simp only [up_if]
      simp
      omega
  · refine ok_iconst 14 rfl rfl (by decide) (ok_ist7 15 rfl rfl rfl (ok_iconst 16 rfl rfl (by decide) (ok_ist8 17 rfl rfl rfl (ok_iconst 18 rfl rfl (by decide) (ok_ist9 19 rfl rfl rfl ?_)))))
    have il : i < n := by omega
    refine lpO3 (fun (a c j : Int) => [some (vr 0), some (vi s), some (vi n), some (vl t), none, some (vi v), some (vi i), some (vi a), some (vi c), some (vi j)]) (fun _ _ _ => ρ) (fun a c j => 0 ≤ j ∧ j ≤ n ∧ a = sm (fun k => cB σ s i k / b) j.toNat ∧ c = sm (fun k => cB σ s k i / b) j.toNat) (fun _ _ j => (n - j).toNat) ?_ 0 0 0 ⟨by omega, by omega, rfl, rfl⟩
    rintro a c j ⟨j1, j2, ea, ec⟩ ih2
    have sa := sm_bd (f := fun k => cB σ s i k / b) (B := 99999999) (by decide) (n := j.toNat) (fun k a c => div_bd (cB_bd hB ⟨u1, u2⟩ ⟨by omega, by omega⟩ ⟨by omega, by omega⟩) hb.1)
    have sc := sm_bd (f := fun k => cB σ s k i / b) (B := 99999999) (by decide) (n := j.toNat) (fun k a c => div_bd (cB_bd hB ⟨u1, u2⟩ ⟨by omega, by omega⟩ ⟨by omega, by omega⟩) hb.1)
    rw [← ea] at sa
    rw [← ec] at sc
    refine ok_iload 20 rfl rfl rfl (ok_iload_n 21 rfl rfl rfl (ok_icmp_ge 22 90 rfl rfl rfl (fun h33 => ?_) (fun h33 => ?_)))
    · have ej : j = n := by omega
      have rb := rowB_bd hB ⟨u1, u2⟩ (i := i) ⟨by omega, by omega⟩
      have cb := colB_bd hB ⟨u1, u2⟩ (j := i) ⟨by omega, by omega⟩
      have fr1 := fl_sum (f := fun k => cB σ s i k) hb.1 (n := n.toNat) (fun k a c => (cB_bd hB ⟨u1, u2⟩ (i := i) (j := k) ⟨by omega, by omega⟩ ⟨by omega, by omega⟩).1)
      have fc1 := fl_sum (f := fun k => cB σ s k i) hb.1 (n := n.toNat) (fun k a c => (cB_bd hB ⟨u1, u2⟩ (i := k) (j := i) ⟨by omega, by omega⟩ ⟨by omega, by omega⟩).1)
      have er : sm (fun k => cB σ s i k) n.toNat = rowB σ s i := by unfold rowB; rw [en]
      have el : sm (fun k => cB σ s k i) n.toNat = colB σ s i := by unfold colB; rw [en]
      rw [er, show ((n.toNat : Nat) : Int) = n by omega] at fr1
      rw [el, show ((n.toNat : Nat) : Int) = n by omega] at fc1
      rw [ej] at ea ec
      rw [← ea] at fr1
      rw [← ec] at fc1
      obtain ⟨q1, q2⟩ := fl_div hb.1 (by omega) fr1.1 fr1.2
      obtain ⟨q3, q4⟩ := fl_div hb.1 (by omega) fc1.1 fc1.2
      have w1 := wr_id (z := rowB σ s i / b) ⟨by omega, by omega⟩
      have w2 := wr_id (z := (rowB σ s i + b - 1) / b) ⟨by omega, by omega⟩
      have w3 := wr_id (z := colB σ s i / b) ⟨by omega, by omega⟩
      have w4 := wr_id (z := (colB σ s i + b - 1) / b) ⟨by omega, by omega⟩
      clear ih2
      refine ok_aload_n 53 rfl rfl rfl (ok_getR 54 rfl rfl fl_X12_57 rfl rfl (ok_iload 55 rfl rfl rfl (ok_aload_n 56 rfl rfl rfl (ok_iload_n 57 rfl rfl rfl (ok_iload 58 rfl rfl rfl (ok_callVL (M' := M_Mo_rowOf) (as := [_, _]) 59 rfl rfl ml_X12_114 (R _ _ f ⟨by omega, by omega⟩) rfl rfl (Nat.le_of_ble_eq_true rfl) ⟨Nat.le_of_ble_eq_true rfl, Nat.le_of_ble_eq_true rfl⟩ rfl (Nat.le_of_ble_eq_true rfl) (fun σ' z hz => ?_)))))))
      rw [hz.1, hz.2]
      clear hz z σ'
      refine ok_aload_n 60 rfl rfl rfl (ok_getR 61 rfl rfl fl_X12_13 rfl rfl (ok_iload_n 62 rfl rfl rfl (ok_iald 63 rfl rfl rfl (by first | omega | (simp [up_if]; omega) | (simp [up_if] at *; omega)) ?_)))
      rw [e2]
      refine ok_callSI (M' := M_Mo_cut) (as := [_, _]) 64 rfl rfl ml_X12_323 (s_Mo_cut rb.1 hb.1) ⟨Nat.le_of_ble_eq_true rfl, Nat.le_of_ble_eq_true rfl⟩ rfl (Nat.le_of_ble_eq_true rfl) (fun σ' z hz => ?_)
      rw [hz.1, hz.2]
      clear hz z σ'
      rw [w1]
      refine ok_iload 65 rfl rfl rfl (ok_isub 66 rfl rfl (by first | omega | (simp [up_if]; omega) | (simp [up_if] at *; omega)) (ok_iast 67 rfl rfl rfl (by first | omega | (simp [up_if]; omega) | (simp [up_if] at *; omega)) (ok_aload_n 68 rfl rfl rfl (ok_getR 69 rfl rfl fl_X12_60 rfl rfl (ok_iload 70 rfl rfl rfl (ok_aload_n 71 rfl rfl rfl (ok_iload_n 72 rfl rfl rfl (ok_iload 73 rfl rfl rfl (ok_callVL (M' := M_Mo_rowOf) (as := [_, _]) 74 rfl rfl ml_X12_114 (R _ _ (fr_up f (by simp [rgH])) ⟨by omega, by omega⟩) rfl rfl (Nat.le_of_ble_eq_true rfl) ⟨Nat.le_of_ble_eq_true rfl, Nat.le_of_ble_eq_true rfl⟩ rfl (Nat.le_of_ble_eq_true rfl) (fun σ' z hz => ?_))))))))))
      rw [hz.1, hz.2]
      clear hz z σ'
      refine ok_aload_n 75 rfl rfl rfl (ok_getR 76 rfl rfl fl_X12_13 rfl rfl (ok_iload_n 77 rfl rfl rfl (ok_iald 78 rfl rfl rfl (by first | omega | (simp [up_if]; omega) | (simp [up_if] at *; omega)) ?_)))
      rw [up15, e2]
      refine ok_callSI (M' := M_Mo_up) (as := [_, _]) 79 rfl rfl ml_X12_327 (s_Mo_up ⟨by omega, by omega⟩ hb) ⟨Nat.le_of_ble_eq_true rfl, Nat.le_of_ble_eq_true rfl⟩ rfl (Nat.le_of_ble_eq_true rfl) (fun σ' z hz => ?_)
      rw [hz.1, hz.2]
      clear hz z σ'
      rw [w2]
      refine ok_iload 80 rfl rfl rfl (ok_isub 81 rfl rfl (by first | omega | (simp [up_if]; omega) | (simp [up_if] at *; omega)) (ok_iast 82 rfl rfl rfl (by first | omega | (simp [up_if]; omega) | (simp [up_if] at *; omega)) (ok_aload_n 83 rfl rfl rfl (ok_getR 84 rfl rfl fl_X12_57 rfl rfl (ok_bipush 85 rfl rfl (by decide) (by decide) (ok_iload 86 rfl rfl rfl (ok_iadd 87 rfl rfl (by first | omega | (simp [up_if]; omega) | (simp [up_if] at *; omega)) (ok_aload_n 88 rfl rfl rfl (ok_iload_n 89 rfl rfl rfl (ok_iload 90 rfl rfl rfl (ok_callVL (M' := M_Mo_columnOf) (as := [_, _]) 91 rfl rfl ml_X12_122 (C _ _ (fr_up (fr_up f (by simp [rgH])) (by simp [rgH])) ⟨by omega, by omega⟩) rfl rfl (Nat.le_of_ble_eq_true rfl) ⟨Nat.le_of_ble_eq_true rfl, Nat.le_of_ble_eq_true rfl⟩ rfl (Nat.le_of_ble_eq_true rfl) (fun σ' z hz => ?_))))))))))))
      rw [hz.1, hz.2]
      clear hz z σ'
      refine ok_aload_n 92 rfl rfl rfl (ok_getR 93 rfl rfl fl_X12_13 rfl rfl (ok_iload_n 94 rfl rfl rfl (ok_iald 95 rfl rfl rfl (by first | omega | (simp [up_if]; omega) | (simp [up_if] at *; omega)) ?_)))
      rw [up16, up15, e2]
      refine ok_callSI (M' := M_Mo_cut) (as := [_, _]) 96 rfl rfl ml_X12_323 (s_Mo_cut cb.1 hb.1) ⟨Nat.le_of_ble_eq_true rfl, Nat.le_of_ble_eq_true rfl⟩ rfl (Nat.le_of_ble_eq_true rfl) (fun σ' z hz => ?_)
      rw [hz.1, hz.2]
      clear hz z σ'
      rw [w3]
      refine ok_iload 97 rfl rfl rfl (ok_isub 98 rfl rfl (by first | omega | (simp [up_if]; omega) | (simp [up_if] at *; omega)) (ok_iast 99 rfl rfl rfl (by first | omega | (simp [up_if]; omega) | (simp [up_if] at *; omega)) (ok_aload_n 100 rfl rfl rfl (ok_getR 101 rfl rfl fl_X12_60 rfl rfl (ok_bipush 102 rfl rfl (by decide) (by decide) (ok_iload 103 rfl rfl rfl (ok_iadd 104 rfl rfl (by first | omega | (simp [up_if]; omega) | (simp [up_if] at *; omega)) (ok_aload_n 105 rfl rfl rfl (ok_iload_n 106 rfl rfl rfl (ok_iload 107 rfl rfl rfl (ok_callVL (M' := M_Mo_columnOf) (as := [_, _]) 108 rfl rfl ml_X12_122 (C _ _ (fr_up (fr_up (fr_up f (by simp [rgH])) (by simp [rgH])) (by simp [rgH])) ⟨by omega, by omega⟩) rfl rfl (Nat.le_of_ble_eq_true rfl) ⟨Nat.le_of_ble_eq_true rfl, Nat.le_of_ble_eq_true rfl⟩ rfl (Nat.le_of_ble_eq_true rfl) (fun σ' z hz => ?_))))))))))))
      rw [hz.1, hz.2]
      clear hz z σ'
      refine ok_aload_n 109 rfl rfl rfl (ok_getR 110 rfl rfl fl_X12_13 rfl rfl (ok_iload_n 111 rfl rfl rfl (ok_iald 112 rfl rfl rfl (by first | omega | (simp [up_if]; omega) | (simp [up_if] at *; omega)) ?_)))
      rw [up15, up16, up15, e2]
      refine ok_callSI (M' := M_Mo_up) (as := [_, _]) 113 rfl rfl ml_X12_327 (s_Mo_up ⟨by omega, by omega⟩ hb) ⟨Nat.le_of_ble_eq_true rfl, Nat.le_of_ble_eq_true rfl⟩ rfl (Nat.le_of_ble_eq_true rfl) (fun σ' z hz => ?_)
      rw [hz.1, hz.2]
      clear hz z σ'
      rw [w4]
      refine ok_iload 114 rfl rfl rfl (ok_isub 115 rfl rfl (by first | omega | (simp [up_if]; omega) | (simp [up_if] at *; omega)) (ok_iast 116 rfl rfl rfl (by first | omega | (simp [up_if]; omega) | (simp [up_if] at *; omega)) (ok_lload_n 117 rfl rfl rfl (ok_aload_n 118 rfl rfl rfl (ok_iload_n 119 rfl rfl rfl (ok_iload 120 rfl rfl rfl (ok_callVL (M' := M_Mo_rowOf) (as := [_, _]) 121 rfl rfl ml_X12_114 (R _ _ (fr_up (fr_up (fr_up (fr_up f (by simp [rgH])) (by simp [rgH])) (by simp [rgH])) (by simp [rgH])) ⟨by omega, by omega⟩) rfl rfl (Nat.le_of_ble_eq_true rfl) ⟨Nat.le_of_ble_eq_true rfl, Nat.le_of_ble_eq_true rfl⟩ rfl (Nat.le_of_ble_eq_true rfl) (fun σ' z hz => ?_))))))))
      rw [hz.1, hz.2]
      clear hz z σ'
      refine ok_ladd 122 rfl rfl (by first | omega | (simp [up_if]; omega) | (simp [up_if] at *; omega)) (ok_lst3 123 rfl rfl rfl (ok_iload 124 rfl rfl rfl (ok_iload 125 rfl rfl rfl (ok_iaddW 126 rfl rfl (ok_ist5 127 rfl rfl rfl (ok_inc6 128 rfl rfl rfl (by first | omega | (simp [up_if]; omega) | (simp [up_if] at *; omega)) (ok_goto 129 15 rfl rfl rfl ?_)))))))
      refine ok_fg [some (vr 0), some (vi s), some (vi n), some (vl _), none, some (vi _), some (vi (i + 1)), none, none, none] ⟨rfl, rfl, rfl, rfl, rfl, rfl, trivial⟩ (ih _ _ (i + 1) _ ⟨by omega, by omega, fr_up (fr_up (fr_up (fr_up f (by simp [rgH])) (by simp [rgH])) (by simp [rgH])) (by simp [rgH]), by omega, by omega, fun k q => ?_, G + a, by rw [ev, wr_add], ?_, ?_⟩ (by omega))
      · have old := lb k
        simp only [up_if]
        by_cases y1 : k = i
        · subst y1; simp [show ¬ (k = 8 + k) by omega]; omega
        · by_cases y2 : k = 8 + i
          · subst y2; simp; omega
          · rw [if_neg (by omega), if_neg (by omega), if_neg (by omega), if_neg (by omega), if_neg (by omega), if_neg (by omega), if_neg (by omega), if_neg (by omega)]
            exact old (by omega)
      · rw [Int.mul_add]; omega
      · have m1 : n * (b - 1) ≤ 8 * (b - 1) := Int.mul_le_mul_of_nonneg_right (by omega) (by omega)
        rw [Int.mul_add, show 8 * (i + 1) * (b - 1) = 8 * i * (b - 1) + 8 * (b - 1) by rw [Int.mul_add, Int.add_mul]; omega]
        omega
    · have d1 := div_bd (cB_bd hB ⟨u1, u2⟩ (i := i) (j := j) ⟨by omega, by omega⟩ ⟨by omega, by omega⟩) hb.1
      have d2 := div_bd (cB_bd hB ⟨u1, u2⟩ (i := j) (j := i) ⟨by omega, by omega⟩ ⟨by omega, by omega⟩) hb.1
      have d3 := cB_bd hB ⟨u1, u2⟩ (i := i) (j := j) ⟨by omega, by omega⟩ ⟨by omega, by omega⟩
      have d4 := cB_bd hB ⟨u1, u2⟩ (i := j) (j := i) ⟨by omega, by omega⟩ ⟨by omega, by omega⟩
      have w1 := wr_id (z := cB σ s i j / b) ⟨by omega, by omega⟩
      have w2 := wr_id (z := cB σ s j i / b) ⟨by omega, by omega⟩
      have s1 := sm_s (fun k => cB σ s i k / b) j1
      have s2 := sm_s (fun k => cB σ s k i / b) j1
      refine ok_iload 23 rfl rfl rfl (ok_aload_n 24 rfl rfl rfl (ok_iload_n 25 rfl rfl rfl (ok_iload 26 rfl rfl rfl (ok_iload 27 rfl rfl rfl (ok_callVI (M' := M_Mo_at) (as := [_, _, _]) 28 rfl rfl ml_X12_107 (A _ _ _ f ⟨by omega, by omega⟩ ⟨by omega, by omega⟩) rfl rfl (Nat.le_of_ble_eq_true rfl) ⟨Nat.le_of_ble_eq_true rfl, Nat.le_of_ble_eq_true rfl⟩ rfl (Nat.le_of_ble_eq_true rfl) (fun σ' z hz => ?_))))))
      rw [hz.1, hz.2]
      clear hz z σ'
      refine ok_i2l 29 rfl rfl (ok_aload_n 30 rfl rfl rfl (ok_getR 31 rfl rfl fl_X12_13 rfl rfl (ok_iload_n 32 rfl rfl rfl (ok_iald 33 rfl rfl rfl (by first | omega | (simp [up_if]; omega) | (simp [up_if] at *; omega)) ?_))))
      rw [e2]
      refine ok_callSI (M' := M_Mo_cut) (as := [_, _]) 34 rfl rfl ml_X12_323 (s_Mo_cut d3.1 hb.1) ⟨Nat.le_of_ble_eq_true rfl, Nat.le_of_ble_eq_true rfl⟩ rfl (Nat.le_of_ble_eq_true rfl) (fun σ' z hz => ?_)
      rw [hz.1, hz.2]
      clear hz z σ'
      rw [w1]
      refine ok_iadd 35 rfl rfl (by first | omega | (simp [up_if]; omega) | (simp [up_if] at *; omega)) (ok_ist7 36 rfl rfl rfl (ok_iload 37 rfl rfl rfl (ok_aload_n 38 rfl rfl rfl (ok_iload_n 39 rfl rfl rfl (ok_iload 40 rfl rfl rfl (ok_iload 41 rfl rfl rfl (ok_callVI (M' := M_Mo_at) (as := [_, _, _]) 42 rfl rfl ml_X12_107 (A _ _ _ f ⟨by omega, by omega⟩ ⟨by omega, by omega⟩) rfl rfl (Nat.le_of_ble_eq_true rfl) ⟨Nat.le_of_ble_eq_true rfl, Nat.le_of_ble_eq_true rfl⟩ rfl (Nat.le_of_ble_eq_true rfl) (fun σ' z hz => ?_))))))))
      rw [hz.1, hz.2]
      clear hz z σ'
      refine ok_i2l 43 rfl rfl (ok_aload_n 44 rfl rfl rfl (ok_getR 45 rfl rfl fl_X12_13 rfl rfl (ok_iload_n 46 rfl rfl rfl (ok_iald 47 rfl rfl rfl (by first | omega | (simp [up_if]; omega) | (simp [up_if] at *; omega)) ?_))))
      rw [e2]
      refine ok_callSI (M' := M_Mo_cut) (as := [_, _]) 48 rfl rfl ml_X12_323 (s_Mo_cut d4.1 hb.1) ⟨Nat.le_of_ble_eq_true rfl, Nat.le_of_ble_eq_true rfl⟩ rfl (Nat.le_of_ble_eq_true rfl) (fun σ' z hz => ?_)
      rw [hz.1, hz.2]
      clear hz z σ'
      rw [w2]
      refine ok_iadd 49 rfl rfl (by first | omega | (simp [up_if]; omega) | (simp [up_if] at *; omega)) (ok_ist8 50 rfl rfl rfl (ok_inc9 51 rfl rfl rfl (by first | omega | (simp [up_if]; omega) | (simp [up_if] at *; omega)) (ok_goto 52 30 rfl rfl rfl ?_)))
      exact ih2 _ _ (j + 1) ⟨by omega, by omega, by rw [s1, ea], by rw [s2, ec]⟩ (by omega)
end
section
abbrev rgC : Nat → Int → Prop := fun c _ => c = 17
def capB (σ : eS) (B : Int) : Prop := ∀ k, 0 ≤ k → k < 400 → -B ≤ σ 17 k ∧ σ 17 k ≤ B
theorem capB_mono {σ : eS} {B B' : Int} (h : capB σ B) (hb : B ≤ B') : capB σ B' := fun k a b => by have := h k a b; omega
theorem capB_up {σ : eS} {B d k z : Int} (h : capB σ B) (hd : 0 ≤ d) (hz : -(B + d) ≤ z ∧ z ≤ B + d) : capB (up σ 17 k z) (B + d) := fun q a b => by
  rw [up_if]
  by_cases y : q = k
  · rw [if_pos ⟨rfl, y⟩]; exact hz
  · rw [if_neg (fun w => y w.2)]; have := h q a b; omega
theorem s_Mo_edge {σ : eS} {f t lo hi B : Int} (hf : 0 ≤ f ∧ f ≤ 17) (ht : 0 ≤ t ∧ t ≤ 19) (hl : 0 ≤ lo ∧ lo ≤ 64) (hh : 0 ≤ hi ∧ hi ≤ 64) (hB : capB σ B) (hB1 : 0 ≤ B ∧ B ≤ 1000000) : MtV shB M_Mo_edge [vr 0, vi f, vi t, vi lo, vi hi] σ (fun σ' => fr rgC σ σ' ∧ capB σ' (B + 192)) := by
  refine Mt.of okM_Mo_edge (Nat.le_of_ble_eq_true rfl) (fun hk hg => ?_)
  have c1 := hB (20 * f + t) (by omega) (by omega)
  have h1 := capB_up (d := 64) (k := 20 * f + t) (z := σ 17 (20 * f + t) + (hi - lo)) hB (by omega) ⟨by omega, by omega⟩
  obtain ⟨τ, eτ⟩ : ∃ τ, τ = up σ 17 (20 * f + t) (σ 17 (20 * f + t) + (hi - lo)) := ⟨_, rfl⟩
  rw [← eτ] at h1
  have c2 := h1 (360 + t) (by omega) (by omega)
  have h2 := capB_up (d := 64) (k := 360 + t) (z := τ 17 (360 + t) + lo) h1 (by omega) ⟨by omega, by omega⟩
  obtain ⟨υ, eυ⟩ : ∃ υ, υ = up τ 17 (360 + t) (τ 17 (360 + t) + lo) := ⟨_, rfl⟩
  rw [← eυ] at h2
  have c3 := h2 (20 * f + 19) (by omega) (by omega)
  have h3 := capB_up (d := 64) (k := 20 * f + 19) (z := υ 17 (20 * f + 19) + lo) h2 (by omega) ⟨by omega, by omega⟩
  have f1 : fr rgC σ τ := by rw [eτ]; exact fr_up fr.rf rfl
  have f2 : fr rgC σ υ := by rw [eυ]; exact fr_up f1 rfl
  refine ok_aload_n 0 rfl rfl rfl (ok_getR 1 rfl rfl fl_X12_63 rfl rfl (ok_bipush 2 rfl rfl (by decide) (by decide) (ok_iload_n 3 rfl rfl rfl (ok_imul 4 rfl rfl (by first | omega | (simp [up_if]; omega) | (simp [up_if] at *; omega)) (ok_iload_n 5 rfl rfl rfl (ok_iadd 6 rfl rfl (by first | omega | (simp [up_if]; omega) | (simp [up_if] at *; omega)) (ok_dup2 7 rfl rfl ⟨rfl, rfl⟩ (ok_iald 8 rfl rfl rfl (by first | omega | (simp [up_if]; omega) | (simp [up_if] at *; omega)) (ok_iload 9 rfl rfl rfl (ok_iload_n 10 rfl rfl rfl (ok_isub 11 rfl rfl (by first | omega | (simp [up_if]; omega) | (simp [up_if] at *; omega)) (ok_iadd 12 rfl rfl (by first | omega | (simp [up_if]; omega) | (simp [up_if] at *; omega)) (ok_iast 13 rfl rfl rfl (by first | omega | (simp [up_if]; omega) | (simp [up_if] at *; omega)) ?_)))))))))))))
  rw [← eτ]
  refine ok_aload_n 14 rfl rfl rfl (ok_getR 15 rfl rfl fl_X12_63 rfl rfl (ok_sipush 16 rfl rfl (by decide) (by decide) (ok_iload_n 17 rfl rfl rfl (ok_iadd 18 rfl rfl (by first | omega | (simp [up_if]; omega) | (simp [up_if] at *; omega)) (ok_dup2 19 rfl rfl ⟨rfl, rfl⟩ (ok_iald 20 rfl rfl rfl (by first | omega | (simp [up_if]; omega) | (simp [up_if] at *; omega)) (ok_iload_n 21 rfl rfl rfl (ok_iadd 22 rfl rfl (by first | omega | (simp [up_if]; omega) | (simp [up_if] at *; omega)) (ok_iast 23 rfl rfl rfl (by first | omega | (simp [up_if]; omega) | (simp [up_if] at *; omega)) ?_)))))))))
  rw [← eυ]
  refine ok_aload_n 24 rfl rfl rfl (ok_getR 25 rfl rfl fl_X12_63 rfl rfl (ok_bipush 26 rfl rfl (by decide) (by decide) (ok_iload_n 27 rfl rfl rfl (ok_imul 28 rfl rfl (by first | omega | (simp [up_if]; omega) | (simp [up_if] at *; omega)) (ok_bipush 29 rfl rfl (by decide) (by decide) (ok_iadd 30 rfl rfl (by first | omega | (simp [up_if]; omega) | (simp [up_if] at *; omega)) (ok_dup2 31 rfl rfl ⟨rfl, rfl⟩ (ok_iald 32 rfl rfl rfl (by first | omega | (simp [up_if]; omega) | (simp [up_if] at *; omega)) (ok_iload_n 33 rfl rfl rfl (ok_iadd 34 rfl rfl (by first | omega | (simp [up_if]; omega) | (simp [up_if] at *; omega)) (ok_iast 35 rfl rfl rfl (by first | omega | (simp [up_if]; omega) | (simp [up_if] at *; omega)) (ok_vret 36 rfl rfl rfl ?_))))))))))))
  exact ⟨rfl, fr_up f2 rfl, capB_mono h3 (by omega)⟩
def nD (τ : eS) : Int := sm (fun v => if τ 18 v = -1 then 0 else 1) 20
def TrB (τ : eS) (tl : Int) (rk : Int → Int) : Prop := (∀ v, 0 ≤ v → v < 20 → τ 18 v ≠ -1 → 0 ≤ rk v ∧ rk v < tl ∧ 0 ≤ τ 18 v ∧ τ 18 v < 20 ∧ (v ≠ 18 → τ 18 (τ 18 v) ≠ -1 ∧ rk (τ 18 v) < rk v ∧ 0 < τ 17 (20 * τ 18 v + v))) ∧ τ 18 18 = 18 ∧ (∀ q, 0 ≤ q → q < tl → 0 ≤ τ 19 q ∧ τ 19 q < 20 ∧ τ 18 (τ 19 q) ≠ -1) ∧ nD τ = tl ∧ 1 ≤ tl
abbrev rgY : Nat → Int → Prop := fun c _ => c = 18 ∨ c = 19
theorem nD_bd (τ : eS) : 0 ≤ nD τ ∧ nD τ ≤ 20 := by
  have := sm_bd (f := fun v => if τ 18 v = -1 then (0 : Int) else 1) (B := 1) (by decide) (n := 20) (fun k _ _ => by split <;> omega)
  unfold nD
  omega
theorem nD_up {τ : eS} {v z : Int} (hv : 0 ≤ v ∧ v < 20) (h : τ 18 v = -1) (hz : z ≠ -1) (x y : Int) : nD (up (up τ 18 v z) 19 x y) = nD τ + 1 := by
  have e : nD (up (up τ 18 v z) 19 x y) = nD τ + sm (fun k => if k = v then (1 : Int) else 0) 20 := by
    have key : ∀ n : Nat, sm (fun k => if up (up τ 18 v z) 19 x y 18 k = -1 then (0 : Int) else 1) n = sm (fun k => if τ 18 k = -1 then (0 : Int) else 1) n + sm (fun k => if k = v then (1 : Int) else 0) n := by
      intro n
      induction n with
      | zero => rfl
      | succ n ih =>
        have e1 : ∀ f : Int → Int, sm f (n + 1) = sm f n + f n := fun f => rfl
        rw [e1, e1, e1, ih, up_ne _ _ _ _ (by decide), up_if]
        by_cases q : (n : Int) = v
        · rw [if_pos (⟨rfl, q⟩ : (18 : Nat) = 18 ∧ (n : Int) = v), if_neg hz, if_pos q, q, if_pos h]; omega
        · rw [if_neg (fun w => q w.2 : ¬ ((18 : Nat) = 18 ∧ (n : Int) = v)), if_neg q]; omega
    exact key 20
  rw [e, sm_one _ hv.1 (by omega)]
theorem TrB_s {τ : eS} {tl h v : Int} {rk : Int → Int} (H : TrB τ tl rk) (hh : 0 ≤ h ∧ h < tl) (hv : 0 ≤ v ∧ v < 20) (hn : τ 18 v = -1) (hc : 0 < τ 17 (20 * τ 19 h + v)) : tl < 20 ∧ ∃ rk', TrB (up (up τ 18 v (τ 19 h)) 19 tl v) (tl + 1) rk' := by
  obtain ⟨rk', er⟩ : ∃ rk' : Int → Int, ∀ u, rk' u = if u = v then tl else rk u := ⟨fun u => if u = v then tl else rk u, fun _ => rfl⟩
  obtain ⟨h1, h2, h3, h4, h5⟩ := H
  obtain ⟨g1, g2, g3⟩ := h3 h hh.1 hh.2
  have hu := nD_up (τ := τ) (v := v) (z := τ 19 h) hv hn (by omega) tl v
  have hb := nD_bd (up (up τ 18 v (τ 19 h)) 19 tl v)
  have v18 : v ≠ 18 := by intro q; rw [q, h2] at hn; omega
  have e18 : ∀ k, up (up τ 18 v (τ 19 h)) 19 tl v 18 k = if k = v then τ 19 h else τ 18 k := fun k => by
    rw [up_ne _ _ _ _ (by decide), up_if]
    by_cases q : k = v
    · rw [if_pos ⟨rfl, q⟩, if_pos q]
    · rw [if_neg (fun w => q w.2), if_neg q]
  have e17 : ∀ k, up (up τ 18 v (τ 19 h)) 19 tl v 17 k = τ 17 k := fun k => by rw [up_ne _ _ _ _ (by decide), up_ne _ _ _ _ (by decide)]
  have e19 : ∀ k, up (up τ 18 v (τ 19 h)) 19 tl v 19 k = if k = tl then v else τ 19 k := fun k => by
    rw [up_if]
    by_cases q : k = tl
    · rw [if_pos ⟨rfl, q⟩, if_pos q]
    · rw [if_neg (fun w => q w.2), if_neg q, up_ne _ _ _ _ (by decide)]
  have hne : τ 19 h ≠ v := fun q => g3 (by rw [q]; exact hn)
  refine ⟨by omega, rk', fun u a b c => ?_, by rw [e18, if_neg (fun q => v18 q.symm)]; exact h2, fun q a b => ?_, by rw [hu]; omega, by omega⟩
  · rw [e18] at c ⊢
    by_cases q : u = v
    · rw [if_pos q]
      have r := h1 (τ 19 h) g1 g2 g3
      refine ⟨by rw [er, if_pos q]; omega, by rw [er, if_pos q]; omega, g1, g2, fun _ => ?_⟩
      rw [e18, if_neg hne, e17, er, er, if_neg hne, if_pos q, q]
      exact ⟨g3, by omega, hc⟩
    · rw [if_neg q] at c ⊢
      obtain ⟨r1, r2, r3, r4, r5⟩ := h1 u a b c
      refine ⟨by rw [er, if_neg q]; exact r1, by rw [er, if_neg q]; omega, r3, r4, fun w => ?_⟩
      obtain ⟨s1, s2, s3⟩ := r5 w
      have hne2 : τ 18 u ≠ v := fun q => s1 (by rw [q]; exact hn)
      rw [e18, if_neg hne2, e17, er, er, if_neg q, if_neg hne2]
      exact ⟨s1, s2, s3⟩
  · rw [e19, e18]
    by_cases w : q = tl
    · rw [if_pos w, if_pos rfl]; exact ⟨hv.1, hv.2, by omega⟩
    · rw [if_neg w]
      obtain ⟨s1, s2, s3⟩ := h3 q a (by omega)
      rw [if_neg (fun y => s3 (by rw [y]; exact hn))]
      exact ⟨s1, s2, s3⟩
def Qwy (σ σ' : eS) (z : Int) : Prop := fr rgY σ σ' ∧ (z = 0 ∨ (z = 1 ∧ σ' 18 19 ≠ -1 ∧ ∃ tl rk, tl ≤ 20 ∧ TrB σ' tl rk))
theorem s_Mo_isWay {σ : eS} : MtI shB M_Mo_isWay [vr 0] σ (Qwy σ) := by
  refine Mt.of okM_Mo_isWay (Nat.le_of_ble_eq_true rfl) (fun hk hg => ?_)
  refine ok_iconst 0 rfl rfl (by decide) (ok_ist1 1 rfl rfl rfl ?_)
  refine lpO2 (fun (k : Int) (_ : eS) => [some (vr 0), some (vi k), none, none]) (fun _ ρ => ρ) (fun k ρ => 0 ≤ k ∧ k ≤ 20 ∧ fr rgY σ ρ ∧ ∀ v, 0 ≤ v → v < k → ρ 18 v = -1) (fun k _ => (20 - k).toNat) ?_ 0 σ ⟨by omega, by omega, fr.rf, fun v a b => by omega⟩
  rintro k ρ ⟨k1, k2, f, hn⟩ ih
  refine ok_iload_n 2 rfl rfl rfl (ok_bipush 3 rfl rfl (by decide) (by decide) (ok_icmp_ge 4 21 rfl rfl rfl (fun h5 => ?_) (fun h5 => ?_)))
  · refine ok_iconst 12 rfl rfl (by decide) (ok_ist1 13 rfl rfl rfl (ok_aload_n 14 rfl rfl rfl (ok_getR 15 rfl rfl fl_X12_69 rfl rfl (ok_iconst 16 rfl rfl (by decide) (ok_bipush 17 rfl rfl (by decide) (by decide) (ok_iast 18 rfl rfl rfl (by first | omega | (simp [up_if]; omega) | (simp [up_if] at *; omega)) (ok_aload_n 19 rfl rfl rfl (ok_getR 20 rfl rfl fl_X12_66 rfl rfl (ok_bipush 21 rfl rfl (by decide) (by decide) (ok_bipush 22 rfl rfl (by decide) (by decide) (ok_iast 23 rfl rfl rfl (by first | omega | (simp [up_if]; omega) | (simp [up_if] at *; omega)) (ok_iconst 24 rfl rfl (by decide) (ok_ist2 25 rfl rfl rfl ?_)))))))))))))
    obtain ⟨τ, eτ⟩ : ∃ τ, τ = up (up ρ 19 0 18) 18 18 18 := ⟨_, rfl⟩
    have g : fr rgY σ τ := by rw [eτ]; exact fr_up (fr_up f (by simp [rgY])) (by simp [rgY])
    have H : TrB τ 1 (fun _ => 0) := by
      have e18 : ∀ v, 0 ≤ v → v < 20 → τ 18 v = if v = 18 then 18 else -1 := fun v a b => by
        rw [eτ, up_if]
        by_cases q : v = 18
        · rw [if_pos ⟨rfl, q⟩, if_pos q]
        · rw [if_neg (fun w => q w.2), if_neg q, up_ne _ _ _ _ (by decide)]; exact hn v a (by omega)
      have e0 : τ 19 0 = 18 := by rw [eτ]; simp [up_if]
      refine ⟨fun v a b c => ?_, by rw [e18 18 (by omega) (by omega)]; simp, fun q a b => ?_, ?_, by omega⟩
      · have : v = 18 := by
          by_cases q : v = 18
          · exact q
          · rw [e18 v a b, if_neg q] at c; exact absurd rfl c
        subst this
        rw [e18 18 (by omega) (by omega), if_pos rfl]
        exact ⟨by decide, by decide, by omega, by omega, fun w => absurd rfl w⟩
      · rw [show q = 0 by omega, e0, e18 18 (by omega) (by omega), if_pos rfl]; omega
      · unfold nD
        have : sm (fun v => if τ 18 v = -1 then (0 : Int) else 1) 20 = sm (fun v => if v = 18 then (1 : Int) else 0) 20 := sm_cg (fun v a b => by
          rw [e18 v a (by omega)]
          by_cases q : v = 18
          · rw [if_pos q, if_pos q, if_neg (by decide)]
          · rw [if_neg q, if_neg q, if_pos rfl])
        rw [this, sm_one _ (by omega) (by omega)]
    rw [← eτ]
    clear eτ
    refine lpO3 (fun (tl h : Int) (_ : eS) => [some (vr 0), some (vi tl), some (vi h), none]) (fun _ _ τ => τ) (fun tl h τ => 0 ≤ h ∧ h ≤ tl ∧ tl ≤ 20 ∧ fr rgY σ τ ∧ ∃ rk, TrB τ tl rk) (fun _ h _ => (20 - h).toNat) ?_ 1 0 τ ⟨by omega, by omega, by omega, g, _, H⟩
    clear H g τ ih hn f k1 k2 h5 k ρ
    rintro tl h τ ⟨i1, i2, i3, g, rk, H⟩ ih
    refine ok_iload_n 26 rfl rfl rfl (ok_iload_n 27 rfl rfl rfl (ok_icmp_ge 28 121 rfl rfl rfl (fun h44 => ?_) (fun h44 => ?_)))
    · refine ok_aload_n 71 rfl rfl rfl (ok_getR 72 rfl rfl fl_X12_66 rfl rfl (ok_bipush 73 rfl rfl (by decide) (by decide) (ok_iald 74 rfl rfl rfl (by first | omega | (simp [up_if]; omega) | (simp [up_if] at *; omega)) (ok_iconst 75 rfl rfl (by decide) (ok_icmp_eq 76 136 rfl rfl rfl (fun h129 => ?_) (fun h129 => ?_))))))
      · refine ok_iconst 79 rfl rfl (by decide) (ok_zret 80 rfl rfl rfl (by first | omega | (simp [up_if]; omega) | (simp [up_if] at *; omega)) ?_)
        refine ⟨_, rfl, g, ?_⟩
        first
          | exact Or.inl rfl
          | exact Or.inr ⟨rfl, by omega, tl, rk, i3, H⟩
      · refine ok_iconst 77 rfl rfl (by decide) (ok_goto 78 137 rfl rfl rfl (ok_zret 80 rfl rfl rfl (by first | omega | (simp [up_if]; omega) | (simp [up_if] at *; omega)) ?_))
        refine ⟨_, rfl, g, ?_⟩
        first
          | exact Or.inl rfl
          | exact Or.inr ⟨rfl, by omega, tl, rk, i3, H⟩
    · refine ok_iconst 29 rfl rfl (by decide) (ok_ist3 30 rfl rfl rfl ?_)
      have hl : h < tl := by omega
      refine lpO3 (fun (tl v : Int) (_ : eS) => [some (vr 0), some (vi tl), some (vi h), some (vi v)]) (fun _ _ τ => τ) (fun tl v τ => 0 ≤ v ∧ v ≤ 20 ∧ h < tl ∧ tl ≤ 20 ∧ fr rgY σ τ ∧ ∃ rk, TrB τ tl rk) (fun _ v _ => (20 - v).toNat) ?_ tl 0 τ ⟨by omega, by omega, hl, i3, g, rk, H⟩
      clear H g i2 i3 hl h44 τ tl rk
      rintro tl v τ ⟨v1, v2, hl, i3, g, rk, H⟩ ih2
      have hq := H.2.2.1 h i1 hl
      refine ok_iload_n 31 rfl rfl rfl (ok_bipush 32 rfl rfl (by decide) (by decide) (ok_icmp_ge 33 115 rfl rfl rfl (fun h52 => ?_) (fun h52 => ?_)))
      · refine ok_inc2 69 rfl rfl rfl (by first | omega | (simp [up_if]; omega) | (simp [up_if] at *; omega)) (ok_goto 70 42 rfl rfl rfl ?_)
        exact ok_fg [some (vr 0), some (vi _), some (vi (h + 1)), none] ⟨rfl, rfl, rfl, trivial⟩ (ih tl (h + 1) τ ⟨by omega, by omega, i3, g, rk, H⟩ (by omega))
      · refine ok_aload_n 34 rfl rfl rfl (ok_getR 35 rfl rfl fl_X12_66 rfl rfl (ok_iload_n 36 rfl rfl rfl (ok_iald 37 rfl rfl rfl (by first | omega | (simp [up_if]; omega) | (simp [up_if] at *; omega)) (ok_iconst 38 rfl rfl (by decide) (ok_icmp_ne 39 109 rfl rfl rfl (fun h62 => ?_) (fun h62 => ?_))))))
        · refine ok_inc3 67 rfl rfl rfl (by first | omega | (simp [up_if]; omega) | (simp [up_if] at *; omega)) (ok_goto 68 49 rfl rfl rfl ?_)
          exact ih2 tl (v + 1) τ ⟨by omega, by omega, hl, i3, g, rk, H⟩ (by omega)
        · refine ok_aload_n 40 rfl rfl rfl (ok_getR 41 rfl rfl fl_X12_63 rfl rfl (ok_bipush 42 rfl rfl (by decide) (by decide) (ok_aload_n 43 rfl rfl rfl (ok_getR 44 rfl rfl fl_X12_69 rfl rfl (ok_iload_n 45 rfl rfl rfl (ok_iald 46 rfl rfl rfl (by first | omega | (simp [up_if]; omega) | (simp [up_if] at *; omega)) (ok_imul 47 rfl rfl (by first | omega | (simp [up_if]; omega) | (simp [up_if] at *; omega)) (ok_iload_n 48 rfl rfl rfl (ok_iadd 49 rfl rfl (by first | omega | (simp [up_if]; omega) | (simp [up_if] at *; omega)) (ok_iald 50 rfl rfl rfl (by first | omega | (simp [up_if]; omega) | (simp [up_if] at *; omega)) (ok_if_gt 51 87 rfl rfl rfl (fun h81 => ?_) (fun h81 => ?_))))))))))))
          · obtain ⟨t1, rk', H'⟩ := TrB_s (h := h) (v := v) H ⟨i1, hl⟩ ⟨v1, by omega⟩ (by omega) (by omega)
            refine ok_aload_n 53 rfl rfl rfl (ok_getR 54 rfl rfl fl_X12_66 rfl rfl (ok_iload_n 55 rfl rfl rfl (ok_aload_n 56 rfl rfl rfl (ok_getR 57 rfl rfl fl_X12_69 rfl rfl (ok_iload_n 58 rfl rfl rfl (ok_iald 59 rfl rfl rfl (by first | omega | (simp [up_if]; omega) | (simp [up_if] at *; omega)) (ok_iast 60 rfl rfl rfl (by first | omega | (simp [up_if]; omega) | (simp [up_if] at *; omega)) (ok_aload_n 61 rfl rfl rfl (ok_getR 62 rfl rfl fl_X12_69 rfl rfl (ok_iload_n 63 rfl rfl rfl (ok_iload_n 64 rfl rfl rfl (ok_iast 65 rfl rfl rfl (by first | omega | (simp [up_if]; omega) | (simp [up_if] at *; omega)) (ok_inc1 66 rfl rfl rfl (by first | omega | (simp [up_if]; omega) | (simp [up_if] at *; omega)) (ok_inc3 67 rfl rfl rfl (by first | omega | (simp [up_if]; omega) | (simp [up_if] at *; omega)) (ok_goto 68 49 rfl rfl rfl ?_)))))))))))))))
            exact ih2 (tl + 1) (v + 1) _ ⟨by omega, by omega, by omega, by omega, fr_up (fr_up g (by simp [rgY])) (by simp [rgY]), rk', H'⟩ (by omega)
          · refine ok_goto 52 109 rfl rfl rfl (ok_inc3 67 rfl rfl rfl (by first | omega | (simp [up_if]; omega) | (simp [up_if] at *; omega)) (ok_goto 68 49 rfl rfl rfl ?_))
            exact ih2 tl (v + 1) τ ⟨by omega, by omega, hl, i3, g, rk, H⟩ (by omega)
  · refine ok_aload_n 5 rfl rfl rfl (ok_getR 6 rfl rfl fl_X12_66 rfl rfl (ok_iload_n 7 rfl rfl rfl (ok_iconst 8 rfl rfl (by decide) (ok_iast 9 rfl rfl rfl (by first | omega | (simp [up_if]; omega) | (simp [up_if] at *; omega)) (ok_inc1 10 rfl rfl rfl (by first | omega | (simp [up_if]; omega) | (simp [up_if] at *; omega)) (ok_goto 11 2 rfl rfl rfl ?_))))))
    refine ih (k + 1) _ ⟨by omega, by omega, fr_up f (by simp [rgY]), lt_ext (fun v a b => ?_) ?_⟩ (by omega)
    · rw [up_nk _ _ _ _ (by omega)]; exact hn v a b
    · rw [up_same]
end
