abbrev rgN : Nat → Int → Prop := fun c _ => 14 ≤ c ∧ c ≤ 19
theorem s_Mo_rounded {σ : eS} {s r c : Int} (hB : iB1 σ) : MtI shB M_Mo_rounded [vr 0, vi s, vi r, vi c] σ (fun σ' _ => fr rgN σ σ') := by
  refine Mt.of okM_Mo_rounded (Nat.le_of_ble_eq_true rfl) (fun hk hg => ?_)
  refine ok_aload_n 0 rfl rfl rfl (ok_iload_n 1 rfl rfl rfl (ok_iload_n 2 rfl rfl rfl (ok_iload_n 3 rfl rfl rfl (ok_callVI (M' := M_Mo_isCell) (as := [_, _, _]) 4 rfl rfl ml_X12_211 (s_Mo_isCell hB) rfl rfl (Nat.le_of_ble_eq_true rfl) ⟨Nat.le_of_ble_eq_true rfl, Nat.le_of_ble_eq_true rfl⟩ rfl (Nat.le_of_ble_eq_true rfl) (fun σ' z1 a1 => ?_)))))
  obtain ⟨hs_, a1⟩ := a1
  rw [hs_]; clear hs_ σ'
  refine ok_if_ne 5 12 rfl rfl rfl (fun h7 => ?_) (fun h7 => ?_)
  · obtain ⟨⟨u1, u2, u3⟩, c1, c2, c3, c4⟩ := yes1 a1 h7
    have tn := hB.1 s u1 u2
    obtain ⟨n, en⟩ : ∃ n, n = σ 1 s := ⟨_, rfl⟩
    obtain ⟨b, eb⟩ : ∃ b, b = σ 2 s := ⟨_, rfl⟩
    have hb : 1 ≤ b ∧ b ≤ 999999 := by have := tn.2.2 (by omega); omega
    have n1 : 1 ≤ n ∧ n ≤ 8 := by omega
    have bm := ix8 (n := n) (i := r) (j := c) ⟨by omega, by omega⟩ ⟨by omega, by omega⟩ ⟨by omega, by omega⟩
    refine ok_aload_n 8 rfl rfl rfl (ok_getR 9 rfl rfl fl_X12_7 rfl rfl (ok_iload_n 10 rfl rfl rfl (ok_iald 11 rfl rfl rfl (by first | omega | (simp [up_if]; omega) | (simp [up_if] at *; omega)) ?_)))
    rw [← en]
    refine ok_ist4 12 rfl rfl rfl (ok_aload_n 13 rfl rfl rfl (ok_iload_n 14 rfl rfl rfl (ok_callVV (M' := M_Mo_laysBounds) (as := [_]) 15 rfl rfl ml_X12_337 (s_Mo_laysBounds hB ⟨u1, u2, u3⟩) rfl rfl (Nat.le_of_ble_eq_true rfl) ⟨Nat.le_of_ble_eq_true rfl, Nat.le_of_ble_eq_true rfl⟩ rfl (Nat.le_of_ble_eq_true rfl) (fun τ hz => ?_))))
    obtain ⟨f, hl, ht⟩ := hz
    rw [← en] at hl
    replace f : fr rgN σ τ := f.mono (fun c k q => by simp only [rgH, rgN] at q ⊢; omega)
    refine ok_iconst 16 rfl rfl (by decide) (ok_ist5 17 rfl rfl rfl ?_)
    have E : ∀ υ : eS, fr rgN σ υ → iB1 υ ∧ υ 1 s = n ∧ υ 2 s = b := fun υ g => ⟨iB1_frS hB g (fun c k q => by simp only [rgN]; omega), by rw [g 1 s (by simp [rgN]), en], by rw [g 2 s (by simp [rgN]), eb]⟩
    refine lpO2 (fun (k : Int) (_ : eS) => [some (vr 0), some (vi s), some (vi r), some (vi c), some (vi n), some (vi k)]) (fun _ υ => υ) (fun k υ => 0 ≤ k ∧ k ≤ n * n ∧ fr rgN σ υ ∧ lhB υ n ∧ lhT υ) (fun k _ => (n * n - k).toNat) ?_ 0 τ ⟨by omega, by omega, f, hl, ht⟩
    clear f hl ht τ
    rintro k υ ⟨k1, k2, f, hl, ht⟩ ih
    obtain ⟨e1, e2, e3⟩ := E υ f
    refine ok_iload 18 rfl rfl rfl (ok_iload 19 rfl rfl rfl (ok_iload 20 rfl rfl rfl (ok_imul 21 rfl rfl (by first | omega | (simp [up_if]; omega) | (simp [up_if] at *; omega)) (ok_icmp_ge 22 78 rfl rfl rfl (fun h35 => ?_) (fun h35 => ?_)))))
    · refine ok_iconst 46 rfl rfl (by decide) (ok_ist5 47 rfl rfl rfl ?_)
      clear ih k1 k2 h35 e1 e2 e3
      refine lpO2 (fun (k : Int) (_ : eS) => [some (vr 0), some (vi s), some (vi r), some (vi c), some (vi n), some (vi k)]) (fun _ υ => υ) (fun k υ => 0 ≤ k ∧ k ≤ n * r + c + 1 ∧ fr rgN σ υ ∧ lhB υ n ∧ lhT υ) (fun k _ => (n * r + c + 1 - k).toNat) ?_ 0 υ ⟨by omega, by omega, f, hl, ht⟩
      clear f hl ht k υ
      rintro k υ ⟨k1, k2, f, hl, ht⟩ ih
      obtain ⟨e1, e2, e3⟩ := E υ f
      have U : ∀ (ρ : eS) (z : Int), fr rgN σ ρ → lhB ρ n → lhT ρ → fr rgN σ (up ρ 14 k z) ∧ lhB (up ρ 14 k z) n ∧ lhT (up ρ 14 k z) := fun ρ z g1 g2 g3 => ⟨fr_up g1 (by simp [rgN]), fun q w => by rw [up_ne _ _ _ _ (by decide), up_ne _ _ _ _ (by decide)]; exact g2 q w, by unfold lhT; rw [up_ne _ _ _ _ (by decide), up_ne _ _ _ _ (by decide)]; exact g3⟩
      refine ok_iload 48 rfl rfl rfl (ok_iload 49 rfl rfl rfl (ok_iload_n 50 rfl rfl rfl (ok_imul 51 rfl rfl (by first | omega | (simp [up_if]; omega) | (simp [up_if] at *; omega)) (ok_iload_n 52 rfl rfl rfl (ok_iadd 53 rfl rfl (by first | omega | (simp [up_if]; omega) | (simp [up_if] at *; omega)) (ok_icmp_gt 54 136 rfl rfl rfl (fun h89 => ?_) (fun h89 => ?_)))))))
      · have cb := cB_bd e1 ⟨u1, u2⟩ (i := r) (j := c) ⟨by omega, by omega⟩ ⟨by omega, by omega⟩
        refine ok_aload_n 77 rfl rfl rfl (ok_iload_n 78 rfl rfl rfl (ok_iload_n 79 rfl rfl rfl (ok_iload_n 80 rfl rfl rfl (ok_callVI (M' := M_Mo_at) (as := [_, _, _]) 81 rfl rfl ml_X12_107 (s_Mo_at e1 ⟨u1, u2⟩ ⟨by omega, by omega⟩ ⟨by omega, by omega⟩) rfl rfl (Nat.le_of_ble_eq_true rfl) ⟨Nat.le_of_ble_eq_true rfl, Nat.le_of_ble_eq_true rfl⟩ rfl (Nat.le_of_ble_eq_true rfl) (fun σ' z hz => ?_)))))
        rw [hz.1, hz.2]
        clear hz z σ'
        refine ok_aload_n 82 rfl rfl rfl (ok_getR 83 rfl rfl fl_X12_13 rfl rfl (ok_iload_n 84 rfl rfl rfl (ok_iald 85 rfl rfl rfl (by first | omega | (simp [up_if]; omega) | (simp [up_if] at *; omega)) ?_)))
        rw [e3]
        refine ok_idiv 86 rfl rfl (by first | omega | (simp [up_if]; omega) | (simp [up_if] at *; omega)) (by first | omega | (simp [up_if]; omega) | (simp [up_if] at *; omega)) (ok_aload_n 87 rfl rfl rfl (ok_getR 88 rfl rfl fl_X12_54 rfl rfl (ok_iload 89 rfl rfl rfl (ok_iload_n 90 rfl rfl rfl (ok_imul 91 rfl rfl (by first | omega | (simp [up_if]; omega) | (simp [up_if] at *; omega)) (ok_iload_n 92 rfl rfl rfl (ok_iadd 93 rfl rfl (by first | omega | (simp [up_if]; omega) | (simp [up_if] at *; omega)) (ok_iald 94 rfl rfl rfl (by first | omega | (simp [up_if]; omega) | (simp [up_if] at *; omega)) (ok_iaddW 95 rfl rfl (ok_iret 96 rfl rfl rfl ?_))))))))))
        exact ⟨_, rfl, f⟩
      · refine ok_aload_n 55 rfl rfl rfl (ok_getR 56 rfl rfl fl_X12_54 rfl rfl (ok_iload 57 rfl rfl rfl (ok_iald 58 rfl rfl rfl (by first | omega | (simp [up_if]; omega) | (simp [up_if] at *; omega)) (ok_if_ne 59 105 rfl rfl rfl (fun h99 => ?_) (fun h99 => ?_)))))
        · obtain ⟨v1, v2, v3⟩ := U υ 0 f hl ht
          refine ok_aload_n 61 rfl rfl rfl (ok_getR 62 rfl rfl fl_X12_54 rfl rfl (ok_iload 63 rfl rfl rfl (ok_iconst 64 rfl rfl (by decide) (ok_iast 65 rfl rfl rfl (by first | omega | (simp [up_if]; omega) | (simp [up_if] at *; omega)) (ok_aload_n 66 rfl rfl rfl (ok_iload 67 rfl rfl rfl (ok_callVI (M' := M_Mo_isKept) (as := [_]) 68 rfl rfl ml_X12_340 (s_Mo_isKept n1 v2 v3) rfl rfl (Nat.le_of_ble_eq_true rfl) ⟨Nat.le_of_ble_eq_true rfl, Nat.le_of_ble_eq_true rfl⟩ rfl (Nat.le_of_ble_eq_true rfl) (fun ρ z hz => ?_))))))))
          have w1 : fr rgN σ ρ := v1.tr (hz.mono (fun c k q => by simp only [rgQ, rgN] at q ⊢; omega))
          have w2 : lhB ρ n := fun q w => by rw [hz 15 q (by simp [rgQ]), hz 16 q (by simp [rgQ])]; exact v2 q w
          have w3 : lhT ρ := by unfold lhT; rw [hz 15 16 (by simp [rgQ]), hz 16 16 (by simp [rgQ])]; exact v3
          refine ok_if_ne 69 130 rfl rfl rfl (fun h119 => ?_) (fun h119 => ?_)
          · refine ok_inc5 75 rfl rfl rfl (by first | omega | (simp [up_if]; omega) | (simp [up_if] at *; omega)) (ok_goto 76 81 rfl rfl rfl ?_)
            exact ih (k + 1) ρ ⟨by omega, by omega, w1, w2, w3⟩ (by omega)
          · obtain ⟨y1, y2, y3⟩ := U ρ 1 w1 w2 w3
            refine ok_aload_n 70 rfl rfl rfl (ok_getR 71 rfl rfl fl_X12_54 rfl rfl (ok_iload 72 rfl rfl rfl (ok_iconst 73 rfl rfl (by decide) (ok_iast 74 rfl rfl rfl (by first | omega | (simp [up_if]; omega) | (simp [up_if] at *; omega)) (ok_inc5 75 rfl rfl rfl (by first | omega | (simp [up_if]; omega) | (simp [up_if] at *; omega)) (ok_goto 76 81 rfl rfl rfl ?_))))))
            exact ih (k + 1) _ ⟨by omega, by omega, y1, y2, y3⟩ (by omega)
        · refine ok_goto 60 130 rfl rfl rfl (ok_inc5 75 rfl rfl rfl (by first | omega | (simp [up_if]; omega) | (simp [up_if] at *; omega)) (ok_goto 76 81 rfl rfl rfl ?_))
          exact ih (k + 1) υ ⟨by omega, by omega, f, hl, ht⟩ (by omega)
    · have cb := e1.2.1 (64 * s + k) (by omega) (by omega)
      refine ok_aload_n 23 rfl rfl rfl (ok_getR 24 rfl rfl fl_X12_54 rfl rfl (ok_iload 25 rfl rfl rfl (ok_aload_n 26 rfl rfl rfl (ok_getR 27 rfl rfl fl_X12_16 rfl rfl (ok_bipush 28 rfl rfl (by decide) (by decide) (ok_iload_n 29 rfl rfl rfl (ok_imul 30 rfl rfl (by first | omega | (simp [up_if]; omega) | (simp [up_if] at *; omega)) (ok_iload 31 rfl rfl rfl (ok_iadd 32 rfl rfl (by first | omega | (simp [up_if]; omega) | (simp [up_if] at *; omega)) (ok_iald 33 rfl rfl rfl (by first | omega | (simp [up_if]; omega) | (simp [up_if] at *; omega)) (ok_aload_n 34 rfl rfl rfl (ok_getR 35 rfl rfl fl_X12_13 rfl rfl (ok_iload_n 36 rfl rfl rfl (ok_iald 37 rfl rfl rfl (by first | omega | (simp [up_if]; omega) | (simp [up_if] at *; omega)) (ok_irem 38 rfl rfl (by first | omega | (simp [up_if]; omega) | (simp [up_if] at *; omega)) (by first | omega | (simp [up_if]; omega) | (simp [up_if] at *; omega)) (ok_if_ne 39 70 rfl rfl rfl (fun h63 => ?_) (fun h63 => ?_)))))))))))))))))
      · refine ok_iconst 42 rfl rfl (by decide) (ok_iast 43 rfl rfl rfl (by first | omega | (simp [up_if]; omega) | (simp [up_if] at *; omega)) (ok_inc5 44 rfl rfl rfl (by first | omega | (simp [up_if]; omega) | (simp [up_if] at *; omega)) (ok_goto 45 28 rfl rfl rfl ?_)))
        exact ih (k + 1) _ ⟨by omega, by omega, fr_up f (by simp [rgN]), fun q w => by rw [up_ne _ _ _ _ (by decide), up_ne _ _ _ _ (by decide)]; exact hl q w, by unfold lhT; rw [up_ne _ _ _ _ (by decide), up_ne _ _ _ _ (by decide)]; exact ht⟩ (by omega)
      · refine ok_iconst 40 rfl rfl (by decide) (ok_goto 41 71 rfl rfl rfl (ok_iast 43 rfl rfl rfl (by first | omega | (simp [up_if]; omega) | (simp [up_if] at *; omega)) (ok_inc5 44 rfl rfl rfl (by first | omega | (simp [up_if]; omega) | (simp [up_if] at *; omega)) (ok_goto 45 28 rfl rfl rfl ?_))))
        exact ih (k + 1) _ ⟨by omega, by omega, fr_up f (by simp [rgN]), fun q w => by rw [up_ne _ _ _ _ (by decide), up_ne _ _ _ _ (by decide)]; exact hl q w, by unfold lhT; rw [up_ne _ _ _ _ (by decide), up_ne _ _ _ _ (by decide)]; exact ht⟩ (by omega)
  · refine ok_iconst 6 rfl rfl (by decide) (ok_iret 7 rfl rfl rfl ?_)
    exact ⟨_, rfl, fr.rf⟩
