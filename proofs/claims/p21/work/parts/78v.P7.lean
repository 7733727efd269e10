abbrev cbA (σ : eS) : Int := cbC (σ 13) (σ 10 7).toNat (σ 10 7).toNat
def FI (t : Nat) (σ σ' : eS) : Prop := (σ 10 4 ≠ 0 ∧ σ' = σ) ∨ (σ 10 4 = 0 ∧ (cbA σ = -1 ∨ ¬ cOk (σ 12) (σ 13) (cbA σ) (σ 10 7)) ∧ σ' = up (up σ 10 4 6) 10 5 (σ 10 3)) ∨ (σ 10 4 = 0 ∧ 1 ≤ cbA σ ∧ cbA σ ≤ 999999 ∧ cOk (σ 12) (σ 13) (cbA σ) (σ 10 7) ∧ (∀ k, σ' 10 k = σ 10 k) ∧ σ' t 1 = σ 10 7 ∧ σ' t 2 = cbA σ ∧ ∀ i j, 0 ≤ i → i < σ 10 7 → 0 ≤ j → j < σ 10 7 → σ' (t + 4) (i * 8 + j) = σ 12 (i * 8 + j) * (cbA σ / σ 13 (i * 8 + j)))
theorem t_Tp_fill {σ : eS} {t : Nat} (ht : tA t) (h : RA σ) (hw : σ 10 4 = 0 → σ 10 7 = σ 10 9) (hT : iT σ t) (hM : mT σ t) : MtV shA M_Tp_fill [vr 10, vr t] σ (fun σ' => fr (rgFi t) σ σ' ∧ iT σ' t ∧ mT σ' t ∧ FI t σ σ') := by
  refine Mt.of okM_Tp_fill (Nat.le_of_ble_eq_true rfl) (fun hk hg => ?_)
  obtain ⟨n1, n2, n3, n4, n5, n6, n7, n8, n9, nA⟩ := tA_10 ht
  obtain ⟨p0, p1, p2, p3, p4, p5, p6, p7, p8, p9⟩ := id h
  have bad : σ 10 4 = 0 → (cbA σ = -1 ∨ ¬ cOk (σ 12) (σ 13) (cbA σ) (σ 10 7)) → fr (rgFi t) σ (up (up σ 10 4 6) 10 5 (σ 10 3)) ∧ iT (up (up σ 10 4 6) 10 5 (σ 10 3)) t ∧ mT (up (up σ 10 4 6) 10 5 (σ 10 3)) t ∧ FI t σ (up (up σ 10 4 6) 10 5 (σ 10 3)) := fun q0 q =>
    ⟨fr_up (fr_up fr.rf (by simp [rgFi])) (by simp [rgFi]), (iT_cg hT (by rw [up_ne _ _ _ _ n1, up_ne _ _ _ _ n1]) (by rw [up_ne _ _ _ _ n1, up_ne _ _ _ _ n1]) (fun k => by rw [up_ne _ _ _ _ n2, up_ne _ _ _ _ n2])).1, mT_cg hM (by rw [up_ne _ _ _ _ n1, up_ne _ _ _ _ n1]) (by rw [up_ne _ _ _ _ n1, up_ne _ _ _ _ n1]) (fun k => by rw [up_ne _ _ _ _ n2, up_ne _ _ _ _ n2]), Or.inr (Or.inl ⟨q0, q, rfl⟩)⟩
  refine ok_aload_n 0 rfl rfl rfl (ok_getI 1 rfl rfl fl_X10_25 rfl rfl (Or.inl rfl) (ok_if_eq 2 8 rfl rfl rfl (fun h4 => ?_) (fun h4 => ?_)))
  · have hr : uRA σ := ⟨p1, p2, fun i j a b c d => p7 i j a b c (by have := hw (by omega); omega)⟩
    refine ok_aload_n 4 rfl rfl rfl (ok_callVI (M' := M_Tp_commonBelow) (as := []) 5 rfl rfl ml_X10_101 (t_Tp_commonBelow hr) rfl rfl (Nat.le_of_ble_eq_true rfl) ⟨Nat.le_of_ble_eq_true rfl, Nat.le_of_ble_eq_true rfl⟩ rfl (Nat.le_of_ble_eq_true rfl) (fun σ' b hb => ?_))
    obtain ⟨hs_, hb⟩ := hb
    rw [hs_]; clear hs_ σ'
    refine ok_ist2 6 rfl rfl rfl (ok_iload_n 7 rfl rfl rfl (ok_iconst 8 rfl rfl (by decide) (ok_icmp_eq 9 26 rfl rfl rfl (fun h15 => ?_) (fun h15 => ?_))))
    · refine ok_aload_n 14 rfl rfl rfl (ok_bipush 15 rfl rfl (by decide) (by decide) (ok_aload_n 16 rfl rfl rfl (ok_getI 17 rfl rfl fl_X10_21 rfl rfl (Or.inl rfl) (ok_callVV (M' := M_Tp_fail) (as := [_, _]) 18 rfl rfl ml_X10_75 (s_Tp_fail) rfl rfl (Nat.le_of_ble_eq_true rfl) ⟨Nat.le_of_ble_eq_true rfl, Nat.le_of_ble_eq_true rfl⟩ rfl (Nat.le_of_ble_eq_true rfl) (fun σ' hz => ?_)))))
      rw [hz]
      clear hz σ'
      refine ok_vret 19 rfl rfl rfl ?_
      exact ⟨rfl, bad (by omega) (Or.inl (by have hbb : b = cbA σ := hb.1; omega))⟩
    · have hb1 : 1 ≤ b ∧ b ≤ 999999 := by omega
      refine ok_aload_n 10 rfl rfl rfl (ok_iload_n 11 rfl rfl rfl (ok_callVI (M' := M_Tp_areCells) (as := [_]) 12 rfl rfl ml_X10_104 (t_Tp_areCells hr hb1) rfl rfl (Nat.le_of_ble_eq_true rfl) ⟨Nat.le_of_ble_eq_true rfl, Nat.le_of_ble_eq_true rfl⟩ rfl (Nat.le_of_ble_eq_true rfl) (fun σ' z hz => ?_)))
      obtain ⟨hs_, hz⟩ := hz
      rw [hs_]; clear hs_ σ'
      refine ok_if_ne 13 37 rfl rfl rfl (fun h23 => ?_) (fun h23 => ?_)
      · refine ok_iconst 20 rfl rfl (by decide) (ok_ist3 21 rfl rfl rfl ?_)
        have hm : cOk (σ 12) (σ 13) b (σ 10 7) := by
          rcases hz with q | q
          · exact absurd q.1 h23
          · exact q.2
        have eb : b = cbA σ := hb.1
        clear hz hb bad
        refine lpO2 (fun (i : Int) (_ : eS) => [some (vr 10), some (vr t), some (vi b), some (vi i), none, none]) (fun _ ρ => ρ) (fun i ρ => 0 ≤ i ∧ i ≤ σ 10 7 ∧ fr (fun c _ => c = t + 4) σ ρ ∧ (∀ k, 0 ≤ k → k < 64 → 0 ≤ ρ (t + 4) k ∧ ρ (t + 4) k ≤ 99999999) ∧ ∀ x y, 0 ≤ x → x < i → 0 ≤ y → y < σ 10 7 → ρ (t + 4) (x * 8 + y) = σ 12 (x * 8 + y) * (b / σ 13 (x * 8 + y))) (fun i _ => (8 - i).toNat) ?_ 0 σ ⟨by omega, by omega, fr.rf, hT.2.2.2, fun x y a b => by omega⟩
        rintro i ρ ⟨i1, i2, f, hc, hx⟩ ih
        have e7 : ρ 10 7 = σ 10 7 := f 10 7 (by omega)
        refine ok_iload_n 22 rfl rfl rfl (ok_aload_n 23 rfl rfl rfl (ok_getI 24 rfl rfl fl_X10_34 rfl rfl (Or.inl rfl) (ok_icmp_ge 25 104 rfl rfl rfl (fun h44 => ?_) (fun h44 => ?_))))
        · refine ok_aload_n 57 rfl rfl rfl (ok_aload_n 58 rfl rfl rfl (ok_getI 59 rfl rfl fl_X10_34 rfl rfl (Or.inl rfl) (ok_iload_n 60 rfl rfl rfl (ok_callVV (M' := M_Ta_settle) (as := [_, _]) 61 rfl rfl ml_X10_110 (s_Ta_settle ht ⟨by omega, by omega⟩ (by omega) hc) (sT ht) rfl (Nat.le_of_ble_eq_true rfl) ⟨Nat.le_of_ble_eq_true rfl, Nat.le_of_ble_eq_true rfl⟩ rfl (Nat.le_of_ble_eq_true rfl) (fun τ hz => ?_)))))
          refine ok_vret 62 rfl rfl rfl ?_
          refine ⟨rfl, (f.mono (fun c k q => by simp only [rgFi]; omega)).tr (hz.1.mono (fun c k q => by simp only [rgT1, rgFi] at q ⊢; omega)), hz.2.1, hz.2.2.1, Or.inr (Or.inr ⟨by omega, by omega, by omega, by rw [← eb]; exact hm, fun k => ?_, by rw [hz.2.2.2.1, e7], by rw [hz.2.2.2.2.1]; omega, fun x y xa xb ya yb => ?_⟩)⟩
          · rw [hz.1 10 k (by simp only [rgT1]; omega), f 10 k (by omega)]
          · rw [hz.1 (t + 4) _ (by simp only [rgT1]; omega), hx x y xa (by omega) ya yb, eb]
        · refine ok_iconst 26 rfl rfl (by decide) (ok_ist4 27 rfl rfl rfl ?_)
          refine lpO2 (fun (j : Int) (_ : eS) => [some (vr 10), some (vr t), some (vi b), some (vi i), some (vi j), none]) (fun _ ρ => ρ) (fun j ρ => 0 ≤ j ∧ j ≤ σ 10 7 ∧ fr (fun c _ => c = t + 4) σ ρ ∧ (∀ k, 0 ≤ k → k < 64 → 0 ≤ ρ (t + 4) k ∧ ρ (t + 4) k ≤ 99999999) ∧ (∀ x y, 0 ≤ x → x < i → 0 ≤ y → y < σ 10 7 → ρ (t + 4) (x * 8 + y) = σ 12 (x * 8 + y) * (b / σ 13 (x * 8 + y))) ∧ ∀ y, 0 ≤ y → y < j → ρ (t + 4) (i * 8 + y) = σ 12 (i * 8 + y) * (b / σ 13 (i * 8 + y))) (fun j _ => (8 - j).toNat) ?_ 0 ρ ⟨by omega, by omega, f, hc, hx, fun y a b => by omega⟩
          have il : i < σ 10 7 := by omega
          clear f hc hx e7 h44 ρ
          rintro j ρ ⟨j1, j2, f, hc, hx, hy⟩ ih2
          have e7 : ρ 10 7 = σ 10 7 := f 10 7 (by omega)
          have e12 : ∀ k, ρ 12 k = σ 12 k := fun k => f 12 k (by omega)
          have e13 : ∀ k, ρ 13 k = σ 13 k := fun k => f 13 k (by omega)
          refine ok_iload 28 rfl rfl rfl (ok_aload_n 29 rfl rfl rfl (ok_getI 30 rfl rfl fl_X10_34 rfl rfl (Or.inl rfl) (ok_icmp_ge 31 98 rfl rfl rfl (fun h56 => ?_) (fun h56 => ?_))))
          · refine ok_inc3 55 rfl rfl rfl (by first | omega | (simp [up_if]; omega) | (simp [up_if] at *; omega)) (ok_goto 56 39 rfl rfl rfl ?_)
            refine ok_fg [some (vr 10), some (vr t), some (vi b), some (vi (i + 1)), none, none] ⟨rfl, rfl, rfl, rfl, trivial⟩ (ih (i + 1) ρ ⟨by omega, by omega, f, hc, fun x y xa xb ya yb => ?_⟩ (by omega))
            rcases (by omega : x < i ∨ x = i) with q | q
            · exact hx x y xa q ya yb
            · rw [q]; exact hy y ya (by omega)
          · obtain ⟨u1, u2, u3, u4⟩ := hr.2.2 i j i1 il j1 (by omega)
            have d := div_bd (u := b) (g := σ 13 (i * 8 + j)) (B := 999999) ⟨by omega, by omega⟩ u1
            have m0 := Int.mul_nonneg u3 d.1
            have m1 := hm i j i1 il j1 (by omega)
            rw [← e12, ← e13] at m0 m1
            rw [← e13] at u1 u2 d
            refine ok_iload_n 32 rfl rfl rfl (ok_bipush 33 rfl rfl (by decide) (by decide) (ok_imul 34 rfl rfl (by first | omega | (simp [up_if]; omega) | (simp [up_if] at *; omega)) (ok_iload 35 rfl rfl rfl (ok_iadd 36 rfl rfl (by first | omega | (simp [up_if]; omega) | (simp [up_if] at *; omega)) (ok_ist5 37 rfl rfl rfl (ok_aload_n 38 rfl rfl rfl (ok_getR 39 rfl rfl fl_X10_107 (sT ht) rfl (ok_iload 40 rfl rfl rfl (ok_aload_n 41 rfl rfl rfl (ok_getR 42 rfl rfl fl_X10_15 rfl rfl (ok_iload 43 rfl rfl rfl (ok_iald 44 rfl rfl rfl (by first | omega | (simp [up_if]; omega) | (simp [up_if] at *; omega)) (ok_iload_n 45 rfl rfl rfl (ok_aload_n 46 rfl rfl rfl (ok_getR 47 rfl rfl fl_X10_18 rfl rfl (ok_iload 48 rfl rfl rfl (ok_iald 49 rfl rfl rfl (by first | omega | (simp [up_if]; omega) | (simp [up_if] at *; omega)) (ok_idiv 50 rfl rfl (by first | omega | (simp [up_if]; omega) | (simp [up_if] at *; omega)) (by first | omega | (simp [up_if]; omega) | (simp [up_if] at *; omega)) (ok_imul 51 rfl rfl (by first | omega | (simp [up_if]; omega) | (simp [up_if] at *; omega)) (ok_iast 52 rfl rfl (sC ht) (by first | omega | (simp [up_if]; omega) | (simp [up_if] at *; omega)) (ok_inc4 53 rfl rfl rfl (by first | omega | (simp [up_if]; omega) | (simp [up_if] at *; omega)) (ok_goto 54 50 rfl rfl rfl ?_))))))))))))))))))))))
            refine ok_fg [some (vr 10), some (vr t), some (vi b), some (vi i), some (vi (j + 1)), none] ⟨rfl, rfl, rfl, rfl, rfl, trivial⟩ (ih2 (j + 1) _ ⟨by omega, by omega, fr_up f rfl, fun k a c => ?_, fun x y xa xb ya yb => ?_, fun y ya yb => ?_⟩ (by omega))
            · rw [up_if]
              by_cases q : k = i * 8 + j
              · rw [if_pos ⟨rfl, q⟩]; exact ⟨m0, m1⟩
              · rw [if_neg (fun y => q y.2)]; exact hc k a c
            · rw [up_nk _ _ _ _ (by omega)]; exact hx x y xa xb ya yb
            · rcases (by omega : y < j ∨ y = j) with q | q
              · rw [up_nk _ _ _ _ (by omega)]; exact hy y ya q
              · rw [q, up_same, e12, e13]
      · refine ok_aload_n 14 rfl rfl rfl (ok_bipush 15 rfl rfl (by decide) (by decide) (ok_aload_n 16 rfl rfl rfl (ok_getI 17 rfl rfl fl_X10_21 rfl rfl (Or.inl rfl) (ok_callVV (M' := M_Tp_fail) (as := [_, _]) 18 rfl rfl ml_X10_75 (s_Tp_fail) rfl rfl (Nat.le_of_ble_eq_true rfl) ⟨Nat.le_of_ble_eq_true rfl, Nat.le_of_ble_eq_true rfl⟩ rfl (Nat.le_of_ble_eq_true rfl) (fun σ' hz => ?_)))))
        rw [hz]
        clear hz σ'
        refine ok_vret 19 rfl rfl rfl ?_
        refine ⟨rfl, bad (by omega) (Or.inr (fun q => ?_))⟩
        have e := hb.1
        rcases hz with w | w
        · exact w.2 (by rw [e]; exact q)
        · omega
  · refine ok_vret 3 rfl rfl rfl ?_
    exact ⟨rfl, fr.rf, hT, hM, Or.inl ⟨by omega, rfl⟩⟩
