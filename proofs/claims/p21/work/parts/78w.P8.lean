def uRAf (ρ : eS) : Prop := ρ 10 4 = 0 → uRA ρ
/-- what `table` leaves of the tape's text, on the class's side: the whole reading, then the filling -/
def TI (t : Nat) (σ σ' : eS) : Prop := ∃ ρ : eS, ρ 11 = σ 11 ∧ ρ 10 3 = σ 10 3 ∧ (ρ 10 4 = 0 → PR (σ 11) (σ 10 3) 0 0 0 0 (σ 12) (σ 13) = (0, -1, ρ 10 7, ρ 10 9, ρ 12, ρ 13) ∧ ρ 10 7 = ρ 10 9 ∧ ρ 10 5 = -1) ∧ (ρ 10 4 ≠ 0 → (PR (σ 11) (σ 10 3) 0 0 0 0 (σ 12) (σ 13)).1 = ρ 10 4 ∧ (PR (σ 11) (σ 10 3) 0 0 0 0 (σ 12) (σ 13)).2.1 = ρ 10 5) ∧ (∀ k, ρ t k = σ t k) ∧ (∀ k, ρ (t + 4) k = σ (t + 4) k) ∧ uRAf ρ ∧ ∃ υ : eS, FI t ρ υ ∧ σ' = up υ 10 3 0
theorem t_Tp_readInto {σ : eS} {t : Nat} (ht : tA t) (h : tL σ) (hT : iT σ t) (hM : mT σ t) : MtI shA M_Tp_readInto [vr 10, vr t] σ (fun σ' z => fr (rgRI t) σ σ' ∧ iT σ' t ∧ mT σ' t ∧ σ' 10 3 = 0 ∧ TI t σ σ' ∧ ((σ' 10 4 = 0 ∧ z = σ' t 1) ∨ (σ' 10 4 ≠ 0 ∧ z = -1))) := by
  refine Mt.of okM_Tp_readInto (Nat.le_of_ble_eq_true rfl) (fun hk hg => ?_)
  obtain ⟨n1, n2, n3, n4, n5, n6, n7, n8, n9, nA⟩ := tA_10 ht
  have h1 := h.1
  have h2 := h.2
  obtain ⟨τ, eτ⟩ : ∃ τ, τ = up (up (up (up (up (up σ 10 4 0) 10 5 (-1)) 10 6 0) 10 7 0) 10 8 0) 10 9 0 := ⟨_, rfl⟩
  have f : fr rgJ σ τ := by rw [eτ]; exact fr_up (fr_up (fr_up (fr_up (fr_up (fr_up fr.rf (by simp [rgJ])) (by simp [rgJ])) (by simp [rgJ])) (by simp [rgJ])) (by simp [rgJ])) (by simp [rgJ])
  have e4 : τ 10 4 = 0 := by rw [eτ]; simp [up_if]
  have e5 : τ 10 5 = -1 := by rw [eτ]; simp [up_if]
  have e6 : τ 10 6 = 0 := by rw [eτ]; simp [up_if]
  have e7 : τ 10 7 = 0 := by rw [eτ]; simp [up_if]
  have e8 : τ 10 8 = 0 := by rw [eτ]; simp [up_if]
  have e9 : τ 10 9 = 0 := by rw [eτ]; simp [up_if]
  have e3 : τ 10 3 = σ 10 3 := f 10 3 (by simp [rgJ])
  have e11 : τ 11 = σ 11 := by funext j; exact f 11 j (by simp [rgJ])
  have e12 : τ 12 = σ 12 := by rw [eτ]; simp only [up_fn _ _ _ (show (12 : Nat) ≠ 10 by decide)]
  have e13 : τ 13 = σ 13 := by rw [eτ]; simp only [up_fn _ _ _ (show (13 : Nat) ≠ 10 by decide)]
  have eP : PA τ = PR (σ 11) (σ 10 3) 0 0 0 0 (σ 12) (σ 13) := by unfold PA; rw [e11, e3, e6, e7, e8, e9, e12, e13]
  have hR : RA τ := ⟨⟨by omega, by omega, by omega, by omega⟩, by omega, by omega, by omega, by omega, by omega, by omega, fun i j a b => by omega, fun j a b c => by omega, by omega⟩
  unfold TI
  simp only [← eP]
  refine ok_aload_n 0 rfl rfl rfl (ok_iconst 1 rfl rfl (by decide) (ok_putI 2 rfl rfl fl_X10_25 rfl rfl rfl rfl (ok_aload_n 3 rfl rfl rfl (ok_iconst 4 rfl rfl (by decide) (ok_putI 5 rfl rfl fl_X10_28 rfl rfl rfl rfl (ok_aload_n 6 rfl rfl rfl (ok_iconst 7 rfl rfl (by decide) (ok_putI 8 rfl rfl fl_X10_31 rfl rfl rfl rfl (ok_aload_n 9 rfl rfl rfl (ok_iconst 10 rfl rfl (by decide) (ok_putI 11 rfl rfl fl_X10_34 rfl rfl rfl rfl (ok_aload_n 12 rfl rfl rfl (ok_iconst 13 rfl rfl (by decide) (ok_putI 14 rfl rfl fl_X10_37 rfl rfl rfl rfl (ok_aload_n 15 rfl rfl rfl (ok_iconst 16 rfl rfl (by decide) (ok_putI 17 rfl rfl fl_X10_40 rfl rfl rfl rfl (ok_iconst 18 rfl rfl (by decide) (ok_ist2 19 rfl rfl rfl ?_)))))))))))))))))))
  rw [← eτ]
  refine lpO2 (fun (k : Int) (_ : eS) => [some (vr 10), some (vr t), some (vi k)]) (fun _ ρ => ρ) (fun k ρ => 0 ≤ k ∧ k ≤ 600 ∧ fr rgJ σ ρ ∧ RA ρ ∧ ((ρ 10 4 = 0 ∧ PA ρ = PA τ ∧ k ≤ ρ 10 6 ∧ ρ 10 5 = -1) ∨ (ρ 10 4 ≠ 0 ∧ (PA τ).1 = ρ 10 4 ∧ (PA τ).2.1 = ρ 10 5))) (fun k _ => (600 - k).toNat) ?_ 0 τ ⟨by omega, by omega, f, hR, Or.inl ⟨e4, rfl, by omega, e5⟩⟩
  clear e3 e9 e8 e7 e6 hR f e4 e5 e11 e12 e13 eP eτ
  rintro k ρ ⟨k1, k2, f, hR, hs⟩ ih
  have r3 : ρ 10 3 = σ 10 3 := f 10 3 (by simp [rgJ])
  obtain ⟨pa, pb, pc_, pd⟩ := id hR.1
  have tail : (ρ 10 4 = 0 → ρ 10 6 = ρ 10 3) → Ok shA M_Tp_readInto 67 [some (vr 10), some (vr t), some (vi k)] [] ρ (fun σ' v => ∃ z, v = some (vi z) ∧ fr (rgRI t) σ σ' ∧ iT σ' t ∧ mT σ' t ∧ σ' 10 3 = 0 ∧ (∃ ρ : eS, ρ 11 = σ 11 ∧ ρ 10 3 = σ 10 3 ∧ (ρ 10 4 = 0 → PA τ = (0, -1, ρ 10 7, ρ 10 9, ρ 12, ρ 13) ∧ ρ 10 7 = ρ 10 9 ∧ ρ 10 5 = -1) ∧ (ρ 10 4 ≠ 0 → (PA τ).1 = ρ 10 4 ∧ (PA τ).2.1 = ρ 10 5) ∧ (∀ k, ρ t k = σ t k) ∧ (∀ k, ρ (t + 4) k = σ (t + 4) k) ∧ uRAf ρ ∧ ∃ υ : eS, FI t ρ υ ∧ σ' = up υ 10 3 0) ∧ ((σ' 10 4 = 0 ∧ z = σ' t 1) ∨ (σ' 10 4 ≠ 0 ∧ z = -1))) := by
    intro hend
    clear ih
    refine ok_aload_n 35 rfl rfl rfl (ok_callVV (M' := M_Tp_checkEnd) (as := []) 36 rfl rfl ml_X10_46 (t_Tp_checkEnd hR (by by_cases q : ρ 10 4 = 0; exact Or.inl ⟨q, hend q⟩; exact Or.inr q)) rfl rfl (Nat.le_of_ble_eq_true rfl) ⟨Nat.le_of_ble_eq_true rfl, Nat.le_of_ble_eq_true rfl⟩ rfl (Nat.le_of_ble_eq_true rfl) (fun ρ1 z1 => ?_))
    have f1 : fr rgJ σ ρ1 := f.tr z1.1.1
    have x1 : ∀ k, ρ1 (t + 4) k = σ (t + 4) k := fun k => f1 _ _ (by simp only [rgJ]; omega)
    have x2 : ∀ k, ρ1 t k = σ t k := fun k => f1 _ _ (by simp only [rgJ]; omega)
    have y11 : ρ1 11 = σ 11 := by funext j; exact f1 11 j (by simp [rgJ])
    have y3 : ρ1 10 3 = σ 10 3 := f1 10 3 (by simp [rgJ])
    have ok0 : ρ1 10 4 = 0 → PA τ = (0, -1, ρ1 10 7, ρ1 10 9, ρ1 12, ρ1 13) ∧ ρ1 10 7 = ρ1 10 9 ∧ ρ1 10 5 = -1 := fun q => by
      rcases z1.2.2 with ⟨w1, w2⟩ | ⟨w1, w2, w3, w4⟩
      · rw [w2] at q; exact absurd q w1
      · rcases hs with ⟨s1, s2, s3, s4⟩ | s1
        · have e := w3 q
          have sq := z1.2.1 q
          rw [e] at sq ⊢
          refine ⟨?_, sq, s4⟩
          rw [← s2]
          have hq : sk (ρ 11) (ρ 10 3) (ρ 10 6) = ρ 10 6 := sk_0 (fun z => by have := z.1; have := hend s1; omega)
          have hP := PR_end (r := ρ 10 7) (k := ρ 10 8) (w := ρ 10 9) (ab := ρ 12) (un := ρ 13) hq (by have := hend s1; omega)
          unfold PA at w2 ⊢
          rw [hP] at w2 ⊢
          by_cases c1 : 0 < ρ 10 8
          · rw [if_pos c1, q] at w2; exact absurd (show (1 : Int) = 0 from w2) (by decide)
          · rw [if_neg c1, if_neg (by omega)]
        · exact absurd w1 s1.1
    have ok1 : ρ1 10 4 ≠ 0 → (PA τ).1 = ρ1 10 4 ∧ (PA τ).2.1 = ρ1 10 5 := fun q => by
      rcases z1.2.2 with ⟨w1, w2⟩ | ⟨w1, w2, w3, w4⟩
      · rcases hs with s1 | s1
        · exact absurd s1.1 w1
        · rw [w2]; exact s1.2
      · rcases hs with ⟨s1, s2, s3, s4⟩ | s1
        · rw [← s2]; exact ⟨w2, w4 q⟩
        · exact absurd w1 s1.1
    have ur : uRAf ρ1 := fun q => by
      obtain ⟨-, u1, u2, -, -, -, -, u7, -, -⟩ := z1.1.2
      have := z1.2.1 q
      exact ⟨u1, u2, fun i j a b c d => u7 i j a b c (by omega)⟩
    refine ok_aload_n 37 rfl rfl rfl (ok_aload_n 38 rfl rfl rfl (ok_callVV (M' := M_Tp_fill) (as := [_]) 39 rfl rfl ml_X10_49 (t_Tp_fill ht z1.1.2 z1.2.1 (iT_cg hT (x2 1) (x2 2) x1).1 (mT_cg hM (x2 1) (x2 3) x1)) rfl rfl (Nat.le_of_ble_eq_true rfl) ⟨Nat.le_of_ble_eq_true rfl, Nat.le_of_ble_eq_true rfl⟩ rfl (Nat.le_of_ble_eq_true rfl) (fun ρ2 z2 => ?_)))
    refine ok_aload_n 40 rfl rfl rfl (ok_iconst 41 rfl rfl (by decide) (ok_putI 42 rfl rfl fl_X10_21 rfl rfl rfl rfl (ok_aload_n 43 rfl rfl rfl (ok_getI 44 rfl rfl fl_X10_25 rfl rfl (Or.inl rfl) (ok_if_ne 45 95 rfl rfl rfl (fun h85 => ?_) (fun h85 => ?_))))))
    · refine ok_iconst 49 rfl rfl (by decide) (ok_iret 50 rfl rfl rfl ?_)
      refine ⟨_, rfl, fr_up ((f1.mono (fun c k q => by simp only [rgJ, rgRI] at q ⊢; omega)).tr (z2.1.mono (fun c k q => by simp only [rgFi, rgRI] at q ⊢; omega))) (by simp [rgRI]), (iT_cg z2.2.1 (up_ne _ _ _ _ n1) (up_ne _ _ _ _ n1) (fun k => up_ne _ _ _ _ n2)).1, mT_cg z2.2.2.1 (up_ne _ _ _ _ n1) (up_ne _ _ _ _ n1) (fun k => up_ne _ _ _ _ n2), up_same _ _ _ _, ⟨ρ1, y11, y3, ok0, ok1, x2, x1, ur, ρ2, z2.2.2.2, rfl⟩, ?_⟩
      rw [up_nk _ _ _ _ (by decide)] at *
      first
        | exact Or.inr ⟨by omega, rfl⟩
        | exact Or.inl ⟨by omega, rfl⟩
    · refine ok_aload_n 46 rfl rfl rfl (ok_getI 47 rfl rfl fl_X10_53 (sT ht) rfl (Or.inl rfl) (ok_goto 48 96 rfl rfl rfl (ok_iret 50 rfl rfl rfl ?_)))
      refine ⟨_, rfl, fr_up ((f1.mono (fun c k q => by simp only [rgJ, rgRI] at q ⊢; omega)).tr (z2.1.mono (fun c k q => by simp only [rgFi, rgRI] at q ⊢; omega))) (by simp [rgRI]), (iT_cg z2.2.1 (up_ne _ _ _ _ n1) (up_ne _ _ _ _ n1) (fun k => up_ne _ _ _ _ n2)).1, mT_cg z2.2.2.1 (up_ne _ _ _ _ n1) (up_ne _ _ _ _ n1) (fun k => up_ne _ _ _ _ n2), up_same _ _ _ _, ⟨ρ1, y11, y3, ok0, ok1, x2, x1, ur, ρ2, z2.2.2.2, rfl⟩, ?_⟩
      rw [up_nk _ _ _ _ (by decide)] at *
      first
        | exact Or.inr ⟨by omega, rfl⟩
        | exact Or.inl ⟨by omega, rfl⟩
  refine ok_iload_n 20 rfl rfl rfl (ok_sipush 21 rfl rfl (by decide) (by decide) (ok_icmp_ge 22 67 rfl rfl rfl (fun h36 => ?_) (fun h36 => ?_)))
  · exact tail (by omega)
  · refine ok_aload_n 23 rfl rfl rfl (ok_getI 24 rfl rfl fl_X10_31 rfl rfl (Or.inl rfl) (ok_aload_n 25 rfl rfl rfl (ok_getI 26 rfl rfl fl_X10_21 rfl rfl (Or.inl rfl) (ok_icmp_ge 27 67 rfl rfl rfl (fun h47 => ?_) (fun h47 => ?_)))))
    · exact tail (by omega)
    · refine ok_aload_n 28 rfl rfl rfl (ok_getI 29 rfl rfl fl_X10_25 rfl rfl (Or.inl rfl) (ok_if_ne 30 67 rfl rfl rfl (fun h54 => ?_) (fun h54 => ?_)))
      · exact tail (by omega)
      · refine ok_aload_n 31 rfl rfl rfl (ok_callVV (M' := M_Tp_readPiece) (as := []) 32 rfl rfl ml_X10_43 (t_Tp_readPiece hR (by omega) (by omega)) rfl rfl (Nat.le_of_ble_eq_true rfl) ⟨Nat.le_of_ble_eq_true rfl, Nat.le_of_ble_eq_true rfl⟩ rfl (Nat.le_of_ble_eq_true rfl) (fun ρ1 z1 => ?_))
        refine ok_inc2 33 rfl rfl rfl (by first | omega | (simp [up_if]; omega) | (simp [up_if] at *; omega)) (ok_goto 34 32 rfl rfl rfl ?_)
        refine ih (k + 1) ρ1 ⟨by omega, by omega, f.tr z1.1.1, z1.1.2, ?_⟩ (by omega)
        rcases hs with ⟨s1, s2, s3, s4⟩ | s1
        · rcases z1.2 with ⟨w1, w2, w3, w4⟩ | ⟨w1, w2, w3⟩
          · exact Or.inl ⟨w1, by rw [w2, s2], by omega, by rw [w4, s4]⟩
          · exact Or.inr ⟨w1, by rw [← s2]; exact w2, by rw [← s2]; exact w3⟩
        · exact absurd (by omega) s1.1
