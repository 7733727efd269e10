section
def uRAf (ρ : eS) : Prop := ρ 10 4 = 0 → uRA ρ
/-- what `table` leaves of the tape's text, on the class's side: the whole reading, then the filling -/
def TI (t : Nat) (σ σ' : eS) : Prop := ∃ ρ : eS, ρ 11 = σ 11 ∧ ρ 10 3 = σ 10 3 ∧ (ρ 10 4 = 0 → PR (σ 11) (σ 10 3) 0 0 0 0 (σ 12) (σ 13) = (0, -1, ρ 10 7, ρ 10 9, ρ 12, ρ 13) ∧ ρ 10 7 = ρ 10 9 ∧ ρ 10 5 = -1) ∧ (ρ 10 4 ≠ 0 → (PR (σ 11) (σ 10 3) 0 0 0 0 (σ 12) (σ 13)).1 = ρ 10 4 ∧ (PR (σ 11) (σ 10 3) 0 0 0 0 (σ 12) (σ 13)).2.1 = ρ 10 5) ∧ (∀ k, ρ t k = σ t k) ∧ (∀ k, ρ (t + 4) k = σ (t + 4) k) ∧ uRAf ρ ∧ ∃ υ : eS, FI t ρ υ ∧ σ' = up υ 10 3 0
theorem t_Tp_readInto {σ : eS} {t : Nat} (ht : tA t) (h : tL σ) (hT : iT σ t) (hM : mT σ t) : MtI shA M_Tp_readInto [vr 10, vr t] σ (fun σ' z => fr (rgRI t) σ σ' ∧ iT σ' t ∧ mT σ' t ∧ σ' 10 3 = 0 ∧ TI t σ σ' ∧ ((σ' 10 4 = 0 ∧ z = σ' t 1) ∨ (σ' 10 4 ≠ 0 ∧ z = -1))) := by
  refine Mt.of okM_Tp_readInto (Nat.le_of_ble_eq_true rfl) (fun hk hg => ?_)
  obtain ⟨n1, n2, n3, n4, n5, n6, n7, n8, n9, nA⟩ := tA_10 ht
  have h1 := h.1
  have h2 := h.2
  obtain ⟨τ, eτ⟩ : ∃ τ, τ = up (up (up (up (up (up σ 10 4 0) 10 5 (-1)) 10 6 0) 10 7 0) 10 8 0) 10 9 0 := ⟨_, rfl⟩
  have f : fr rgJ σ τ := by rw [eτ]; exact fr_up (fr_up (fr_up (fr_up (fr_up (fr_up fr.rf (by simp [rgJ])) (by simp [rgJ])) (by simp [rgJ])) (by simp [rgJ])) (by simp [rgJ])) (by simp [rgJ])
  have e4 : τ 10 4 = 0 := by rw [eτ]; simp [up_if]
  have e5 : τ 10 5 = -1 := by rw [eτ]; simp [up_if]
  have e6 : τ 10 6 = 0 := by rw [eτ]; simp [up_if]
  have e7 : τ 10 7 = 0 := by rw [eτ]; simp [up_if]
  have e8 : τ 10 8 = 0 := by rw [eτ]; simp [up_if]
  have e9 : τ 10 9 = 0 := by rw [eτ]; simp [up_if]
  have e3 : τ 10 3 = σ 10 3 := f 10 3 (by simp [rgJ])
  have e11 : τ 11 = σ 11 := by funext j; exact f 11 j (by simp [rgJ])
  have e12 : τ 12 = σ 12 := by rw [eτ]; simp only [up_fn _ _ _ (show (12 : Nat) ≠ 10 by decide)]
  have e13 : τ 13 = σ 13 := by rw [eτ]; simp only [up_fn _ _ _ (show (13 : Nat) ≠ 10 by decide)]
  have eP : PA τ = PR (σ 11) (σ 10 3) 0 0 0 0 (σ 12) (σ 13) := by unfold PA; rw [e11, e3, e6, e7, e8, e9, e12, e13]
  have hR : RA τ := ⟨⟨by omega, by omega, by omega, by omega⟩, by omega, by omega, by omega, by omega, by omega, by omega, fun i j a b => by omega, fun j a b c => by omega, by omega⟩
  unfold TI
  simp only [← eP]
  refine ok_aload_n 0 rfl rfl rfl (ok_iconst 1 rfl rfl (by decide) (ok_putI 2 rfl rfl fl_X10_25 rfl rfl rfl rfl (ok_aload_n 3 rfl rfl rfl (ok_iconst 4 rfl rfl (by decide) (ok_putI 5 rfl rfl fl_X10_28 rfl rfl rfl rfl (ok_aload_n 6 rfl rfl rfl (ok_iconst 7 rfl rfl (by decide) (ok_putI 8 rfl rfl fl_X10_31 rfl rfl rfl rfl (ok_aload_n 9 rfl rfl rfl (ok_iconst 10 rfl rfl (by decide) (ok_putI 11 rfl rfl fl_X10_34 rfl rfl rfl rfl (ok_aload_n 12 rfl rfl rfl (ok_iconst 13 rfl rfl (by decide) (ok_putI 14 rfl rfl fl_X10_37 rfl rfl rfl rfl (ok_aload_n 15 rfl rfl rfl (ok_iconst 16 rfl rfl (by decide) (ok_putI 17 rfl rfl fl_X10_40 rfl rfl rfl rfl (ok_iconst 18 rfl rfl (by decide) (ok_ist2 19 rfl rfl rfl ?_)))))))))))))))))))
  rw [← eτ]
  refine lpO2 (fun (k : Int) (_ : eS) => [some (vr 10), some (vr t), some (vi k)]) (fun _ ρ => ρ) (fun k ρ => 0 ≤ k ∧ k ≤ 600 ∧ fr rgJ σ ρ ∧ RA ρ ∧ ((ρ 10 4 = 0 ∧ PA ρ = PA τ ∧ k ≤ ρ 10 6 ∧ ρ 10 5 = -1) ∨ (ρ 10 4 ≠ 0 ∧ (PA τ).1 = ρ 10 4 ∧ (PA τ).2.1 = ρ 10 5))) (fun k _ => (600 - k).toNat) ?_ 0 τ ⟨by omega, by omega, f, hR, Or.inl ⟨e4, rfl, by omega, e5⟩⟩
  clear e3 e9 e8 e7 e6 hR f e4 e5 e11 e12 e13 eP eτ
  rintro k ρ ⟨k1, k2, f, hR, hs⟩ ih
  have r3 : ρ 10 3 = σ 10 3 := f 10 3 (by simp [rgJ])
  obtain ⟨pa, pb, pc_, pd⟩ := id hR.1
  have tail : (ρ 10 4 = 0 → ρ 10 6 = ρ 10 3) → Ok shA M_Tp_readInto 67 [some (vr 10), some (vr t), some (vi k)] [] ρ (fun σ' v => ∃ z, v = some (vi z) ∧ fr (rgRI t) σ σ' ∧ iT σ' t ∧ mT σ' t ∧ σ' 10 3 = 0 ∧ (∃ ρ : eS, ρ 11 = σ 11 ∧ ρ 10 3 = σ 10 3 ∧ (ρ 10 4 = 0 → PA τ = (0, -1, ρ 10 7, ρ 10 9, ρ 12, ρ 13) ∧ ρ 10 7 = ρ 10 9 ∧ ρ 10 5 = -1) ∧ (ρ 10 4 ≠ 0 → (PA τ).1 = ρ 10 4 ∧ (PA τ).2.1 = ρ 10 5) ∧ (∀ k, ρ t k = σ t k) ∧ (∀ k, ρ (t + 4) k = σ (t + 4) k) ∧ uRAf ρ ∧ ∃ υ : eS, FI t ρ υ ∧ σ' = up υ 10 3 0) ∧ ((σ' 10 4 = 0 ∧ z = σ' t 1) ∨ (σ' 10 4 ≠ 0 ∧ z = -1))) := by
    intro hend
    clear ih
    refine ok_aload_n 35 rfl rfl rfl (ok_callVV (M' := M_Tp_checkEnd) (as := []) 36 rfl rfl ml_X10_46 (t_Tp_checkEnd hR (by by_cases q : ρ 10 4 = 0; exact Or.inl ⟨q, hend q⟩; exact Or.inr q)) rfl rfl (Nat.le_of_ble_eq_true rfl) ⟨Nat.le_of_ble_eq_true rfl, Nat.le_of_ble_eq_true rfl⟩ rfl (Nat.le_of_ble_eq_true rfl) (fun ρ1 z1 => ?_))
    have f1 : fr rgJ σ ρ1 := f.tr z1.1.1
    have x1 : ∀ k, ρ1 (t + 4) k = σ (t + 4) k := fun k => f1 _ _ (by simp only [rgJ]; omega)
    have x2 : ∀ k, ρ1 t k = σ t k := fun k => f1 _ _ (by simp only [rgJ]; omega)
    have y11 : ρ1 11 = σ 11 := by funext j; exact f1 11 j (by simp [rgJ])
    have y3 : ρ1 10 3 = σ 10 3 := f1 10 3 (by simp [rgJ])
    have ok0 : ρ1 10 4 = 0 → PA τ = (0, -1, ρ1 10 7, ρ1 10 9, ρ1 12, ρ1 13) ∧ ρ1 10 7 = ρ1 10 9 ∧ ρ1 10 5 = -1 := fun q => by
      rcases z1.2.2 with ⟨w1, w2⟩ | ⟨w1, w2, w3, w4⟩
      · rw [w2] at q; exact absurd q w1
      · rcases hs with ⟨s1, s2, s3, s4⟩ | s1
        · have e := w3 q
          have sq := z1.2.1 q
          rw [e] at sq ⊢
          refine ⟨?_, sq, s4⟩
          rw [← s2]
          have hq : sk (ρ 11) (ρ 10 3) (ρ 10 6) = ρ 10 6 := sk_0 (fun z => by have := z.1; have := hend s1; omega)
          have hP := PR_end (r := ρ 10 7) (k := ρ 10 8) (w := ρ 10 9) (ab := ρ 12) (un := ρ 13) hq (by have := hend s1; omega)
          unfold PA at w2 ⊢
          rw [hP] at w2 ⊢
          by_cases c1 : 0 < ρ 10 8
          · rw [if_pos c1, q] at w2; exact absurd (show (1 : Int) = 0 from w2) (by decide)
          · rw [if_neg c1, if_neg (by omega)]
        · exact absurd w1 s1.1
    have ok1 : ρ1 10 4 ≠ 0 → (PA τ).1 = ρ1 10 4 ∧ (PA τ).2.1 = ρ1 10 5 := fun q => by
      rcases z1.2.2 with ⟨w1, w2⟩ | ⟨w1, w2, w3, w4⟩
      · rcases hs with s1 | s1
        · exact absurd s1.1 w1
        · rw [w2]; exact s1.2
      · rcases hs with ⟨s1, s2, s3, s4⟩ | s1
        · rw [← s2]; exact ⟨w2, w4 q⟩
        · exact absurd w1 s1.1
    have ur : uRAf ρ1 := fun q => by
      obtain ⟨-, u1, u2, -, -, -, -, u7, -, -⟩ := z1.1.2
      have := z1.2.1 q
      exact ⟨u1, u2, fun i j a b c d => u7 i j a b c (by omega)⟩
    refine ok_aload_n 37 rfl rfl rfl (ok_aload_n 38 rfl rfl rfl (ok_callVV (M' := M_Tp_fill) (as := [_]) 39 rfl rfl ml_X10_49 (t_Tp_fill ht z1.1.2 z1.2.1 (iT_cg hT (x2 1) (x2 2) x1).1 (mT_cg hM (x2 1) (x2 3) x1)) rfl rfl (Nat.le_of_ble_eq_true rfl) ⟨Nat.le_of_ble_eq_true rfl, Nat.le_of_ble_eq_true rfl⟩ rfl (Nat.le_of_ble_eq_true rfl) (fun ρ2 z2 => ?_)))
    refine ok_aload_n 40 rfl rfl rfl (ok_iconst 41 rfl rfl (by decide) (ok_putI 42 rfl rfl fl_X10_21 rfl rfl rfl rfl (ok_aload_n 43 rfl rfl rfl (ok_getI 44 rfl rfl fl_X10_25 rfl rfl (Or.inl rfl) (ok_if_ne 45 95 rfl rfl rfl (fun h85 => ?_) (fun h85 => ?_))))))
    · refine ok_iconst 49 rfl rfl (by decide) (ok_iret 50 rfl rfl rfl ?_)
      refine ⟨_, rfl, fr_up ((f1.mono (fun c k q => by simp only [rgJ, rgRI] at q ⊢; omega)).tr (z2.1.mono (fun c k q => by simp only [rgFi, rgRI] at q ⊢; omega))) (by simp [rgRI]), (iT_cg z2.2.1 (up_ne _ _ _ _ n1) (up_ne _ _ _ _ n1) (fun k => up_ne _ _ _ _ n2)).1, mT_cg z2.2.2.1 (up_ne _ _ _ _ n1) (up_ne _ _ _ _ n1) (fun k => up_ne _ _ _ _ n2), up_same _ _ _ _, ⟨ρ1, y11, y3, ok0, ok1, x2, x1, ur, ρ2, z2.2.2.2, rfl⟩, ?_⟩
      rw [up_nk _ _ _ _ (by decide)] at *
      first
        | exact Or.inr ⟨by omega, rfl⟩
        | exact Or.inl ⟨by omega, rfl⟩
    · refine ok_aload_n 46 rfl rfl rfl (ok_getI 47 rfl rfl fl_X10_53 (sT ht) rfl (Or.inl rfl) (ok_goto 48 96 rfl rfl rfl (ok_iret 50 rfl rfl rfl ?_)))
      refine ⟨_, rfl, fr_up ((f1.mono (fun c k q => by simp only [rgJ, rgRI] at q ⊢; omega)).tr (z2.1.mono (fun c k q => by simp only [rgFi, rgRI] at q ⊢; omega))) (by simp [rgRI]), (iT_cg z2.2.1 (up_ne _ _ _ _ n1) (up_ne _ _ _ _ n1) (fun k => up_ne _ _ _ _ n2)).1, mT_cg z2.2.2.1 (up_ne _ _ _ _ n1) (up_ne _ _ _ _ n1) (fun k => up_ne _ _ _ _ n2), up_same _ _ _ _, ⟨ρ1, y11, y3, ok0, ok1, x2, x1, ur, ρ2, z2.2.2.2, rfl⟩, ?_⟩
      rw [up_nk _ _ _ _ (by decide)] at *
      first
        | exact Or.inr ⟨by omega, rfl⟩
        | exact Or.inl ⟨by omega, rfl⟩
  refine ok_iload_n 20 rfl rfl rfl (ok_sipush 21 rfl rfl (by decide) (by decide) (ok_icmp_ge 22 67 rfl rfl rfl (fun h36 => ?_) (fun h36 => ?_)))
  · exact tail (by omega)
  · refine ok_aload_n 23 rfl rfl rfl (ok_getI 24 rfl rfl fl_X10_31 rfl rfl (Or.inl rfl) (ok_aload_n 25 rfl rfl rfl (ok_getI 26 rfl rfl fl_X10_21 rfl rfl (Or.inl rfl) (ok_icmp_ge 27 67 rfl rfl rfl (fun h47 => ?_) (fun h47 => ?_)))))
    · exact tail (by omega)
    · refine ok_aload_n 28 rfl rfl rfl (ok_getI 29 rfl rfl fl_X10_25 rfl rfl (Or.inl rfl) (ok_if_ne 30 67 rfl rfl rfl (fun h54 => ?_) (fun h54 => ?_)))
      · exact tail (by omega)
      · refine ok_aload_n 31 rfl rfl rfl (ok_callVV (M' := M_Tp_readPiece) (as := []) 32 rfl rfl ml_X10_43 (t_Tp_readPiece hR (by omega) (by omega)) rfl rfl (Nat.le_of_ble_eq_true rfl) ⟨Nat.le_of_ble_eq_true rfl, Nat.le_of_ble_eq_true rfl⟩ rfl (Nat.le_of_ble_eq_true rfl) (fun ρ1 z1 => ?_))
        refine ok_inc2 33 rfl rfl rfl (by first | omega | (simp [up_if]; omega) | (simp [up_if] at *; omega)) (ok_goto 34 32 rfl rfl rfl ?_)
        refine ih (k + 1) ρ1 ⟨by omega, by omega, f.tr z1.1.1, z1.1.2, ?_⟩ (by omega)
        rcases hs with ⟨s1, s2, s3, s4⟩ | s1
        · rcases z1.2 with ⟨w1, w2, w3, w4⟩ | ⟨w1, w2, w3⟩
          · exact Or.inl ⟨w1, by rw [w2, s2], by omega, by rw [w4, s4]⟩
          · exact Or.inr ⟨w1, by rw [← s2]; exact w2, by rw [← s2]; exact w3⟩
        · exact absurd (by omega) s1.1
end
section
/-- the next piece, exactly: where it begins; the end, a number, a sign -/
def LX (σ σ' : eS) : Prop := σ' 0 12 = sk (σ 5) (σ 0 6) (σ 0 13) ∧ ((¬ sk (σ 5) (σ 0 6) (σ 0 13) < σ 0 6 ∧ σ' 0 11 = 0 ∧ σ' 0 13 = sk (σ 5) (σ 0 6) (σ 0 13)) ∨ (dgA (σ 5) (σ 0 6) (sk (σ 5) (σ 0 6) (σ 0 13)) ∧ σ' 0 11 = 2 ∧ σ' 0 13 = de (σ 5) (σ 0 6) (sk (σ 5) (σ 0 6) (σ 0 13)) ∧ (de (σ 5) (σ 0 6) (sk (σ 5) (σ 0 6) (σ 0 13)) - sk (σ 5) (σ 0 6) (σ 0 13) ≤ 6 → σ' 0 14 = vaD (σ 5) (sk (σ 5) (σ 0 6) (σ 0 13)) (de (σ 5) (σ 0 6) (sk (σ 5) (σ 0 6) (σ 0 13))))) ∨ (sk (σ 5) (σ 0 6) (σ 0 13) < σ 0 6 ∧ ¬ dgA (σ 5) (σ 0 6) (sk (σ 5) (σ 0 6) (σ 0 13)) ∧ σ' 0 11 = 3 ∧ σ' 0 15 = σ 5 (sk (σ 5) (σ 0 6) (σ 0 13)) ∧ σ' 0 13 = sk (σ 5) (σ 0 6) (σ 0 13) + 1))
theorem t_Mo_next {σ : eS} (h : P0 σ) (hby : ∀ k : Int, 0 ≤ k → k < σ 0 6 → 0 ≤ σ 5 k) : MtV shB M_Mo_next [vr 0] σ (fun σ' => lex σ σ' ∧ LX σ σ') := by
  refine Mt.of okM_Mo_next (Nat.le_of_ble_eq_true rfl) (fun hk hg => ?_)
  obtain ⟨p1, p2, p3⟩ := h
  refine lpO (fun _ : eS => [some (vr 0), none]) (fun τ => τ) (fun τ => fr (fun c k => c = 0 ∧ k = 13) σ τ ∧ σ 0 13 ≤ τ 0 13 ∧ τ 0 13 ≤ σ 0 6 ∧ ∀ j, σ 0 13 ≤ j → j < τ 0 13 → blA (σ 5) (σ 0 6) j) (fun τ => (600 - τ 0 13).toNat) ?_ σ ⟨fr.rf, by omega, by omega, fun j a b => by omega⟩
  rintro τ ⟨f, h1, h2, hbl⟩ ih
  have f6 : τ 0 6 = σ 0 6 := f 0 6 (by omega)
  have f5 : ∀ k, τ 5 k = σ 5 k := fun k => f 5 k (by omega)
  have sq : τ 0 13 < σ 0 6 → seeB τ (τ 0 13) = σ 5 (τ 0 13) := fun q => by unfold seeB; rw [if_pos (by omega), f5]
  have sn : ¬ τ 0 13 < σ 0 6 → seeB τ (τ 0 13) = -1 := fun q => by unfold seeB; rw [if_neg (by omega)]
  refine ok_aload_n 0 rfl rfl rfl (ok_aload_n 1 rfl rfl rfl (ok_getI 2 rfl rfl fl_X12_132 rfl rfl (Or.inl rfl) (ok_callVI (M' := M_Mo_see) (as := [_]) 3 rfl rfl ml_X12_135 (s_Mo_see (by omega) (by omega)) rfl rfl (Nat.le_of_ble_eq_true rfl) ⟨Nat.le_of_ble_eq_true rfl, Nat.le_of_ble_eq_true rfl⟩ rfl (Nat.le_of_ble_eq_true rfl) (fun σ' z hz => ?_))))
  rw [hz.1, hz.2]
  clear hz z σ'
  refine ok_bipush 4 rfl rfl (by decide) (by decide) (ok_icmp_eq 5 26 rfl rfl rfl (fun h10 => ?_) (fun h10 => ?_))
  · have hl : τ 0 13 < τ 0 6 := seeB_lt (by omega)
    refine ok_aload_n 12 rfl rfl rfl (ok_dup 13 rfl rfl rfl (ok_getI 14 rfl rfl fl_X12_132 rfl rfl (Or.inl rfl) (ok_iconst 15 rfl rfl (by decide) (ok_iadd 16 rfl rfl (by first | omega | (simp [up_if]; omega) | (simp [up_if] at *; omega)) (ok_putI 17 rfl rfl fl_X12_132 rfl rfl rfl rfl (ok_goto 18 0 rfl rfl rfl ?_))))))
    refine ih _ ⟨fr_up f ⟨rfl, rfl⟩, by rw [up_same]; omega, by rw [up_same]; omega, fun j a b => ?_⟩ (by rw [up_same]; omega)
    rw [up_same] at b
    rcases (by omega : j < τ 0 13 ∨ j = τ 0 13) with q | q
    · exact hbl j a q
    · rw [q]
      have := sq (by omega)
      exact ⟨by omega, by omega⟩
  · refine ok_aload_n 6 rfl rfl rfl (ok_aload_n 7 rfl rfl rfl (ok_getI 8 rfl rfl fl_X12_132 rfl rfl (Or.inl rfl) (ok_callVI (M' := M_Mo_see) (as := [_]) 9 rfl rfl ml_X12_135 (s_Mo_see (by omega) (by omega)) rfl rfl (Nat.le_of_ble_eq_true rfl) ⟨Nat.le_of_ble_eq_true rfl, Nat.le_of_ble_eq_true rfl⟩ rfl (Nat.le_of_ble_eq_true rfl) (fun σ' z hz => ?_))))
    rw [hz.1, hz.2]
    clear hz z σ'
    refine ok_bipush 10 rfl rfl (by decide) (by decide) (ok_icmp_ne 11 39 rfl rfl rfl (fun h23 => ?_) (fun h23 => ?_))
    · have hsk : sk (σ 5) (σ 0 6) (σ 0 13) = τ 0 13 := sk_un h1 hbl (fun q => by have := sq q.1; have := q.2; omega)
      obtain ⟨τ1, e1⟩ : ∃ x, x = up (up (up τ 0 12 (τ 0 13)) 0 14 0) 0 15 0 := ⟨_, rfl⟩
      have g1 : fr (fun c k => c = 0 ∧ 11 ≤ k ∧ k ≤ 15) σ τ1 := by
        rw [e1]
        exact fr_up (fr_up (fr_up (f.mono (fun c k q => by omega)) (by omega)) (by omega)) (by omega)
      have g12 : τ1 0 12 = τ 0 13 := by rw [e1]; simp [up_if]
      have g13 : τ1 0 13 = τ 0 13 := by rw [e1]; simp [up_if]
      have g14 : τ1 0 14 = 0 := by rw [e1]; simp [up_if]
      have g6 : τ1 0 6 = σ 0 6 := by rw [e1]; simp [up_if, f6]
      refine ok_aload_n 19 rfl rfl rfl (ok_aload_n 20 rfl rfl rfl (ok_getI 21 rfl rfl fl_X12_132 rfl rfl (Or.inl rfl) (ok_putI 22 rfl rfl fl_X12_138 rfl rfl rfl rfl (ok_aload_n 23 rfl rfl rfl (ok_aload_n 24 rfl rfl rfl (ok_getI 25 rfl rfl fl_X12_132 rfl rfl (Or.inl rfl) (ok_callVI (M' := M_Mo_see) (as := [_]) 26 rfl rfl ml_X12_135 (s_Mo_see (by simp [up_if]; omega) (by simp [up_if]; omega)) rfl rfl (Nat.le_of_ble_eq_true rfl) ⟨Nat.le_of_ble_eq_true rfl, Nat.le_of_ble_eq_true rfl⟩ rfl (Nat.le_of_ble_eq_true rfl) (fun σ' z hz => ?_))))))))
      obtain ⟨hs_, hz⟩ := hz
      rw [hs_]; clear hs_ σ'
      refine ok_ist1 27 rfl rfl rfl (ok_aload_n 28 rfl rfl rfl (ok_iconst 29 rfl rfl (by decide) (ok_putI 30 rfl rfl fl_X12_141 rfl rfl rfl rfl (ok_aload_n 31 rfl rfl rfl (ok_iconst 32 rfl rfl (by decide) (ok_putI 33 rfl rfl fl_X12_144 rfl rfl rfl rfl ?_))))))
      rw [← e1]
      refine ok_iload_n 34 rfl rfl rfl (ok_iconst 35 rfl rfl (by decide) (ok_icmp_ne 36 79 rfl rfl rfl (fun h68 => ?_) (fun h68 => ?_)))
      · refine ok_iload_n 41 rfl rfl rfl (ok_i2l 42 rfl rfl (ok_ldc2 43 (48) rfl rfl kc_X12_150 (by decide) (ok_ldc2 44 (57) rfl rfl kc_X12_152 (by decide) (ok_callSI (M' := M_Mo_isIn) (as := [_, _, _]) 45 rfl rfl ml_X12_99 (s_Mo_isIn) ⟨Nat.le_of_ble_eq_true rfl, Nat.le_of_ble_eq_true rfl⟩ rfl (Nat.le_of_ble_eq_true rfl) (fun σ' w hw => ?_)))))
        obtain ⟨hs_, hw⟩ := hw
        rw [hs_]; clear hs_ σ'
        refine ok_if_eq 46 169 rfl rfl rfl (fun h90 => ?_) (fun h90 => ?_)
        · have hq : z = seeB τ (τ 0 13) := by rw [hz]; simp [seeB, up_if]
          have hl : τ 0 13 < τ 0 6 := seeB_lt (by omega)
          have hnd : ¬ (48 ≤ z ∧ z ≤ 57) := fun q => by rw [if_pos q] at hw; omega
          have s5 := sq (by omega)
          refine ok_aload_n 86 rfl rfl rfl (ok_iconst 87 rfl rfl (by decide) (ok_putI 88 rfl rfl fl_X12_147 rfl rfl rfl rfl (ok_aload_n 89 rfl rfl rfl (ok_iload_n 90 rfl rfl rfl (ok_putI 91 rfl rfl fl_X12_144 rfl rfl rfl rfl (ok_aload_n 92 rfl rfl rfl (ok_dup 93 rfl rfl rfl (ok_getI 94 rfl rfl fl_X12_132 rfl rfl (Or.inl rfl) (ok_iconst 95 rfl rfl (by decide) (ok_iadd 96 rfl rfl (by first | omega | (simp [up_if]; omega) | (simp [up_if] at *; omega)) (ok_putI 97 rfl rfl fl_X12_132 rfl rfl rfl rfl (ok_vret 98 rfl rfl rfl ?_))))))))))))
          refine ⟨rfl, ⟨fr_up (fr_up (fr_up g1 (by omega)) (by omega)) (by omega), by simp [up_if]; omega, by simp [up_if]; omega, by simp [up_if]; omega, by simp [up_if], by simp [up_if]; omega, by simp [up_if]; omega, by simp [up_if]; omega⟩, ?_⟩
          unfold LX
          rw [hsk]
          refine ⟨by simp [up_if, g12], Or.inr (Or.inr ⟨by omega, fun q => hnd (by have := q.2; omega), by simp [up_if], ?_, ?_⟩)⟩
          · simp [up_if]; omega
          · simp [up_if, g13]
        · refine ok_aload_n 47 rfl rfl rfl (ok_iconst 48 rfl rfl (by decide) (ok_putI 49 rfl rfl fl_X12_147 rfl rfl rfl rfl ?_))
          have hd : 48 ≤ z ∧ z ≤ 57 := by
            by_cases q : 48 ≤ z ∧ z ≤ 57
            · exact q
            · rw [if_neg q] at hw; omega
          have hz13 : z = seeB (up τ1 0 11 2) (τ 0 13) := by
            rw [hz, e1]; simp [seeB, up_if]
          refine lpO (fun _ : eS => [some (vr 0), some (vi z)]) (fun τ => τ) (fun ρ => fr (fun c k => c = 0 ∧ 11 ≤ k ∧ k ≤ 15) σ ρ ∧ ρ 0 11 = 2 ∧ ρ 0 12 = τ 0 13 ∧ (τ 0 13 < ρ 0 13 ∨ (ρ 0 13 = τ 0 13 ∧ 48 ≤ seeB ρ (ρ 0 13) ∧ seeB ρ (ρ 0 13) ≤ 57)) ∧ ρ 0 13 ≤ σ 0 6 ∧ 0 ≤ ρ 0 14 ∧ ρ 0 14 ≤ p10 (ρ 0 13 - ρ 0 12) ∧ (∀ j, τ 0 13 ≤ j → j < ρ 0 13 → dgA (σ 5) (σ 0 6) j) ∧ (ρ 0 13 - τ 0 13 ≤ 6 → ρ 0 14 = vaN (σ 5) (τ 0 13) (ρ 0 13 - τ 0 13).toNat)) (fun ρ => (600 - ρ 0 13).toNat) ?_ (up τ1 0 11 2) ⟨fr_up g1 (by omega), by simp [up_if], by simp [up_if]; omega, Or.inr ⟨by simp [up_if]; omega, by rw [up_nk _ _ _ _ (by decide), g13, ← hz13]; exact hd⟩, by simp [up_if]; omega, by simp [up_if]; omega, by simp [up_if, g12, g13, g14, p10], fun j a b => by rw [up_nk _ _ _ _ (by decide), g13] at b; omega, fun _ => by rw [up_nk _ _ _ _ (by decide), g14, up_nk _ _ _ _ (by decide), g13, Int.sub_self]; rfl⟩
          rintro ρ ⟨r1, r2, r3, r4, r5, r6, r7, r8, r9⟩ ihh
          have z5 : ρ 0 13 < σ 0 6 → seeB ρ (ρ 0 13) = σ 5 (ρ 0 13) := fun q => by unfold seeB; rw [if_pos (by have := r1 0 6 (by omega); omega)]; exact r1 5 _ (by omega)
          have nx : 48 ≤ seeB ρ (ρ 0 13) ∧ seeB ρ (ρ 0 13) ≤ 57 → ρ 0 13 < σ 0 6 → ∀ j, τ 0 13 ≤ j → j < ρ 0 13 + 1 → dgA (σ 5) (σ 0 6) j := fun a c j x y => by
            rcases (by omega : j < ρ 0 13 ∨ j = ρ 0 13) with q | q
            · exact r8 j x q
            · rw [q]; have := z5 c; exact ⟨c, by omega⟩
          have r0 : ρ 0 6 = σ 0 6 := r1 0 6 (by omega)
          have rp := p10_le (ρ 0 13 - ρ 0 12)
          refine ok_aload_n 50 rfl rfl rfl (ok_aload_n 51 rfl rfl rfl (ok_getI 52 rfl rfl fl_X12_132 rfl rfl (Or.inl rfl) (ok_callVI (M' := M_Mo_see) (as := [_]) 53 rfl rfl ml_X12_135 (s_Mo_see (by omega) (by omega)) rfl rfl (Nat.le_of_ble_eq_true rfl) ⟨Nat.le_of_ble_eq_true rfl, Nat.le_of_ble_eq_true rfl⟩ rfl (Nat.le_of_ble_eq_true rfl) (fun σ' z hz => ?_))))
          rw [hz.1, hz.2]
          clear hz z σ'
          refine ok_i2l 54 rfl rfl (ok_ldc2 55 (48) rfl rfl kc_X12_150 (by decide) (ok_ldc2 56 (57) rfl rfl kc_X12_152 (by decide) (ok_callSI (M' := M_Mo_isIn) (as := [_, _, _]) 57 rfl rfl ml_X12_99 (s_Mo_isIn) ⟨Nat.le_of_ble_eq_true rfl, Nat.le_of_ble_eq_true rfl⟩ rfl (Nat.le_of_ble_eq_true rfl) (fun σ' w hw => ?_))))
          obtain ⟨hs_, hw⟩ := hw
          rw [hs_]; clear hs_ σ'
          refine ok_if_eq 58 189 rfl rfl rfl (fun h116 => ?_) (fun h116 => ?_)
          · refine ok_vret 98 rfl rfl rfl ?_
            have hn : ¬ (48 ≤ seeB ρ (ρ 0 13) ∧ seeB ρ (ρ 0 13) ≤ 57) := fun q => by rw [if_pos q] at hw; omega
            have ht : τ 0 13 < ρ 0 13 := by omega
            have hdq := r8 (τ 0 13) (Int.le_refl _) ht
            have hde : de (σ 5) (σ 0 6) (τ 0 13) = ρ 0 13 := de_un (by omega) r8 (fun q => hn (by have := z5 q.1; have := q.2; omega))
            refine ⟨rfl, ⟨r1, by omega, by omega, by omega, by omega, fun _ => by omega, by omega, by omega⟩, ?_⟩
            unfold LX
            rw [hsk, hde]
            exact ⟨r3, Or.inr (Or.inl ⟨hdq, r2, rfl, r9⟩)⟩
          · have hd : 48 ≤ seeB ρ (ρ 0 13) ∧ seeB ρ (ρ 0 13) ≤ 57 := by
              by_cases q : 48 ≤ seeB ρ (ρ 0 13) ∧ seeB ρ (ρ 0 13) ≤ 57
              · exact q
              · rw [if_neg q] at hw; omega
            have hl : ρ 0 13 < ρ 0 6 := seeB_lt (by omega)
            refine ok_aload_n 59 rfl rfl rfl (ok_getI 60 rfl rfl fl_X12_132 rfl rfl (Or.inl rfl) (ok_aload_n 61 rfl rfl rfl (ok_getI 62 rfl rfl fl_X12_138 rfl rfl (Or.inl rfl) (ok_isub 63 rfl rfl (by first | omega | (simp [up_if]; omega) | (simp [up_if] at *; omega)) (ok_bipush 64 rfl rfl (by decide) (by decide) (ok_icmp_ge 65 156 rfl rfl rfl (fun h130 => ?_) (fun h130 => ?_)))))))
            · refine ok_aload_n 79 rfl rfl rfl (ok_dup 80 rfl rfl rfl (ok_getI 81 rfl rfl fl_X12_132 rfl rfl (Or.inl rfl) (ok_iconst 82 rfl rfl (by decide) (ok_iadd 83 rfl rfl (by first | omega | (simp [up_if]; omega) | (simp [up_if] at *; omega)) (ok_putI 84 rfl rfl fl_X12_132 rfl rfl rfl rfl (ok_goto 85 98 rfl rfl rfl ?_))))))
              refine ihh _ ⟨fr_up r1 (by omega), by simp [up_if]; omega, by simp [up_if]; omega, Or.inl (by rw [up_same]; omega), by rw [up_same]; omega, by simp [up_if]; omega, ?_, by rw [up_same]; exact nx hd (by omega), fun q => by rw [up_same] at q; omega⟩ (by rw [up_same]; omega)
              rw [up_same, up_nk _ _ _ _ (by decide), up_nk _ _ _ _ (by decide), p10_m (by omega)]
              rw [p10_m (by omega)] at r7
              exact r7
            · refine ok_aload_n 66 rfl rfl rfl (ok_bipush 67 rfl rfl (by decide) (by decide) (ok_aload_n 68 rfl rfl rfl (ok_getI 69 rfl rfl fl_X12_141 rfl rfl (Or.inl rfl) (ok_imul 70 rfl rfl (by first | omega | (simp [up_if]; omega) | (simp [up_if] at *; omega)) (ok_aload_n 71 rfl rfl rfl (ok_aload_n 72 rfl rfl rfl (ok_getI 73 rfl rfl fl_X12_132 rfl rfl (Or.inl rfl) (ok_callVI (M' := M_Mo_see) (as := [_]) 74 rfl rfl ml_X12_135 (s_Mo_see (by omega) (by omega)) rfl rfl (Nat.le_of_ble_eq_true rfl) ⟨Nat.le_of_ble_eq_true rfl, Nat.le_of_ble_eq_true rfl⟩ rfl (Nat.le_of_ble_eq_true rfl) (fun σ' z hz => ?_)))))))))
              rw [hz.1, hz.2]
              clear hz z σ'
              refine ok_iadd 75 rfl rfl (by first | omega | (simp [up_if]; omega) | (simp [up_if] at *; omega)) (ok_bipush 76 rfl rfl (by decide) (by decide) (ok_isub 77 rfl rfl (by first | omega | (simp [up_if]; omega) | (simp [up_if] at *; omega)) (ok_putI 78 rfl rfl fl_X12_141 rfl rfl rfl rfl (ok_aload_n 79 rfl rfl rfl (ok_dup 80 rfl rfl rfl (ok_getI 81 rfl rfl fl_X12_132 rfl rfl (Or.inl rfl) (ok_iconst 82 rfl rfl (by decide) (ok_iadd 83 rfl rfl (by first | omega | (simp [up_if]; omega) | (simp [up_if] at *; omega)) (ok_putI 84 rfl rfl fl_X12_132 rfl rfl rfl rfl (ok_goto 85 98 rfl rfl rfl ?_))))))))))
              have hp := p10_s (d := ρ 0 13 - ρ 0 12) (x := ρ 0 14) (c := seeB ρ (ρ 0 13) - 48) (by omega) (by omega) r7 (by omega)
              refine ihh _ ⟨fr_up (fr_up r1 (by omega)) (by omega), by simp [up_if]; omega, by simp [up_if]; omega, Or.inl (by simp [up_if]; omega), by simp [up_if]; omega, by simp [up_if]; omega, ?_, by rw [up_same]; exact nx hd (by omega), fun q => ?_⟩ (by simp [up_if]; omega)
              · have e : ρ 0 13 + 1 - ρ 0 12 = ρ 0 13 - ρ 0 12 + 1 := by omega
                simp [up_if, e]
                omega
              · rw [up_same, up_nk _ _ _ _ (by decide), up_same, up_nk _ _ _ _ (by decide : (13 : Int) ≠ 14), show ρ 0 13 + 1 - τ 0 13 = (ρ 0 13 - τ 0 13) + 1 by omega, vaN_s (by omega), ← r9 (by omega), show τ 0 13 + (ρ 0 13 - τ 0 13) = ρ 0 13 by omega, ← z5 (by omega)]
                omega
      · have hq : z = seeB τ (τ 0 13) := by rw [hz]; simp [seeB, up_if]
        refine ok_aload_n 37 rfl rfl rfl (ok_iconst 38 rfl rfl (by decide) (ok_putI 39 rfl rfl fl_X12_147 rfl rfl rfl rfl (ok_goto 40 189 rfl rfl rfl (ok_vret 98 rfl rfl rfl ?_))))
        refine ⟨rfl, ⟨fr_up g1 (by omega), by simp [up_if]; omega, by simp [up_if]; omega, by simp [up_if]; omega, by simp [up_if], by simp [up_if], by simp [up_if]; omega, by simp [up_if]; omega⟩, ?_⟩
        have hl : ¬ τ 0 13 < σ 0 6 := fun q => by have := sq q; have := hby (τ 0 13) (by omega) q; omega
        unfold LX
        rw [hsk]
        exact ⟨by rw [up_nk _ _ _ _ (by decide), g12], Or.inl ⟨hl, up_same _ _ _ _, by rw [up_nk _ _ _ _ (by decide), g13]⟩⟩
    · have hl : τ 0 13 < τ 0 6 := seeB_lt (by omega)
      refine ok_aload_n 12 rfl rfl rfl (ok_dup 13 rfl rfl rfl (ok_getI 14 rfl rfl fl_X12_132 rfl rfl (Or.inl rfl) (ok_iconst 15 rfl rfl (by decide) (ok_iadd 16 rfl rfl (by first | omega | (simp [up_if]; omega) | (simp [up_if] at *; omega)) (ok_putI 17 rfl rfl fl_X12_132 rfl rfl rfl rfl (ok_goto 18 0 rfl rfl rfl ?_))))))
      refine ih _ ⟨fr_up f ⟨rfl, rfl⟩, by rw [up_same]; omega, by rw [up_same]; omega, fun j a b => ?_⟩ (by rw [up_same]; omega)
      rw [up_same] at b
      rcases (by omega : j < τ 0 13 ∨ j = τ 0 13) with q | q
      · exact hbl j a q
      · rw [q]
        have := sq (by omega)
        exact ⟨by omega, by omega⟩
end
section
theorem t_Mo_fails {σ : eS} {k : Int} (h0 : σ 0 9 = 0) : MtI shB M_Mo_fails [vr 0, vi k] σ (fun σ' z => z = 0 ∧ σ' = up (up σ 0 9 k) 0 10 (σ 0 12)) := by
  refine Mt.of okM_Mo_fails (Nat.le_of_ble_eq_true rfl) (fun hk hg => ?_)
  refine ok_aload_n 0 rfl rfl rfl (ok_getI 1 rfl rfl fl_X12_154 rfl rfl (Or.inl rfl) (ok_if_ne 2 20 rfl rfl rfl (fun h4 => ?_) (fun h4 => ?_)))
  · exact absurd h0 h4
  · refine ok_aload_n 3 rfl rfl rfl (ok_iload_n 4 rfl rfl rfl (ok_putI 5 rfl rfl fl_X12_154 rfl rfl rfl rfl (ok_aload_n 6 rfl rfl rfl (ok_aload_n 7 rfl rfl rfl (ok_getI 8 rfl rfl fl_X12_138 rfl rfl (Or.inl rfl) (ok_putI 9 rfl rfl fl_X12_157 rfl rfl rfl rfl (ok_iconst 10 rfl rfl (by decide) (ok_zret 11 rfl rfl rfl (by first | omega | (simp [up_if]; omega) | (simp [up_if] at *; omega)) ?_))))))))
    exact ⟨_, rfl, rfl, by rw [up_nk _ _ _ _ (by decide : (12 : Int) ≠ 9)]⟩
/-- a state that stands at a piece -/
def TK (τ : eS) : Prop := sk (τ 5) (τ 0 6) (τ 0 12) = τ 0 12 ∧ ((¬ τ 0 12 < τ 0 6 ∧ τ 0 11 = 0 ∧ τ 0 13 = τ 0 12) ∨ (dgA (τ 5) (τ 0 6) (τ 0 12) ∧ τ 0 11 = 2 ∧ τ 0 13 = de (τ 5) (τ 0 6) (τ 0 12) ∧ (de (τ 5) (τ 0 6) (τ 0 12) - τ 0 12 ≤ 6 → τ 0 14 = vaD (τ 5) (τ 0 12) (de (τ 5) (τ 0 6) (τ 0 12)))) ∨ (τ 0 12 < τ 0 6 ∧ ¬ dgA (τ 5) (τ 0 6) (τ 0 12) ∧ τ 0 11 = 3 ∧ τ 0 15 = τ 5 (τ 0 12) ∧ τ 0 13 = τ 0 12 + 1))
theorem TK_of {σ τ : eS} (hl : lex σ τ) (h : LX σ τ) : TK τ ∧ τ 0 12 = sk (σ 5) (σ 0 6) (σ 0 13) ∧ τ 5 = σ 5 ∧ τ 0 6 = σ 0 6 := by
  have e5 : τ 5 = σ 5 := by funext j; exact hl.1 5 j (by omega)
  have e6 : τ 0 6 = σ 0 6 := hl.1 0 6 (by omega)
  obtain ⟨h1, h2⟩ := h
  refine ⟨?_, h1, e5, e6⟩
  unfold TK
  rw [e5, e6, h1]
  exact ⟨sk_id, h2⟩
def rdA (τ : eS) : Int → Int := fun j => τ 6 j / (Int.gcd (τ 7 j) (τ 6 j) : Int)
def rdU (τ : eS) : Int → Int := fun j => τ 7 j / (Int.gcd (τ 7 j) (τ 6 j) : Int)
/-- what is left to read, from this piece, with k fractions of the row read -/
def PB (τ : eS) (k : Int) : oA := PR (τ 5) (τ 0 6) (τ 0 12) (τ 0 18) k (τ 0 19) (rdA τ) (rdU τ)
def byt (τ : eS) : Prop := ∀ k : Int, 0 ≤ k → k < τ 0 6 → 0 ≤ τ 5 k
theorem rd_up {σ τ : eS} {i a u : Int} (h6 : τ 6 = uf (σ 6) i a) (h7 : τ 7 = uf (σ 7) i u) : rdA τ = uf (rdA σ) i (a / (Int.gcd u a : Int)) ∧ rdU τ = uf (rdU σ) i (u / (Int.gcd u a : Int)) := by
  constructor <;> funext j <;> simp only [rdA, rdU, h6, h7, uf] <;> split <;> rfl
theorem uf2 (f : Int → Int) (k a b : Int) : uf (uf f k a) k b = uf f k b := by funext j; simp only [uf]; split <;> rfl
/-- a fraction read, of the reference -/
def KB (σ : eS) (k : Int) (σ' : eS) (z : Int) : Prop := (z = 1 ∧ TK σ' ∧ PB σ' (k + 1) = PB σ k ∧ σ' 0 10 = σ 0 10) ∨ (z = 0 ∧ (PB σ k).1 = σ' 0 9 ∧ (PB σ k).2.1 = σ' 0 10)
theorem fl_of {τ σ' : eS} {c z : Int} (hc : c ≠ 0) (h : z = 0 ∧ σ' = up (up τ 0 9 c) 0 10 (τ 0 12)) : (z = 0 ∧ fr (fun c k => c = 0 ∧ (k = 9 ∨ k = 10)) τ σ' ∧ σ' 0 9 ≠ 0) ∧ σ' 0 9 = c ∧ σ' 0 10 = τ 0 12 := by
  obtain ⟨hz, e⟩ := h
  subst e
  refine ⟨⟨hz, fr_up (fr_up fr.rf (by omega)) (by omega), by simp [up_if]; exact hc⟩, by simp [up_if], by simp [up_if]⟩
theorem nn_of {P : Prop} {z : Int} (h : (z = 1 ∧ P) ∨ (z = 0 ∧ ¬ P)) (h0 : z = 0) : ¬ P := h.elim (fun q => absurd q.1 (by omega)) (fun q => q.2)
theorem t_Mo_readFraction {σ : eS} {k : Int} (h : Pz σ) (hk0 : 0 ≤ k ∧ k ≤ 8) (hr : 0 ≤ σ 0 18 ∧ σ 0 18 ≤ 7) (hT : TK σ) (hby : byt σ) (hb0 : σ 0 9 = 0) (hk1 : σ 0 11 = 0 → 0 < k) (hs : σ 0 11 = 3 → σ 0 15 ≠ 59) : MtI shB M_Mo_readFraction [vr 0, vi k] σ (fun σ' z => QrF σ k σ' z ∧ KB σ k σ' z) := by
  refine Mt.of okM_Mo_readFraction (Nat.le_of_ble_eq_true rfl) (fun hk hg => ?_)
  have hfail : ∀ (τ σ' : eS) (z c : Int), fr rgF σ τ → Pz τ → c ≠ 0 → (PB σ k).1 = c → (PB σ k).2.1 = τ 0 12 → z = 0 ∧ σ' = up (up τ 0 9 c) 0 10 (τ 0 12) → QrF σ k σ' z ∧ KB σ k σ' z := fun τ σ' z c f0 p0 hc e1 e2 hz0 => by
    obtain ⟨hz, x1, x2⟩ := fl_of hc hz0
    exact ⟨⟨f0.tr (hz.2.1.mono (fun c k q => by simp only [rgF]; omega)), p0.fr (hz.2.1.mono (fun c k q => by omega)), Or.inl ⟨hz.1, hz.2.2⟩⟩, Or.inr ⟨hz.1, by rw [e1, x1], by rw [e2, x2]⟩⟩
  obtain ⟨h1, h2, h3, h4, h5, h6, h7, h8⟩ := id h
  obtain ⟨hq0, hT1⟩ := id hT
  have P1 : ¬ numB σ → PB σ k = (1, σ 0 12, σ 0 18, σ 0 19, rdA σ, rdU σ) := fun hn => by
    unfold PB
    rcases hT1 with ⟨a1, a2, a3⟩ | ⟨a1, a2, a3, a4⟩ | ⟨a1, a2, a3, a4, a5⟩
    · rw [PR_end hq0 a1, if_pos (hk1 a2), show σ 0 6 = σ 0 12 by omega]
    · rw [PR_dig hq0 a1.1 a1.2 rfl, if_pos (by unfold numB at hn; omega)]
    · exact PR_bad hq0 a1 (by have := hs a3; omega) (fun q => a2 ⟨a1, q⟩)
  refine ok_aload_n 0 rfl rfl rfl (ok_callVI (M' := M_Mo_isNumber) (as := []) 1 rfl rfl ml_X12_160 (s_Mo_isNumber h) rfl rfl (Nat.le_of_ble_eq_true rfl) ⟨Nat.le_of_ble_eq_true rfl, Nat.le_of_ble_eq_true rfl⟩ rfl (Nat.le_of_ble_eq_true rfl) (fun σ' z hz => ?_))
  obtain ⟨hs_, hz⟩ := hz
  rw [hs_]; clear hs_ σ'
  refine ok_if_ne 2 13 rfl rfl rfl (fun h4 => ?_) (fun h4 => ?_)
  · have hn : numB σ := by
      rcases hz with q | q
      · exact q.2
      · omega
    clear hz P1
    have hd : dgA (σ 5) (σ 0 6) (σ 0 12) := by
      have := hn.1
      rcases hT1 with ⟨a1, a2, a3⟩ | ⟨a1, a2, a3, a4⟩ | ⟨a1, a2, a3, a4, a5⟩
      · omega
      · exact a1
      · omega
    obtain ⟨e, he⟩ : ∃ e, e = σ 0 13 := ⟨_, rfl⟩
    obtain ⟨a, ha⟩ : ∃ a, a = σ 0 14 := ⟨_, rfl⟩
    have hde : de (σ 5) (σ 0 6) (σ 0 12) = e ∧ vaD (σ 5) (σ 0 12) e = a := by
      have := hn.1
      rcases hT1 with ⟨a1, a2, a3⟩ | ⟨a1, a2, a3, a4⟩ | ⟨a1, a2, a3, a4, a5⟩
      · omega
      · rw [← a3, ← he] at a4
        rw [← ha] at a4
        exact ⟨by rw [he]; exact a3.symm, (a4 (by have := hn.2; omega)).symm⟩
      · omega
    have hP := PR_dig (r := σ 0 18) (k := k) (w := σ 0 19) (ab := rdA σ) (un := rdU σ) hq0 hd.1 hd.2 hde.1
    rw [if_neg (by have := hn.2; omega), hde.2] at hP
    have P3 : k = 8 → PB σ k = (3, σ 0 12, σ 0 18, σ 0 19, rdA σ, rdU σ) := fun q => by unfold PB; rw [hP, if_pos (Or.inr q)]
    have P4 : k ≠ 8 → 0 < σ 0 18 → k = σ 0 19 → PB σ k = (4, σ 0 12, σ 0 18, σ 0 19, rdA σ, rdU σ) := fun q1 q2 q3 => by unfold PB; rw [hP, if_neg (by omega), if_pos ⟨q2, q3⟩]
    refine ok_iload_n 7 rfl rfl rfl (ok_bipush 8 rfl rfl (by decide) (by decide) (ok_icmp_ne 9 25 rfl rfl rfl (fun h16 => ?_) (fun h16 => ?_)))
    · refine ok_aload_n 14 rfl rfl rfl (ok_getI 15 rfl rfl fl_X12_167 rfl rfl (Or.inl rfl) (ok_if_le 16 46 rfl rfl rfl (fun h29 => ?_) (fun h29 => ?_)))
      · have hw : 0 < σ 0 18 → k ≠ σ 0 19 := by omega
        rw [if_neg (by omega), if_neg (by omega)] at hP
        clear P3 P4
        have hix : 8 * σ 0 18 + k = σ 0 18 * 8 + k := by omega
        refine ok_bipush 25 rfl rfl (by decide) (by decide) (ok_aload_n 26 rfl rfl rfl (ok_getI 27 rfl rfl fl_X12_167 rfl rfl (Or.inl rfl) (ok_imul 28 rfl rfl (by first | omega | (have q1 := f2 0 18; have q2 := f2 0 19; omega)) (ok_iload_n 29 rfl rfl rfl (ok_iadd 30 rfl rfl (by first | omega | (have q1 := f2 0 18; have q2 := f2 0 19; omega)) (ok_ist2 31 rfl rfl rfl (ok_aload_n 32 rfl rfl rfl (ok_getR 33 rfl rfl fl_X12_30 rfl rfl (ok_iload_n 34 rfl rfl rfl (ok_aload_n 35 rfl rfl rfl (ok_getI 36 rfl rfl fl_X12_141 rfl rfl (Or.inl rfl) (ok_iast 37 rfl rfl rfl (by first | omega | (have q1 := f2 0 18; have q2 := f2 0 19; omega)) (ok_aload_n 38 rfl rfl rfl (ok_getR 39 rfl rfl fl_X12_33 rfl rfl (ok_iload_n 40 rfl rfl rfl (ok_iconst 41 rfl rfl (by decide) (ok_iast 42 rfl rfl rfl (by first | omega | (have q1 := f2 0 18; have q2 := f2 0 19; omega)) ?_)))))))))))))))))
        obtain ⟨τ, e1⟩ : ∃ x, x = up (up σ 6 (8 * σ 0 18 + k) (σ 0 14)) 7 (8 * σ 0 18 + k) 1 := ⟨_, rfl⟩
        have f1 : fr rgF σ τ := by rw [e1]; exact fr_up (fr_up fr.rf (by simp [rgF])) (by simp [rgF])
        have pt : Pz τ := h.fr (by rw [e1]; exact fr_up (fr_up fr.rf (by omega)) (by omega))
        have u1 : uOk τ (8 * σ 0 18 + k) := by rw [e1]; unfold uOk; simp [up_if]; omega
        have o1 : ∀ j, j ≠ 8 * σ 0 18 + k → τ 6 j = σ 6 j ∧ τ 7 j = σ 7 j := fun j hj => by rw [e1]; simp [up_if, hj]
        have v6 : τ 6 = uf (σ 6) (σ 0 18 * 8 + k) a := by rw [e1, up_fn _ _ _ (by decide), up_uf, ← ha, hix]
        have v7 : τ 7 = uf (σ 7) (σ 0 18 * 8 + k) 1 := by rw [e1, up_uf, up_fn _ _ _ (by decide), hix]
        have t5 : τ 5 = σ 5 := by funext j; exact f1 5 j (by simp [rgF])
        have t6 : τ 0 6 = σ 0 6 := f1 0 6 (by simp [rgF])
        have t12 : τ 0 12 = σ 0 12 := by rw [e1]; simp [up_if]
        have t13 : τ 0 13 = σ 0 13 := by rw [e1]; simp [up_if]
        have t9 : τ 0 9 = σ 0 9 := by rw [e1]; simp [up_if]
        have t10 : τ 0 10 = σ 0 10 := by rw [e1]; simp [up_if]
        have by1 : ∀ k : Int, 0 ≤ k → k < τ 0 6 → 0 ≤ τ 5 k := by rw [t5, t6]; exact hby
        clear h
        first | (simp only [up_ne _ _ _ _ (show (0 : Nat) ≠ 6 by decide)]; rw [← e1]) | rw [← e1]
        clear e1
        refine ok_aload_n 43 rfl rfl rfl (ok_callVV (M' := M_Mo_next) (as := []) 44 rfl rfl ml_X12_173 (t_Mo_next pt.P0 by1) rfl rfl (Nat.le_of_ble_eq_true rfl) ⟨Nat.le_of_ble_eq_true rfl, Nat.le_of_ble_eq_true rfl⟩ rfl (Nat.le_of_ble_eq_true rfl) (fun τ1 hl0 => ?_))
        have hl := hl0.1
        obtain ⟨T1, i12, i5, i6⟩ := TK_of hl hl0.2
        rw [t5, t6, t13, ← he] at i12
        rw [t5] at i5
        rw [t6] at i6
        have p1 := Pz.of pt.P0 hl
        have f2 : fr rgF σ τ1 := f1.tr (hl.1.mono (fun c k q => by simp only [rgF]; omega))
        have l9 := hl.1 0 9 (by omega)
        have l10 := hl.1 0 10 (by omega)
        have l12 := hl.2.1
        have l7 : ∀ j, τ1 7 j = τ 7 j := fun j => hl.1 7 j (by omega)
        have l6 : ∀ j, τ1 6 j = τ 6 j := fun j => hl.1 6 j (by omega)
        have w6 : τ1 6 = uf (σ 6) (σ 0 18 * 8 + k) a := by rw [← v6]; funext j; exact l6 j
        have w7 : τ1 7 = uf (σ 7) (σ 0 18 * 8 + k) 1 := by rw [← v7]; funext j; exact l7 j
        have hfrom : σ 0 12 < σ 0 13 := h6 (by have := hn.1; omega)
        have i18 : τ1 0 18 = σ 0 18 := f2 0 18 (by simp [rgF])
        have i19 : τ1 0 19 = σ 0 19 := f2 0 19 (by simp [rgF])
        have N1 : (τ1 0 11 ≠ 3 ∨ τ1 0 15 ≠ 47) → KB σ k τ1 1 := fun q => by
          refine Or.inl ⟨rfl, T1, ?_, by omega⟩
          have hno : ¬ (sk (σ 5) (σ 0 6) e < σ 0 6 ∧ σ 5 (sk (σ 5) (σ 0 6) e) = 47) := fun qq => by
            obtain ⟨-, T2⟩ := T1
            rw [i5, i6, i12] at T2
            rcases T2 with ⟨a1, a2, a3⟩ | ⟨a1, a2, a3, a4⟩ | ⟨a1, a2, a3, a4, a5⟩
            · exact a1 qq.1
            · have := a1.2; omega
            · omega
          have ru := rd_up w6 w7
          unfold PB
          rw [hP, if_neg hno, i5, i6, i12, i18, i19, ru.1, ru.2]
        refine ok_aload_n 45 rfl rfl rfl (ok_getI 46 rfl rfl fl_X12_147 rfl rfl (Or.inl rfl) (ok_iconst 47 rfl rfl (by decide) (ok_icmp_ne 48 94 rfl rfl rfl (fun h82 => ?_) (fun h82 => ?_))))
        · refine ok_iconst 53 rfl rfl (by decide) (ok_zret 54 rfl rfl rfl (by first | omega | (simp [up_if]; omega) | (simp [up_if] at *; omega)) ?_)
          refine ⟨_, rfl, ⟨f2, p1, Or.inr ⟨rfl, by omega, by omega, by omega, hw, ?_, fun j hj => ?_⟩⟩, N1 (by omega)⟩
          · unfold uOk; rw [l7, l6]; exact u1
          · rw [l7, l6]; exact o1 j hj
        · refine ok_aload_n 49 rfl rfl rfl (ok_getI 50 rfl rfl fl_X12_144 rfl rfl (Or.inl rfl) (ok_bipush 51 rfl rfl (by decide) (by decide) (ok_icmp_eq 52 96 rfl rfl rfl (fun h91 => ?_) (fun h91 => ?_))))
          · have hs3 : τ1 0 11 = 3 ∧ τ1 0 15 = 47 := by omega
            clear N1
            have hS : (sk (σ 5) (σ 0 6) e < σ 0 6 ∧ σ 5 (sk (σ 5) (σ 0 6) e) = 47) ∧ τ1 0 13 = sk (σ 5) (σ 0 6) e + 1 := by
              obtain ⟨-, T2⟩ := T1
              rw [i5, i6, i12] at T2
              rcases T2 with ⟨a1, a2, a3⟩ | ⟨a1, a2, a3, a4⟩ | ⟨a1, a2, a3, a4, a5⟩
              · omega
              · omega
              · exact ⟨⟨a1, by omega⟩, a5⟩
            rw [if_pos hS.1] at hP
            obtain ⟨qq, hqq⟩ : ∃ x, x = sk (σ 5) (σ 0 6) (sk (σ 5) (σ 0 6) e + 1) := ⟨_, rfl⟩
            rw [← hqq] at hP
            have by2 : ∀ k : Int, 0 ≤ k → k < τ1 0 6 → 0 ≤ τ1 5 k := by rw [i5, i6]; exact hby
            refine ok_aload_n 55 rfl rfl rfl (ok_callVV (M' := M_Mo_next) (as := []) 56 rfl rfl ml_X12_173 (t_Mo_next p1.P0 by2) rfl rfl (Nat.le_of_ble_eq_true rfl) ⟨Nat.le_of_ble_eq_true rfl, Nat.le_of_ble_eq_true rfl⟩ rfl (Nat.le_of_ble_eq_true rfl) (fun τ2 hl0 => ?_))
            have hl2 := hl0.1
            obtain ⟨T2, j12, j5, j6⟩ := TK_of hl2 hl0.2
            rw [i5, i6, hS.2, ← hqq] at j12
            rw [i5] at j5
            rw [i6] at j6
            have p2 := Pz.of p1.P0 hl2
            have f3 : fr rgF σ τ2 := f2.tr (hl2.1.mono (fun c k q => by simp only [rgF]; omega))
            have m9 := hl2.1 0 9 (by omega)
            have m10 := hl2.1 0 10 (by omega)
            have m7 : ∀ j, τ2 7 j = τ1 7 j := fun j => hl2.1 7 j (by omega)
            have m6 : ∀ j, τ2 6 j = τ1 6 j := fun j => hl2.1 6 j (by omega)
            have m12 := hl2.2.1
            have k12 := p1.2.1
            have q14 : 0 ≤ τ2 0 14 ∧ τ2 0 14 ≤ 999999 := hl2.2.2.2.2.2.2
            have b2 : τ2 0 9 = 0 := by omega
            obtain ⟨-, T3⟩ := id T2
            rw [j5, j6, j12] at T3
            have D1 : ¬ numB τ2 → PB σ k = (1, qq, σ 0 18, σ 0 19, rdA σ, rdU σ) := fun hn2 => by
              unfold PB
              rw [hP, if_pos ?_]
              unfold numB at hn2
              rcases T3 with ⟨a1, a2, a3⟩ | ⟨a1, a2, a3, a4⟩ | ⟨a1, a2, a3, a4, a5⟩
              · exact Or.inl (fun q => a1 q.1)
              · exact Or.inr (by omega)
              · exact Or.inl a2
            have D2 : numB τ2 → (dgA (σ 5) (σ 0 6) qq ∧ de (σ 5) (σ 0 6) qq = τ2 0 13 ∧ ¬ (6 < τ2 0 13 - qq) ∧ vaD (σ 5) qq (τ2 0 13) = τ2 0 14) := fun hn2 => by
              unfold numB at hn2
              rcases T3 with ⟨a1, a2, a3⟩ | ⟨a1, a2, a3, a4⟩ | ⟨a1, a2, a3, a4, a5⟩
              · omega
              · rw [← a3] at a4; exact ⟨a1, a3.symm, by omega, (a4 (by omega)).symm⟩
              · omega
            refine ok_aload_n 57 rfl rfl rfl (ok_callVI (M' := M_Mo_isNumber) (as := []) 58 rfl rfl ml_X12_160 (s_Mo_isNumber p2) rfl rfl (Nat.le_of_ble_eq_true rfl) ⟨Nat.le_of_ble_eq_true rfl, Nat.le_of_ble_eq_true rfl⟩ rfl (Nat.le_of_ble_eq_true rfl) (fun σ' z hz => ?_))
            obtain ⟨hs_, hz⟩ := hz
            rw [hs_]; clear hs_ σ'
            refine ok_if_ne 59 113 rfl rfl rfl (fun h104 => ?_) (fun h104 => ?_)
            · have hn2 : numB τ2 := by
                rcases hz with q | q
                · exact q.2
                · omega
              clear hz D1
              obtain ⟨g1, g2, g3, g4⟩ := D2 hn2
              rw [g2, g4, if_neg (fun q => q.elim (fun q => q g1) g3)] at hP
              have D3 : τ2 0 14 = 0 → PB σ k = (2, qq, σ 0 18, σ 0 19, rdA σ, rdU σ) := fun q => by unfold PB; rw [hP, if_pos q]
              refine ok_aload_n 64 rfl rfl rfl (ok_getI 65 rfl rfl fl_X12_141 rfl rfl (Or.inl rfl) (ok_if_ne 66 126 rfl rfl rfl (fun h117 => ?_) (fun h117 => ?_)))
              · rw [if_neg (by omega)] at hP
                refine ok_aload_n 71 rfl rfl rfl (ok_getR 72 rfl rfl fl_X12_33 rfl rfl (ok_iload_n 73 rfl rfl rfl (ok_aload_n 74 rfl rfl rfl (ok_getI 75 rfl rfl fl_X12_141 rfl rfl (Or.inl rfl) (ok_iast 76 rfl rfl rfl (by first | omega | (have q1 := f2 0 18; have q2 := f2 0 19; omega)) ?_)))))
                obtain ⟨τ3, e3⟩ : ∃ x, x = up τ2 7 (8 * σ 0 18 + k) (τ2 0 14) := ⟨_, rfl⟩
                have p3 : Pz τ3 := p2.fr (by rw [e3]; exact fr_up fr.rf (by omega))
                have f4 : fr rgF σ τ3 := by rw [e3]; exact fr_up f3 (by simp [rgF])
                have u3 : uOk τ3 (8 * σ 0 18 + k) := by
                  rw [e3]; unfold uOk; simp [up_if]; rw [m6, l6]; have := u1; unfold uOk at this; omega
                have o3 : ∀ j, j ≠ 8 * σ 0 18 + k → τ3 6 j = σ 6 j ∧ τ3 7 j = σ 7 j := fun j hj => by
                  rw [e3]; simp [up_if, hj]; rw [m6, m7, l6, l7]; exact o1 j hj
                have x6 : τ3 6 = uf (σ 6) (σ 0 18 * 8 + k) a := by rw [e3, up_fn _ _ _ (by decide), ← w6]; funext j; exact m6 j
                have x7 : τ3 7 = uf (σ 7) (σ 0 18 * 8 + k) (τ2 0 14) := by rw [e3, up_uf, hix, show τ2 7 = uf (σ 7) (σ 0 18 * 8 + k) 1 by rw [← w7]; funext j; exact m7 j, uf2]
                have y5 : τ3 5 = σ 5 := by rw [e3, up_fn _ _ _ (by decide), j5]
                have y6 : τ3 0 6 = σ 0 6 := by rw [e3, up_ne _ _ _ _ (by decide), j6]
                have t39 : τ3 0 9 = τ2 0 9 := by rw [e3]; simp [up_if]
                have t310 : τ3 0 10 = τ2 0 10 := by rw [e3]; simp [up_if]
                have t313 : τ3 0 13 = τ2 0 13 := by rw [e3]; simp [up_if]
                have by3 : ∀ k : Int, 0 ≤ k → k < τ3 0 6 → 0 ≤ τ3 5 k := by rw [y5, y6]; exact hby
                rw [← e3]
                refine ok_aload_n 77 rfl rfl rfl (ok_callVV (M' := M_Mo_next) (as := []) 78 rfl rfl ml_X12_173 (t_Mo_next p3.P0 by3) rfl rfl (Nat.le_of_ble_eq_true rfl) ⟨Nat.le_of_ble_eq_true rfl, Nat.le_of_ble_eq_true rfl⟩ rfl (Nat.le_of_ble_eq_true rfl) (fun τ4 hl0 => ?_))
                have hl4 := hl0.1
                obtain ⟨T4, k12, k5, k6⟩ := TK_of hl4 hl0.2
                rw [y5, y6, t313] at k12
                rw [y5] at k5
                rw [y6] at k6
                have p4 := Pz.of p3.P0 hl4
                have n9 := hl4.1 0 9 (by omega)
                have n10 := hl4.1 0 10 (by omega)
                have n12 := hl4.2.1
                have k22 := p2.2.1
                refine ok_iconst 79 rfl rfl (by decide) (ok_zret 80 rfl rfl rfl (by first | omega | (simp [up_if]; omega) | (simp [up_if] at *; omega)) ?_)
                refine ⟨_, rfl, ⟨f4.tr (hl4.1.mono (fun c k q => by simp only [rgF]; omega)), p4, Or.inr ⟨rfl, by omega, by omega, by omega, hw, ?_, fun j hj => ?_⟩⟩, Or.inl ⟨rfl, T4, ?_, by omega⟩⟩
                · unfold uOk; rw [hl4.1 7 _ (by omega), hl4.1 6 _ (by omega)]; exact u3
                · rw [hl4.1 7 _ (by omega), hl4.1 6 _ (by omega)]; exact o3 j hj
                · have z6 : τ4 6 = uf (σ 6) (σ 0 18 * 8 + k) a := by rw [← x6]; funext j; exact hl4.1 6 j (by omega)
                  have z7 : τ4 7 = uf (σ 7) (σ 0 18 * 8 + k) (τ2 0 14) := by rw [← x7]; funext j; exact hl4.1 7 j (by omega)
                  have ru := rd_up z6 z7
                  have f5 : fr rgF σ τ4 := f4.tr (hl4.1.mono (fun c k q => by simp only [rgF]; omega))
                  unfold PB
                  rw [hP, k5, k6, k12, f5 0 18 (by simp [rgF]), f5 0 19 (by simp [rgF]), ru.1, ru.2]
                  exact PR_sk sk_id
              · refine ok_aload_n 67 rfl rfl rfl (ok_iconst 68 rfl rfl (by decide) (ok_callVI (M' := M_Mo_fails) (as := [_]) 69 rfl rfl ml_X12_164 (t_Mo_fails b2) rfl rfl (Nat.le_of_ble_eq_true rfl) ⟨Nat.le_of_ble_eq_true rfl, Nat.le_of_ble_eq_true rfl⟩ rfl (Nat.le_of_ble_eq_true rfl) (fun σ' z2 hz2 => ?_)))
                have hq := hfail τ2 σ' z2 2 f3 p2 (by decide) (by rw [D3 (by omega)]) (by rw [D3 (by omega), j12]) hz2
                refine ok_zret 70 rfl rfl rfl (by have := hz2.1; omega) ?_
                exact ⟨_, rfl, hq⟩
            · refine ok_aload_n 60 rfl rfl rfl (ok_iconst 61 rfl rfl (by decide) (ok_callVI (M' := M_Mo_fails) (as := [_]) 62 rfl rfl ml_X12_164 (t_Mo_fails b2) rfl rfl (Nat.le_of_ble_eq_true rfl) ⟨Nat.le_of_ble_eq_true rfl, Nat.le_of_ble_eq_true rfl⟩ rfl (Nat.le_of_ble_eq_true rfl) (fun σ' z2 hz2 => ?_)))
              have hq := hfail τ2 σ' z2 1 f3 p2 (by decide) (by rw [D1 (nn_of hz h104)]) (by rw [D1 (nn_of hz h104), j12]) hz2
              refine ok_zret 63 rfl rfl rfl (by have := hz2.1; omega) ?_
              exact ⟨_, rfl, hq⟩
          · refine ok_iconst 53 rfl rfl (by decide) (ok_zret 54 rfl rfl rfl (by first | omega | (simp [up_if]; omega) | (simp [up_if] at *; omega)) ?_)
            refine ⟨_, rfl, ⟨f2, p1, Or.inr ⟨rfl, by omega, by omega, by omega, hw, ?_, fun j hj => ?_⟩⟩, N1 (by omega)⟩
            · unfold uOk; rw [l7, l6]; exact u1
            · rw [l7, l6]; exact o1 j hj
      · refine ok_iload_n 17 rfl rfl rfl (ok_aload_n 18 rfl rfl rfl (ok_getI 19 rfl rfl fl_X12_170 rfl rfl (Or.inl rfl) (ok_icmp_ne 20 46 rfl rfl rfl (fun h37 => ?_) (fun h37 => ?_))))
        · have hw : 0 < σ 0 18 → k ≠ σ 0 19 := by omega
          rw [if_neg (by omega), if_neg (by omega)] at hP
          clear P3 P4
          have hix : 8 * σ 0 18 + k = σ 0 18 * 8 + k := by omega
          refine ok_bipush 25 rfl rfl (by decide) (by decide) (ok_aload_n 26 rfl rfl rfl (ok_getI 27 rfl rfl fl_X12_167 rfl rfl (Or.inl rfl) (ok_imul 28 rfl rfl (by first | omega | (have q1 := f2 0 18; have q2 := f2 0 19; omega)) (ok_iload_n 29 rfl rfl rfl (ok_iadd 30 rfl rfl (by first | omega | (have q1 := f2 0 18; have q2 := f2 0 19; omega)) (ok_ist2 31 rfl rfl rfl (ok_aload_n 32 rfl rfl rfl (ok_getR 33 rfl rfl fl_X12_30 rfl rfl (ok_iload_n 34 rfl rfl rfl (ok_aload_n 35 rfl rfl rfl (ok_getI 36 rfl rfl fl_X12_141 rfl rfl (Or.inl rfl) (ok_iast 37 rfl rfl rfl (by first | omega | (have q1 := f2 0 18; have q2 := f2 0 19; omega)) (ok_aload_n 38 rfl rfl rfl (ok_getR 39 rfl rfl fl_X12_33 rfl rfl (ok_iload_n 40 rfl rfl rfl (ok_iconst 41 rfl rfl (by decide) (ok_iast 42 rfl rfl rfl (by first | omega | (have q1 := f2 0 18; have q2 := f2 0 19; omega)) ?_)))))))))))))))))
          obtain ⟨τ, e1⟩ : ∃ x, x = up (up σ 6 (8 * σ 0 18 + k) (σ 0 14)) 7 (8 * σ 0 18 + k) 1 := ⟨_, rfl⟩
          have f1 : fr rgF σ τ := by rw [e1]; exact fr_up (fr_up fr.rf (by simp [rgF])) (by simp [rgF])
          have pt : Pz τ := h.fr (by rw [e1]; exact fr_up (fr_up fr.rf (by omega)) (by omega))
          have u1 : uOk τ (8 * σ 0 18 + k) := by rw [e1]; unfold uOk; simp [up_if]; omega
          have o1 : ∀ j, j ≠ 8 * σ 0 18 + k → τ 6 j = σ 6 j ∧ τ 7 j = σ 7 j := fun j hj => by rw [e1]; simp [up_if, hj]
          have v6 : τ 6 = uf (σ 6) (σ 0 18 * 8 + k) a := by rw [e1, up_fn _ _ _ (by decide), up_uf, ← ha, hix]
          have v7 : τ 7 = uf (σ 7) (σ 0 18 * 8 + k) 1 := by rw [e1, up_uf, up_fn _ _ _ (by decide), hix]
          have t5 : τ 5 = σ 5 := by funext j; exact f1 5 j (by simp [rgF])
          have t6 : τ 0 6 = σ 0 6 := f1 0 6 (by simp [rgF])
          have t12 : τ 0 12 = σ 0 12 := by rw [e1]; simp [up_if]
          have t13 : τ 0 13 = σ 0 13 := by rw [e1]; simp [up_if]
          have t9 : τ 0 9 = σ 0 9 := by rw [e1]; simp [up_if]
          have t10 : τ 0 10 = σ 0 10 := by rw [e1]; simp [up_if]
          have by1 : ∀ k : Int, 0 ≤ k → k < τ 0 6 → 0 ≤ τ 5 k := by rw [t5, t6]; exact hby
          clear h
          first | (simp only [up_ne _ _ _ _ (show (0 : Nat) ≠ 6 by decide)]; rw [← e1]) | rw [← e1]
          clear e1
          refine ok_aload_n 43 rfl rfl rfl (ok_callVV (M' := M_Mo_next) (as := []) 44 rfl rfl ml_X12_173 (t_Mo_next pt.P0 by1) rfl rfl (Nat.le_of_ble_eq_true rfl) ⟨Nat.le_of_ble_eq_true rfl, Nat.le_of_ble_eq_true rfl⟩ rfl (Nat.le_of_ble_eq_true rfl) (fun τ1 hl0 => ?_))
          have hl := hl0.1
          obtain ⟨T1, i12, i5, i6⟩ := TK_of hl hl0.2
          rw [t5, t6, t13, ← he] at i12
          rw [t5] at i5
          rw [t6] at i6
          have p1 := Pz.of pt.P0 hl
          have f2 : fr rgF σ τ1 := f1.tr (hl.1.mono (fun c k q => by simp only [rgF]; omega))
          have l9 := hl.1 0 9 (by omega)
          have l10 := hl.1 0 10 (by omega)
          have l12 := hl.2.1
          have l7 : ∀ j, τ1 7 j = τ 7 j := fun j => hl.1 7 j (by omega)
          have l6 : ∀ j, τ1 6 j = τ 6 j := fun j => hl.1 6 j (by omega)
          have w6 : τ1 6 = uf (σ 6) (σ 0 18 * 8 + k) a := by rw [← v6]; funext j; exact l6 j
          have w7 : τ1 7 = uf (σ 7) (σ 0 18 * 8 + k) 1 := by rw [← v7]; funext j; exact l7 j
          have hfrom : σ 0 12 < σ 0 13 := h6 (by have := hn.1; omega)
          have i18 : τ1 0 18 = σ 0 18 := f2 0 18 (by simp [rgF])
          have i19 : τ1 0 19 = σ 0 19 := f2 0 19 (by simp [rgF])
          have N1 : (τ1 0 11 ≠ 3 ∨ τ1 0 15 ≠ 47) → KB σ k τ1 1 := fun q => by
            refine Or.inl ⟨rfl, T1, ?_, by omega⟩
            have hno : ¬ (sk (σ 5) (σ 0 6) e < σ 0 6 ∧ σ 5 (sk (σ 5) (σ 0 6) e) = 47) := fun qq => by
              obtain ⟨-, T2⟩ := T1
              rw [i5, i6, i12] at T2
              rcases T2 with ⟨a1, a2, a3⟩ | ⟨a1, a2, a3, a4⟩ | ⟨a1, a2, a3, a4, a5⟩
              · exact a1 qq.1
              · have := a1.2; omega
              · omega
            have ru := rd_up w6 w7
            unfold PB
            rw [hP, if_neg hno, i5, i6, i12, i18, i19, ru.1, ru.2]
          refine ok_aload_n 45 rfl rfl rfl (ok_getI 46 rfl rfl fl_X12_147 rfl rfl (Or.inl rfl) (ok_iconst 47 rfl rfl (by decide) (ok_icmp_ne 48 94 rfl rfl rfl (fun h82 => ?_) (fun h82 => ?_))))
          · refine ok_iconst 53 rfl rfl (by decide) (ok_zret 54 rfl rfl rfl (by first | omega | (simp [up_if]; omega) | (simp [up_if] at *; omega)) ?_)
            refine ⟨_, rfl, ⟨f2, p1, Or.inr ⟨rfl, by omega, by omega, by omega, hw, ?_, fun j hj => ?_⟩⟩, N1 (by omega)⟩
            · unfold uOk; rw [l7, l6]; exact u1
            · rw [l7, l6]; exact o1 j hj
          · refine ok_aload_n 49 rfl rfl rfl (ok_getI 50 rfl rfl fl_X12_144 rfl rfl (Or.inl rfl) (ok_bipush 51 rfl rfl (by decide) (by decide) (ok_icmp_eq 52 96 rfl rfl rfl (fun h91 => ?_) (fun h91 => ?_))))
            · have hs3 : τ1 0 11 = 3 ∧ τ1 0 15 = 47 := by omega
              clear N1
              have hS : (sk (σ 5) (σ 0 6) e < σ 0 6 ∧ σ 5 (sk (σ 5) (σ 0 6) e) = 47) ∧ τ1 0 13 = sk (σ 5) (σ 0 6) e + 1 := by
                obtain ⟨-, T2⟩ := T1
                rw [i5, i6, i12] at T2
                rcases T2 with ⟨a1, a2, a3⟩ | ⟨a1, a2, a3, a4⟩ | ⟨a1, a2, a3, a4, a5⟩
                · omega
                · omega
                · exact ⟨⟨a1, by omega⟩, a5⟩
              rw [if_pos hS.1] at hP
              obtain ⟨qq, hqq⟩ : ∃ x, x = sk (σ 5) (σ 0 6) (sk (σ 5) (σ 0 6) e + 1) := ⟨_, rfl⟩
              rw [← hqq] at hP
              have by2 : ∀ k : Int, 0 ≤ k → k < τ1 0 6 → 0 ≤ τ1 5 k := by rw [i5, i6]; exact hby
              refine ok_aload_n 55 rfl rfl rfl (ok_callVV (M' := M_Mo_next) (as := []) 56 rfl rfl ml_X12_173 (t_Mo_next p1.P0 by2) rfl rfl (Nat.le_of_ble_eq_true rfl) ⟨Nat.le_of_ble_eq_true rfl, Nat.le_of_ble_eq_true rfl⟩ rfl (Nat.le_of_ble_eq_true rfl) (fun τ2 hl0 => ?_))
              have hl2 := hl0.1
              obtain ⟨T2, j12, j5, j6⟩ := TK_of hl2 hl0.2
              rw [i5, i6, hS.2, ← hqq] at j12
              rw [i5] at j5
              rw [i6] at j6
              have p2 := Pz.of p1.P0 hl2
              have f3 : fr rgF σ τ2 := f2.tr (hl2.1.mono (fun c k q => by simp only [rgF]; omega))
              have m9 := hl2.1 0 9 (by omega)
              have m10 := hl2.1 0 10 (by omega)
              have m7 : ∀ j, τ2 7 j = τ1 7 j := fun j => hl2.1 7 j (by omega)
              have m6 : ∀ j, τ2 6 j = τ1 6 j := fun j => hl2.1 6 j (by omega)
              have m12 := hl2.2.1
              have k12 := p1.2.1
              have q14 : 0 ≤ τ2 0 14 ∧ τ2 0 14 ≤ 999999 := hl2.2.2.2.2.2.2
              have b2 : τ2 0 9 = 0 := by omega
              obtain ⟨-, T3⟩ := id T2
              rw [j5, j6, j12] at T3
              have D1 : ¬ numB τ2 → PB σ k = (1, qq, σ 0 18, σ 0 19, rdA σ, rdU σ) := fun hn2 => by
                unfold PB
                rw [hP, if_pos ?_]
                unfold numB at hn2
                rcases T3 with ⟨a1, a2, a3⟩ | ⟨a1, a2, a3, a4⟩ | ⟨a1, a2, a3, a4, a5⟩
                · exact Or.inl (fun q => a1 q.1)
                · exact Or.inr (by omega)
                · exact Or.inl a2
              have D2 : numB τ2 → (dgA (σ 5) (σ 0 6) qq ∧ de (σ 5) (σ 0 6) qq = τ2 0 13 ∧ ¬ (6 < τ2 0 13 - qq) ∧ vaD (σ 5) qq (τ2 0 13) = τ2 0 14) := fun hn2 => by
                unfold numB at hn2
                rcases T3 with ⟨a1, a2, a3⟩ | ⟨a1, a2, a3, a4⟩ | ⟨a1, a2, a3, a4, a5⟩
                · omega
                · rw [← a3] at a4; exact ⟨a1, a3.symm, by omega, (a4 (by omega)).symm⟩
                · omega
              refine ok_aload_n 57 rfl rfl rfl (ok_callVI (M' := M_Mo_isNumber) (as := []) 58 rfl rfl ml_X12_160 (s_Mo_isNumber p2) rfl rfl (Nat.le_of_ble_eq_true rfl) ⟨Nat.le_of_ble_eq_true rfl, Nat.le_of_ble_eq_true rfl⟩ rfl (Nat.le_of_ble_eq_true rfl) (fun σ' z hz => ?_))
              obtain ⟨hs_, hz⟩ := hz
              rw [hs_]; clear hs_ σ'
              refine ok_if_ne 59 113 rfl rfl rfl (fun h104 => ?_) (fun h104 => ?_)
              · have hn2 : numB τ2 := by
                  rcases hz with q | q
                  · exact q.2
                  · omega
                clear hz D1
                obtain ⟨g1, g2, g3, g4⟩ := D2 hn2
                rw [g2, g4, if_neg (fun q => q.elim (fun q => q g1) g3)] at hP
                have D3 : τ2 0 14 = 0 → PB σ k = (2, qq, σ 0 18, σ 0 19, rdA σ, rdU σ) := fun q => by unfold PB; rw [hP, if_pos q]
                refine ok_aload_n 64 rfl rfl rfl (ok_getI 65 rfl rfl fl_X12_141 rfl rfl (Or.inl rfl) (ok_if_ne 66 126 rfl rfl rfl (fun h117 => ?_) (fun h117 => ?_)))
                · rw [if_neg (by omega)] at hP
                  refine ok_aload_n 71 rfl rfl rfl (ok_getR 72 rfl rfl fl_X12_33 rfl rfl (ok_iload_n 73 rfl rfl rfl (ok_aload_n 74 rfl rfl rfl (ok_getI 75 rfl rfl fl_X12_141 rfl rfl (Or.inl rfl) (ok_iast 76 rfl rfl rfl (by first | omega | (have q1 := f2 0 18; have q2 := f2 0 19; omega)) ?_)))))
                  obtain ⟨τ3, e3⟩ : ∃ x, x = up τ2 7 (8 * σ 0 18 + k) (τ2 0 14) := ⟨_, rfl⟩
                  have p3 : Pz τ3 := p2.fr (by rw [e3]; exact fr_up fr.rf (by omega))
                  have f4 : fr rgF σ τ3 := by rw [e3]; exact fr_up f3 (by simp [rgF])
                  have u3 : uOk τ3 (8 * σ 0 18 + k) := by
                    rw [e3]; unfold uOk; simp [up_if]; rw [m6, l6]; have := u1; unfold uOk at this; omega
                  have o3 : ∀ j, j ≠ 8 * σ 0 18 + k → τ3 6 j = σ 6 j ∧ τ3 7 j = σ 7 j := fun j hj => by
                    rw [e3]; simp [up_if, hj]; rw [m6, m7, l6, l7]; exact o1 j hj
                  have x6 : τ3 6 = uf (σ 6) (σ 0 18 * 8 + k) a := by rw [e3, up_fn _ _ _ (by decide), ← w6]; funext j; exact m6 j
                  have x7 : τ3 7 = uf (σ 7) (σ 0 18 * 8 + k) (τ2 0 14) := by rw [e3, up_uf, hix, show τ2 7 = uf (σ 7) (σ 0 18 * 8 + k) 1 by rw [← w7]; funext j; exact m7 j, uf2]
                  have y5 : τ3 5 = σ 5 := by rw [e3, up_fn _ _ _ (by decide), j5]
                  have y6 : τ3 0 6 = σ 0 6 := by rw [e3, up_ne _ _ _ _ (by decide), j6]
                  have t39 : τ3 0 9 = τ2 0 9 := by rw [e3]; simp [up_if]
                  have t310 : τ3 0 10 = τ2 0 10 := by rw [e3]; simp [up_if]
                  have t313 : τ3 0 13 = τ2 0 13 := by rw [e3]; simp [up_if]
                  have by3 : ∀ k : Int, 0 ≤ k → k < τ3 0 6 → 0 ≤ τ3 5 k := by rw [y5, y6]; exact hby
                  rw [← e3]
                  refine ok_aload_n 77 rfl rfl rfl (ok_callVV (M' := M_Mo_next) (as := []) 78 rfl rfl ml_X12_173 (t_Mo_next p3.P0 by3) rfl rfl (Nat.le_of_ble_eq_true rfl) ⟨Nat.le_of_ble_eq_true rfl, Nat.le_of_ble_eq_true rfl⟩ rfl (Nat.le_of_ble_eq_true rfl) (fun τ4 hl0 => ?_))
                  have hl4 := hl0.1
                  obtain ⟨T4, k12, k5, k6⟩ := TK_of hl4 hl0.2
                  rw [y5, y6, t313] at k12
                  rw [y5] at k5
                  rw [y6] at k6
                  have p4 := Pz.of p3.P0 hl4
                  have n9 := hl4.1 0 9 (by omega)
                  have n10 := hl4.1 0 10 (by omega)
                  have n12 := hl4.2.1
                  have k22 := p2.2.1
                  refine ok_iconst 79 rfl rfl (by decide) (ok_zret 80 rfl rfl rfl (by first | omega | (simp [up_if]; omega) | (simp [up_if] at *; omega)) ?_)
                  refine ⟨_, rfl, ⟨f4.tr (hl4.1.mono (fun c k q => by simp only [rgF]; omega)), p4, Or.inr ⟨rfl, by omega, by omega, by omega, hw, ?_, fun j hj => ?_⟩⟩, Or.inl ⟨rfl, T4, ?_, by omega⟩⟩
                  · unfold uOk; rw [hl4.1 7 _ (by omega), hl4.1 6 _ (by omega)]; exact u3
                  · rw [hl4.1 7 _ (by omega), hl4.1 6 _ (by omega)]; exact o3 j hj
                  · have z6 : τ4 6 = uf (σ 6) (σ 0 18 * 8 + k) a := by rw [← x6]; funext j; exact hl4.1 6 j (by omega)
                    have z7 : τ4 7 = uf (σ 7) (σ 0 18 * 8 + k) (τ2 0 14) := by rw [← x7]; funext j; exact hl4.1 7 j (by omega)
                    have ru := rd_up z6 z7
                    have f5 : fr rgF σ τ4 := f4.tr (hl4.1.mono (fun c k q => by simp only [rgF]; omega))
                    unfold PB
                    rw [hP, k5, k6, k12, f5 0 18 (by simp [rgF]), f5 0 19 (by simp [rgF]), ru.1, ru.2]
                    exact PR_sk sk_id
                · refine ok_aload_n 67 rfl rfl rfl (ok_iconst 68 rfl rfl (by decide) (ok_callVI (M' := M_Mo_fails) (as := [_]) 69 rfl rfl ml_X12_164 (t_Mo_fails b2) rfl rfl (Nat.le_of_ble_eq_true rfl) ⟨Nat.le_of_ble_eq_true rfl, Nat.le_of_ble_eq_true rfl⟩ rfl (Nat.le_of_ble_eq_true rfl) (fun σ' z2 hz2 => ?_)))
                  have hq := hfail τ2 σ' z2 2 f3 p2 (by decide) (by rw [D3 (by omega)]) (by rw [D3 (by omega), j12]) hz2
                  refine ok_zret 70 rfl rfl rfl (by have := hz2.1; omega) ?_
                  exact ⟨_, rfl, hq⟩
              · refine ok_aload_n 60 rfl rfl rfl (ok_iconst 61 rfl rfl (by decide) (ok_callVI (M' := M_Mo_fails) (as := [_]) 62 rfl rfl ml_X12_164 (t_Mo_fails b2) rfl rfl (Nat.le_of_ble_eq_true rfl) ⟨Nat.le_of_ble_eq_true rfl, Nat.le_of_ble_eq_true rfl⟩ rfl (Nat.le_of_ble_eq_true rfl) (fun σ' z2 hz2 => ?_)))
                have hq := hfail τ2 σ' z2 1 f3 p2 (by decide) (by rw [D1 (nn_of hz h104)]) (by rw [D1 (nn_of hz h104), j12]) hz2
                refine ok_zret 63 rfl rfl rfl (by have := hz2.1; omega) ?_
                exact ⟨_, rfl, hq⟩
            · refine ok_iconst 53 rfl rfl (by decide) (ok_zret 54 rfl rfl rfl (by first | omega | (simp [up_if]; omega) | (simp [up_if] at *; omega)) ?_)
              refine ⟨_, rfl, ⟨f2, p1, Or.inr ⟨rfl, by omega, by omega, by omega, hw, ?_, fun j hj => ?_⟩⟩, N1 (by omega)⟩
              · unfold uOk; rw [l7, l6]; exact u1
              · rw [l7, l6]; exact o1 j hj
        · refine ok_aload_n 21 rfl rfl rfl (ok_iconst 22 rfl rfl (by decide) (ok_callVI (M' := M_Mo_fails) (as := [_]) 23 rfl rfl ml_X12_164 (t_Mo_fails hb0) rfl rfl (Nat.le_of_ble_eq_true rfl) ⟨Nat.le_of_ble_eq_true rfl, Nat.le_of_ble_eq_true rfl⟩ rfl (Nat.le_of_ble_eq_true rfl) (fun σ' z2 hz2 => ?_)))
          have hq := hfail σ σ' z2 4 fr.rf h (by decide) (by rw [P4 (by omega) (by omega) (by omega)]) (by rw [P4 (by omega) (by omega) (by omega)]) hz2
          refine ok_zret 24 rfl rfl rfl (by have := hz2.1; omega) ?_
          exact ⟨_, rfl, hq⟩
    · refine ok_aload_n 10 rfl rfl rfl (ok_iconst 11 rfl rfl (by decide) (ok_callVI (M' := M_Mo_fails) (as := [_]) 12 rfl rfl ml_X12_164 (t_Mo_fails hb0) rfl rfl (Nat.le_of_ble_eq_true rfl) ⟨Nat.le_of_ble_eq_true rfl, Nat.le_of_ble_eq_true rfl⟩ rfl (Nat.le_of_ble_eq_true rfl) (fun σ' z2 hz2 => ?_)))
      have hq := hfail σ σ' z2 3 fr.rf h (by decide) (by rw [P3 (by omega)]) (by rw [P3 (by omega)]) hz2
      refine ok_zret 13 rfl rfl rfl (by have := hz2.1; omega) ?_
      exact ⟨_, rfl, hq⟩
  · refine ok_aload_n 3 rfl rfl rfl (ok_iconst 4 rfl rfl (by decide) (ok_callVI (M' := M_Mo_fails) (as := [_]) 5 rfl rfl ml_X12_164 (t_Mo_fails hb0) rfl rfl (Nat.le_of_ble_eq_true rfl) ⟨Nat.le_of_ble_eq_true rfl, Nat.le_of_ble_eq_true rfl⟩ rfl (Nat.le_of_ble_eq_true rfl) (fun σ' z2 hz2 => ?_)))
    have hq := hfail σ σ' z2 1 fr.rf h (by decide) (by rw [P1 (nn_of hz h4)]) (by rw [P1 (nn_of hz h4)]) hz2
    refine ok_zret 6 rfl rfl rfl (by have := hz2.1; omega) ?_
    exact ⟨_, rfl, hq⟩
end
section
theorem TK.mo {σ σ' : eS} (h : TK σ) (f : fr (fun c k => (c ≠ 0 ∧ c ≠ 5) ∨ (c = 0 ∧ (k < 6 ∨ (6 < k ∧ k < 11) ∨ 15 < k))) σ σ') : TK σ' := by
  have e5 : σ' 5 = σ 5 := by funext j; exact f 5 j (by omega)
  unfold TK
  rw [e5, f 0 12 (by omega), f 0 13 (by omega), f 0 6 (by omega), f 0 11 (by omega), f 0 14 (by omega), f 0 15 (by omega)]
  exact h
/-- a row read, of the reference -/
def KR (σ σ' : eS) (z : Int) : Prop := (z = 1 ∧ TK σ' ∧ PB σ' 0 = PB σ 0 ∧ σ' 0 10 = σ 0 10) ∨ (z = 0 ∧ (PB σ 0).1 = σ' 0 9 ∧ (PB σ 0).2.1 = σ' 0 10)
theorem t_Mo_readRow {σ : eS} (h : Pz σ) (hr : RR σ) (hT : TK σ) (hby : byt σ) (hb0 : σ 0 9 = 0) (hs0 : σ 0 11 ≠ 0) : MtI shB M_Mo_readRow [vr 0] σ (fun σ' z => QrR σ σ' z ∧ KR σ σ' z) := by
  refine Mt.of okM_Mo_readRow (Nat.le_of_ble_eq_true rfl) (fun hk hg => ?_)
  have hfail : ∀ (τ σ' : eS) (z c : Int), fr rgR σ τ → Pz τ → c ≠ 0 → (PB σ 0).1 = c → (PB σ 0).2.1 = τ 0 12 → z = 0 ∧ σ' = up (up τ 0 9 c) 0 10 (τ 0 12) → QrR σ σ' z ∧ KR σ σ' z := fun τ σ' z c f0 p0 hc e1 e2 hz0 => by
    obtain ⟨hz, x1, x2⟩ := fl_of hc hz0
    exact ⟨⟨f0.tr (hz.2.1.mono (fun c k q => by simp only [rgR]; omega)), p0.fr (hz.2.1.mono (fun c k q => by omega)), Or.inl ⟨hz.1, hz.2.2⟩⟩, Or.inr ⟨hz.1, by rw [e1, x1], by rw [e2, x2]⟩⟩
  obtain ⟨hq0, hT1⟩ := id hT
  have P1 : ¬ numB σ → ¬ (σ 0 11 = 3 ∧ σ 0 15 = 59) → PB σ 0 = (1, σ 0 12, σ 0 18, σ 0 19, rdA σ, rdU σ) := fun hn hs => by
    unfold PB
    rcases hT1 with ⟨a1, a2, a3⟩ | ⟨a1, a2, a3, a4⟩ | ⟨a1, a2, a3, a4, a5⟩
    · exact absurd a2 hs0
    · rw [PR_dig hq0 a1.1 a1.2 rfl, if_pos (by unfold numB at hn; omega)]
    · exact PR_bad hq0 a1 (by omega) (fun q => a2 ⟨a1, q⟩)
  have P3 : (numB σ ∨ (σ 0 11 = 3 ∧ σ 0 15 = 59)) → σ 0 18 = 8 → PB σ 0 = (3, σ 0 12, σ 0 18, σ 0 19, rdA σ, rdU σ) := fun hn h8 => by
    unfold PB
    unfold numB at hn
    rcases hT1 with ⟨a1, a2, a3⟩ | ⟨a1, a2, a3, a4⟩ | ⟨a1, a2, a3, a4, a5⟩
    · exact absurd a2 hs0
    · rw [PR_dig hq0 a1.1 a1.2 rfl, if_neg (by omega), if_pos (Or.inl h8)]
    · rw [PR_59 hq0 a1 (by omega), if_pos h8]
  obtain ⟨h1, h2, h3, h4, h5, h6, h7, h8⟩ := id h
  obtain ⟨r1, r2, r3, r4, r5⟩ := id hr
  have tail : (numB σ ∨ (σ 0 11 = 3 ∧ σ 0 15 = 59)) → ∀ b : Int, Ok shB M_Mo_readRow 40 [some (vr 0), some (vi b), none] [] σ (fun σ' v => ∃ z, v = some (vi z) ∧ (QrR σ σ' z ∧ KR σ σ' z)) := by
    intro hs b
    have hlt := h6 hs0
    refine ok_aload_n 21 rfl rfl rfl (ok_getI 22 rfl rfl fl_X12_167 rfl rfl (Or.inl rfl) (ok_bipush 23 rfl rfl (by decide) (by decide) (ok_icmp_ne 24 55 rfl rfl rfl (fun h46 => ?_) (fun h46 => ?_))))
    · refine ok_iconst 29 rfl rfl (by decide) (ok_ist2 30 rfl rfl rfl ?_)
      refine lpO (fun q : Int × eS => [some (vr 0), some (vi b), some (vi q.1)]) (fun q => q.2) (fun q => 0 ≤ q.1 ∧ q.1 ≤ 8 ∧ fr rgF σ q.2 ∧ Pz q.2 ∧ (0 < q.1 → σ 0 12 < q.2 0 12) ∧ q.2 0 9 = σ 0 9 ∧ σ 0 12 ≤ q.2 0 12 ∧ (∀ j, 0 ≤ j → j < q.1 → uOk q.2 (8 * σ 0 18 + j)) ∧ (0 < σ 0 18 → q.1 ≤ σ 0 19) ∧ (∀ j, j < 8 * σ 0 18 → q.2 6 j = σ 6 j ∧ q.2 7 j = σ 7 j) ∧ TK q.2 ∧ PB q.2 q.1 = PB σ 0 ∧ (q.2 0 11 = 0 → 0 < q.1) ∧ q.2 0 10 = σ 0 10) (fun q => (700 - q.2 0 12).toNat) ?_ (0, σ) ⟨by omega, by omega, fr.rf, h, fun q => by omega, rfl, Int.le_refl _, fun j a b => by omega, fun _ => by omega, fun j _ => ⟨rfl, rfl⟩, hT, rfl, fun q => absurd q hs0, rfl⟩
      rintro ⟨n, τ⟩ ⟨i1, i2, i3, i4, i5, i6, i7, i8, i9, i10, i11, i12, i13, i14⟩ ih
      dsimp only at i1 i2 i3 i4 i5 i6 i7 i8 i9 i10 i11 i12 i13 i14 ih ⊢
      have e18 : τ 0 18 = σ 0 18 := i3 0 18 (by simp only [rgF]; omega)
      have e19 : τ 0 19 = σ 0 19 := i3 0 19 (by simp only [rgF]; omega)
      have e6 : τ 0 6 = σ 0 6 := i3 0 6 (by simp only [rgF]; omega)
      have f1 : fr rgR σ τ := i3.mono (fun c k q => by simp only [rgF] at q; simp only [rgR]; omega)
      have e5 : τ 5 = σ 5 := by funext j; exact i3 5 j (by simp [rgF])
      have P5 : (τ 0 11 = 3 ∧ τ 0 15 = 59) → τ 0 13 = τ 0 12 + 1 ∧ PB σ 0 = (if 0 < σ 0 18 ∧ n ≠ σ 0 19 then (4, τ 0 12, σ 0 18, σ 0 19, rdA τ, rdU τ) else PR (σ 5) (σ 0 6) (τ 0 12 + 1) (σ 0 18 + 1) 0 (if σ 0 18 = 0 then n else σ 0 19) (rdA τ) (rdU τ)) := fun q => by
        obtain ⟨x1, x2⟩ := i11
        rcases x2 with ⟨a1, a2, a3⟩ | ⟨a1, a2, a3, a4⟩ | ⟨a1, a2, a3, a4, a5⟩
        · omega
        · omega
        · refine ⟨a5, ?_⟩
          rw [← i12]
          unfold PB
          rw [PR_59 x1 a1 (by omega), e18, if_neg (by omega), e19, e5, e6]
      have by1 : byt τ := by unfold byt; rw [e5, e6]; exact hby
      refine ok_aload_n 31 rfl rfl rfl (ok_getI 32 rfl rfl fl_X12_147 rfl rfl (Or.inl rfl) (ok_iconst 33 rfl rfl (by decide) (ok_icmp_ne 34 74 rfl rfl rfl (fun h62 => ?_) (fun h62 => ?_))))
      · refine ok_aload_n 39 rfl rfl rfl (ok_iload_n 40 rfl rfl rfl (ok_callVI (M' := M_Mo_readFraction) (as := [_]) 41 rfl rfl ml_X12_176 (t_Mo_readFraction i4 ⟨i1, i2⟩ ⟨by omega, by omega⟩ i11 by1 (by omega) i13 (by omega)) rfl rfl (Nat.le_of_ble_eq_true rfl) ⟨Nat.le_of_ble_eq_true rfl, Nat.le_of_ble_eq_true rfl⟩ rfl (Nat.le_of_ble_eq_true rfl) (fun τ1 z hz0 => ?_)))
        obtain ⟨⟨z1, z2, z3⟩, z4⟩ := hz0
        have p12 := i4.1
        have p24 := z2.2.1
        have p25 := z2.2.2.1
        have g6 : τ1 0 6 = τ 0 6 := z1 0 6 (by simp only [rgF]; omega)
        refine ok_if_ne 42 84 rfl rfl rfl (fun h79 => ?_) (fun h79 => ?_)
        · refine ok_inc2 45 rfl rfl rfl (by first | omega | (simp [up_if]; omega) | (simp [up_if] at *; omega)) (ok_goto 46 57 rfl rfl rfl ?_)
          rcases z3 with ⟨q, -⟩ | ⟨-, y1, y2, y3, y4, y5, y6⟩
          · omega
          rcases z4 with ⟨-, x1, x2, x3⟩ | ⟨q, -⟩
          rotate_left 1
          · omega
          rw [e18] at y4 y5 y6
          rw [e19] at y4
          refine ih (n + 1, τ1) ⟨by dsimp only; omega, by dsimp only; omega, i3.tr z1, z2, fun _ => by dsimp only; omega, by dsimp only; omega, by dsimp only; omega, lt_ext (fun j a c => ?_) y5, fun q => by have := i9 q; have := y4 q; dsimp only; omega, fun j hj => ?_, x1, x2.trans i12, fun _ => by dsimp only; omega, x3.trans i14⟩ (by dsimp only; omega)
          · have := y6 (8 * σ 0 18 + j) (by omega)
            unfold uOk
            dsimp only
            rw [this.1, this.2]
            exact i8 j a c
          · have := y6 j (by omega)
            dsimp only
            rw [this.1, this.2]
            exact i10 j hj
        · refine ok_iconst 43 rfl rfl (by decide) (ok_zret 44 rfl rfl rfl (by first | omega | (simp [up_if]; omega) | (simp [up_if] at *; omega)) ?_)
          refine ⟨_, rfl, ⟨f1.tr (z1.mono (fun c k q => by simp only [rgF] at q; simp only [rgR]; omega)), z2, Or.inl ⟨rfl, by omega⟩⟩, ?_⟩
          rcases z4 with ⟨q, -⟩ | ⟨-, q1, q2⟩
          · omega
          · rw [i12] at q1 q2; exact Or.inr ⟨rfl, q1, q2⟩
      · refine ok_aload_n 35 rfl rfl rfl (ok_getI 36 rfl rfl fl_X12_144 rfl rfl (Or.inl rfl) (ok_bipush 37 rfl rfl (by decide) (by decide) (ok_icmp_eq 38 90 rfl rfl rfl (fun h71 => ?_) (fun h71 => ?_))))
        · refine ok_aload_n 47 rfl rfl rfl (ok_getI 48 rfl rfl fl_X12_167 rfl rfl (Or.inl rfl) (ok_if_ne 49 105 rfl rfl rfl (fun h94 => ?_) (fun h94 => ?_)))
          · refine ok_iload_n 54 rfl rfl rfl (ok_aload_n 55 rfl rfl rfl (ok_getI 56 rfl rfl fl_X12_170 rfl rfl (Or.inl rfl) (ok_icmp_eq 57 119 rfl rfl rfl (fun h110 => ?_) (fun h110 => ?_))))
            · obtain ⟨ρ, er⟩ : ∃ x : eS, x = (if σ 0 18 = 0 then up τ 0 19 n else τ) := ⟨_, rfl⟩
              have fρ : fr rgR σ ρ := by
                rw [er]; split
                · exact fr_up f1 (by simp [rgR])
                · exact f1
              have pρ : Pz ρ := by
                rw [er]; split
                · exact i4.fr (fr_up fr.rf (by omega))
                · exact i4
              have w19 : ρ 0 19 = n := by
                rw [er]; split
                · simp [up_if]
                · omega
              have w18 : ρ 0 18 = σ 0 18 := by
                rw [er]; split
                · simp [up_if]; exact e18
                · exact e18
              have w9 : ρ 0 9 = σ 0 9 := by
                rw [er]; split
                · simp [up_if]; exact i6
                · exact i6
              have w10 : ρ 0 10 = τ 0 10 := by
                rw [er]; split
                · simp [up_if]
                · rfl
              have w12 : ρ 0 12 = τ 0 12 := by
                rw [er]; split
                · simp [up_if]
                · rfl
              have w13 : ρ 0 13 = τ 0 13 := by
                rw [er]; split
                · simp [up_if]
                · rfl
              have w67 : ∀ j, ρ 6 j = τ 6 j ∧ ρ 7 j = τ 7 j := fun j => by
                rw [er]; split
                · simp [up_if]
                · exact ⟨rfl, rfl⟩
              have w5 : ρ 5 = τ 5 := by
                rw [er]; split
                · rw [up_fn _ _ _ (by decide)]
                · rfl
              have w6 : ρ 0 6 = τ 0 6 := by
                rw [er]; split
                · simp [up_if]
                · rfl
              have by2 : ∀ k : Int, 0 ≤ k → k < ρ 0 6 → 0 ≤ ρ 5 k := by rw [w5, w6]; exact by1
              obtain ⟨x1, x2⟩ := P5 (by omega)
              rw [if_neg (by omega)] at x2
              have wn : (if σ 0 18 = 0 then n else σ 0 19) = n := by split <;> omega
              rw [wn] at x2
              have uu : uRows ρ (σ 0 18 + 1) n := by
                intro i j a1 a2 a3 a4
                unfold uOk
                rw [(w67 _).1, (w67 _).2]
                by_cases q : i = σ 0 18
                · rw [q]; exact i8 j a3 a4
                · have := i10 (8 * i + j) (by omega)
                  rw [this.1, this.2]
                  exact r5 i j a1 (by omega) a3 (by have := i9 (by omega); omega)
              have t12 := i4.1
              have t13 : τ 0 12 < τ 0 13 := i4.2.2.2.2.2.1 (by omega)
              first | (have er' : up τ 0 19 n = ρ := by rw [er, if_pos (by omega)]
                       rw [er']) | (have er' : τ = ρ := by rw [er, if_neg (by omega)]
                                    rw [er'])
              clear er er'
              refine ok_aload_n 62 rfl rfl rfl (ok_callVV (M' := M_Mo_next) (as := []) 63 rfl rfl ml_X12_173 (t_Mo_next pρ.P0 by2) rfl rfl (Nat.le_of_ble_eq_true rfl) ⟨Nat.le_of_ble_eq_true rfl, Nat.le_of_ble_eq_true rfl⟩ rfl (Nat.le_of_ble_eq_true rfl) (fun τ1 hl0 => ?_))
              have hl := hl0.1
              obtain ⟨T1, j12, j5, j6⟩ := TK_of hl hl0.2
              rw [w5, e5, w6, e6, w13, x1] at j12
              rw [w5, e5] at j5
              rw [w6, e6] at j6
              have p1 := Pz.of pρ.P0 hl
              have l18 := hl.1 0 18 (by omega)
              have l19 := hl.1 0 19 (by omega)
              have l9 := hl.1 0 9 (by omega)
              have l12 := hl.2.1
              refine ok_aload_n 64 rfl rfl rfl (ok_dup 65 rfl rfl rfl (ok_getI 66 rfl rfl fl_X12_167 rfl rfl (Or.inl rfl) (ok_iconst 67 rfl rfl (by decide) (ok_iadd 68 rfl rfl (by first | omega | (simp [up_if]; omega) | (simp [up_if] at *; omega)) (ok_putI 69 rfl rfl fl_X12_167 rfl rfl rfl rfl (ok_iconst 70 rfl rfl (by decide) (ok_zret 71 rfl rfl rfl (by first | omega | (simp [up_if]; omega) | (simp [up_if] at *; omega)) ?_)))))))
              refine ⟨_, rfl, ⟨fr_up (fρ.tr (hl.1.mono (fun c k q => by simp only [rgR]; omega))) (by simp [rgR]), p1.fr (fr_up fr.rf (by omega)), Or.inr ⟨rfl, by simp [up_if]; omega, ?_, by simp [up_if]; omega⟩⟩, Or.inl ⟨rfl, T1.mo (fr_up fr.rf (by omega)), ?_, by rw [up_nk _ _ _ _ (by decide), hl.1 0 10 (by omega), w10]; exact i14⟩⟩
              rotate_left 1
              · rw [x2]
                unfold PB
                have z6 : τ1 6 = τ 6 := by funext j; rw [hl.1 6 j (by omega)]; exact (w67 j).1
                have z7 : τ1 7 = τ 7 := by funext j; rw [hl.1 7 j (by omega)]; exact (w67 j).2
                have ra : rdA (up τ1 0 18 (τ1 0 18 + 1)) = rdA τ := by unfold rdA; rw [up_fn _ _ _ (by decide), up_fn _ _ _ (by decide), z6, z7]
                have ru : rdU (up τ1 0 18 (τ1 0 18 + 1)) = rdU τ := by unfold rdU; rw [up_fn _ _ _ (by decide), up_fn _ _ _ (by decide), z6, z7]
                rw [ra, ru, up_fn _ _ _ (by decide), j5, up_nk _ _ _ _ (by decide), j6, up_nk _ _ _ _ (by decide), j12, up_same, up_nk _ _ _ _ (by decide), l18, l19, w18, w19]
                exact PR_sk sk_id
              refine ⟨by simp [up_if]; omega, by simp [up_if]; omega, by simp [up_if]; omega, by simp [up_if]; omega, ?_⟩
              intro i j a1 a2 a3 a4
              simp [up_if] at a2 a4
              unfold uOk
              rw [up_ne _ _ _ _ (by decide), up_ne _ _ _ _ (by decide), hl.1 7 _ (by omega), hl.1 6 _ (by omega)]
              exact uu i j a1 (by omega) a3 (by omega)
            · refine ok_aload_n 58 rfl rfl rfl (ok_iconst 59 rfl rfl (by decide) (ok_callVI (M' := M_Mo_fails) (as := [_]) 60 rfl rfl ml_X12_164 (t_Mo_fails (by omega)) rfl rfl (Nat.le_of_ble_eq_true rfl) ⟨Nat.le_of_ble_eq_true rfl, Nat.le_of_ble_eq_true rfl⟩ rfl (Nat.le_of_ble_eq_true rfl) (fun σ' z hz => ?_)))
              obtain ⟨-, x2⟩ := P5 (by omega)
              rw [if_pos (by omega)] at x2
              have hq := hfail τ σ' z 4 f1 i4 (by decide) (by rw [x2]) (by rw [x2]) hz
              refine ok_zret 61 rfl rfl rfl (by have := hz.1; omega) ?_
              exact ⟨_, rfl, hq⟩
          · refine ok_aload_n 50 rfl rfl rfl (ok_iload_n 51 rfl rfl rfl (ok_putI 52 rfl rfl fl_X12_170 rfl rfl rfl rfl (ok_goto 53 119 rfl rfl rfl ?_)))
            obtain ⟨ρ, er⟩ : ∃ x : eS, x = (if σ 0 18 = 0 then up τ 0 19 n else τ) := ⟨_, rfl⟩
            have fρ : fr rgR σ ρ := by
              rw [er]; split
              · exact fr_up f1 (by simp [rgR])
              · exact f1
            have pρ : Pz ρ := by
              rw [er]; split
              · exact i4.fr (fr_up fr.rf (by omega))
              · exact i4
            have w19 : ρ 0 19 = n := by
              rw [er]; split
              · simp [up_if]
              · omega
            have w18 : ρ 0 18 = σ 0 18 := by
              rw [er]; split
              · simp [up_if]; exact e18
              · exact e18
            have w9 : ρ 0 9 = σ 0 9 := by
              rw [er]; split
              · simp [up_if]; exact i6
              · exact i6
            have w10 : ρ 0 10 = τ 0 10 := by
              rw [er]; split
              · simp [up_if]
              · rfl
            have w12 : ρ 0 12 = τ 0 12 := by
              rw [er]; split
              · simp [up_if]
              · rfl
            have w13 : ρ 0 13 = τ 0 13 := by
              rw [er]; split
              · simp [up_if]
              · rfl
            have w67 : ∀ j, ρ 6 j = τ 6 j ∧ ρ 7 j = τ 7 j := fun j => by
              rw [er]; split
              · simp [up_if]
              · exact ⟨rfl, rfl⟩
            have w5 : ρ 5 = τ 5 := by
              rw [er]; split
              · rw [up_fn _ _ _ (by decide)]
              · rfl
            have w6 : ρ 0 6 = τ 0 6 := by
              rw [er]; split
              · simp [up_if]
              · rfl
            have by2 : ∀ k : Int, 0 ≤ k → k < ρ 0 6 → 0 ≤ ρ 5 k := by rw [w5, w6]; exact by1
            obtain ⟨x1, x2⟩ := P5 (by omega)
            rw [if_neg (by omega)] at x2
            have wn : (if σ 0 18 = 0 then n else σ 0 19) = n := by split <;> omega
            rw [wn] at x2
            have uu : uRows ρ (σ 0 18 + 1) n := by
              intro i j a1 a2 a3 a4
              unfold uOk
              rw [(w67 _).1, (w67 _).2]
              by_cases q : i = σ 0 18
              · rw [q]; exact i8 j a3 a4
              · have := i10 (8 * i + j) (by omega)
                rw [this.1, this.2]
                exact r5 i j a1 (by omega) a3 (by have := i9 (by omega); omega)
            have t12 := i4.1
            have t13 : τ 0 12 < τ 0 13 := i4.2.2.2.2.2.1 (by omega)
            first | (have er' : up τ 0 19 n = ρ := by rw [er, if_pos (by omega)]
                     rw [er']) | (have er' : τ = ρ := by rw [er, if_neg (by omega)]
                                  rw [er'])
            clear er er'
            refine ok_aload_n 62 rfl rfl rfl (ok_callVV (M' := M_Mo_next) (as := []) 63 rfl rfl ml_X12_173 (t_Mo_next pρ.P0 by2) rfl rfl (Nat.le_of_ble_eq_true rfl) ⟨Nat.le_of_ble_eq_true rfl, Nat.le_of_ble_eq_true rfl⟩ rfl (Nat.le_of_ble_eq_true rfl) (fun τ1 hl0 => ?_))
            have hl := hl0.1
            obtain ⟨T1, j12, j5, j6⟩ := TK_of hl hl0.2
            rw [w5, e5, w6, e6, w13, x1] at j12
            rw [w5, e5] at j5
            rw [w6, e6] at j6
            have p1 := Pz.of pρ.P0 hl
            have l18 := hl.1 0 18 (by omega)
            have l19 := hl.1 0 19 (by omega)
            have l9 := hl.1 0 9 (by omega)
            have l12 := hl.2.1
            refine ok_aload_n 64 rfl rfl rfl (ok_dup 65 rfl rfl rfl (ok_getI 66 rfl rfl fl_X12_167 rfl rfl (Or.inl rfl) (ok_iconst 67 rfl rfl (by decide) (ok_iadd 68 rfl rfl (by first | omega | (simp [up_if]; omega) | (simp [up_if] at *; omega)) (ok_putI 69 rfl rfl fl_X12_167 rfl rfl rfl rfl (ok_iconst 70 rfl rfl (by decide) (ok_zret 71 rfl rfl rfl (by first | omega | (simp [up_if]; omega) | (simp [up_if] at *; omega)) ?_)))))))
            refine ⟨_, rfl, ⟨fr_up (fρ.tr (hl.1.mono (fun c k q => by simp only [rgR]; omega))) (by simp [rgR]), p1.fr (fr_up fr.rf (by omega)), Or.inr ⟨rfl, by simp [up_if]; omega, ?_, by simp [up_if]; omega⟩⟩, Or.inl ⟨rfl, T1.mo (fr_up fr.rf (by omega)), ?_, by rw [up_nk _ _ _ _ (by decide), hl.1 0 10 (by omega), w10]; exact i14⟩⟩
            rotate_left 1
            · rw [x2]
              unfold PB
              have z6 : τ1 6 = τ 6 := by funext j; rw [hl.1 6 j (by omega)]; exact (w67 j).1
              have z7 : τ1 7 = τ 7 := by funext j; rw [hl.1 7 j (by omega)]; exact (w67 j).2
              have ra : rdA (up τ1 0 18 (τ1 0 18 + 1)) = rdA τ := by unfold rdA; rw [up_fn _ _ _ (by decide), up_fn _ _ _ (by decide), z6, z7]
              have ru : rdU (up τ1 0 18 (τ1 0 18 + 1)) = rdU τ := by unfold rdU; rw [up_fn _ _ _ (by decide), up_fn _ _ _ (by decide), z6, z7]
              rw [ra, ru, up_fn _ _ _ (by decide), j5, up_nk _ _ _ _ (by decide), j6, up_nk _ _ _ _ (by decide), j12, up_same, up_nk _ _ _ _ (by decide), l18, l19, w18, w19]
              exact PR_sk sk_id
            refine ⟨by simp [up_if]; omega, by simp [up_if]; omega, by simp [up_if]; omega, by simp [up_if]; omega, ?_⟩
            intro i j a1 a2 a3 a4
            simp [up_if] at a2 a4
            unfold uOk
            rw [up_ne _ _ _ _ (by decide), up_ne _ _ _ _ (by decide), hl.1 7 _ (by omega), hl.1 6 _ (by omega)]
            exact uu i j a1 (by omega) a3 (by omega)
        · refine ok_aload_n 39 rfl rfl rfl (ok_iload_n 40 rfl rfl rfl (ok_callVI (M' := M_Mo_readFraction) (as := [_]) 41 rfl rfl ml_X12_176 (t_Mo_readFraction i4 ⟨i1, i2⟩ ⟨by omega, by omega⟩ i11 by1 (by omega) i13 (by omega)) rfl rfl (Nat.le_of_ble_eq_true rfl) ⟨Nat.le_of_ble_eq_true rfl, Nat.le_of_ble_eq_true rfl⟩ rfl (Nat.le_of_ble_eq_true rfl) (fun τ1 z hz0 => ?_)))
          obtain ⟨⟨z1, z2, z3⟩, z4⟩ := hz0
          have p12 := i4.1
          have p24 := z2.2.1
          have p25 := z2.2.2.1
          have g6 : τ1 0 6 = τ 0 6 := z1 0 6 (by simp only [rgF]; omega)
          refine ok_if_ne 42 84 rfl rfl rfl (fun h79 => ?_) (fun h79 => ?_)
          · refine ok_inc2 45 rfl rfl rfl (by first | omega | (simp [up_if]; omega) | (simp [up_if] at *; omega)) (ok_goto 46 57 rfl rfl rfl ?_)
            rcases z3 with ⟨q, -⟩ | ⟨-, y1, y2, y3, y4, y5, y6⟩
            · omega
            rcases z4 with ⟨-, x1, x2, x3⟩ | ⟨q, -⟩
            rotate_left 1
            · omega
            rw [e18] at y4 y5 y6
            rw [e19] at y4
            refine ih (n + 1, τ1) ⟨by dsimp only; omega, by dsimp only; omega, i3.tr z1, z2, fun _ => by dsimp only; omega, by dsimp only; omega, by dsimp only; omega, lt_ext (fun j a c => ?_) y5, fun q => by have := i9 q; have := y4 q; dsimp only; omega, fun j hj => ?_, x1, x2.trans i12, fun _ => by dsimp only; omega, x3.trans i14⟩ (by dsimp only; omega)
            · have := y6 (8 * σ 0 18 + j) (by omega)
              unfold uOk
              dsimp only
              rw [this.1, this.2]
              exact i8 j a c
            · have := y6 j (by omega)
              dsimp only
              rw [this.1, this.2]
              exact i10 j hj
          · refine ok_iconst 43 rfl rfl (by decide) (ok_zret 44 rfl rfl rfl (by first | omega | (simp [up_if]; omega) | (simp [up_if] at *; omega)) ?_)
            refine ⟨_, rfl, ⟨f1.tr (z1.mono (fun c k q => by simp only [rgF] at q; simp only [rgR]; omega)), z2, Or.inl ⟨rfl, by omega⟩⟩, ?_⟩
            rcases z4 with ⟨q, -⟩ | ⟨-, q1, q2⟩
            · omega
            · rw [i12] at q1 q2; exact Or.inr ⟨rfl, q1, q2⟩
    · refine ok_aload_n 25 rfl rfl rfl (ok_iconst 26 rfl rfl (by decide) (ok_callVI (M' := M_Mo_fails) (as := [_]) 27 rfl rfl ml_X12_164 (t_Mo_fails hb0) rfl rfl (Nat.le_of_ble_eq_true rfl) ⟨Nat.le_of_ble_eq_true rfl, Nat.le_of_ble_eq_true rfl⟩ rfl (Nat.le_of_ble_eq_true rfl) (fun σ' z hz => ?_)))
      have hq := hfail σ σ' z 3 fr.rf h (by decide) (by rw [P3 hs (by omega)]) (by rw [P3 hs (by omega)]) hz
      refine ok_zret 28 rfl rfl rfl (by have := hz.1; omega) ?_
      exact ⟨_, rfl, hq⟩
  refine ok_aload_n 0 rfl rfl rfl (ok_callVI (M' := M_Mo_isNumber) (as := []) 1 rfl rfl ml_X12_160 (s_Mo_isNumber h) rfl rfl (Nat.le_of_ble_eq_true rfl) ⟨Nat.le_of_ble_eq_true rfl, Nat.le_of_ble_eq_true rfl⟩ rfl (Nat.le_of_ble_eq_true rfl) (fun σ' z hz => ?_))
  obtain ⟨hs_, hz⟩ := hz
  rw [hs_]; clear hs_ σ'
  refine ok_if_ne 2 24 rfl rfl rfl (fun h4 => ?_) (fun h4 => ?_)
  · refine ok_iconst 11 rfl rfl (by decide) (ok_goto 12 29 rfl rfl rfl (ok_ist1 14 rfl rfl rfl (ok_iload_n 15 rfl rfl rfl (ok_if_ne 16 40 rfl rfl rfl (fun h31 => ?_) (fun h31 => ?_)))))
    · refine tail ?_ _
      rcases hz with ⟨-, q⟩ | ⟨q, -⟩
      · exact Or.inl q
      · exact Or.inr (by omega)
    · refine ok_aload_n 17 rfl rfl rfl (ok_iconst 18 rfl rfl (by decide) (ok_callVI (M' := M_Mo_fails) (as := [_]) 19 rfl rfl ml_X12_164 (t_Mo_fails hb0) rfl rfl (Nat.le_of_ble_eq_true rfl) ⟨Nat.le_of_ble_eq_true rfl, Nat.le_of_ble_eq_true rfl⟩ rfl (Nat.le_of_ble_eq_true rfl) (fun σ' z2 hz2 => ?_)))
      have hq := hfail σ σ' z2 1 fr.rf h (by decide) (by rw [P1 (nn_of hz (by omega)) (by omega)]) (by rw [P1 (nn_of hz (by omega)) (by omega)]) hz2
      refine ok_zret 20 rfl rfl rfl (by have := hz2.1; omega) ?_
      exact ⟨_, rfl, hq⟩
  · refine ok_aload_n 3 rfl rfl rfl (ok_getI 4 rfl rfl fl_X12_147 rfl rfl (Or.inl rfl) (ok_iconst 5 rfl rfl (by decide) (ok_icmp_ne 6 28 rfl rfl rfl (fun h12 => ?_) (fun h12 => ?_))))
    · refine ok_iconst 13 rfl rfl (by decide) (ok_ist1 14 rfl rfl rfl (ok_iload_n 15 rfl rfl rfl (ok_if_ne 16 40 rfl rfl rfl (fun h31 => ?_) (fun h31 => ?_))))
      · refine tail ?_ _
        rcases hz with ⟨-, q⟩ | ⟨q, -⟩
        · exact Or.inl q
        · exact Or.inr (by omega)
      · refine ok_aload_n 17 rfl rfl rfl (ok_iconst 18 rfl rfl (by decide) (ok_callVI (M' := M_Mo_fails) (as := [_]) 19 rfl rfl ml_X12_164 (t_Mo_fails hb0) rfl rfl (Nat.le_of_ble_eq_true rfl) ⟨Nat.le_of_ble_eq_true rfl, Nat.le_of_ble_eq_true rfl⟩ rfl (Nat.le_of_ble_eq_true rfl) (fun σ' z2 hz2 => ?_)))
        have hq := hfail σ σ' z2 1 fr.rf h (by decide) (by rw [P1 (nn_of hz (by omega)) (by omega)]) (by rw [P1 (nn_of hz (by omega)) (by omega)]) hz2
        refine ok_zret 20 rfl rfl rfl (by have := hz2.1; omega) ?_
        exact ⟨_, rfl, hq⟩
    · refine ok_aload_n 7 rfl rfl rfl (ok_getI 8 rfl rfl fl_X12_144 rfl rfl (Or.inl rfl) (ok_bipush 9 rfl rfl (by decide) (by decide) (ok_icmp_ne 10 28 rfl rfl rfl (fun h21 => ?_) (fun h21 => ?_))))
      · refine ok_iconst 13 rfl rfl (by decide) (ok_ist1 14 rfl rfl rfl (ok_iload_n 15 rfl rfl rfl (ok_if_ne 16 40 rfl rfl rfl (fun h31 => ?_) (fun h31 => ?_))))
        · refine tail ?_ _
          rcases hz with ⟨-, q⟩ | ⟨q, -⟩
          · exact Or.inl q
          · exact Or.inr (by omega)
        · refine ok_aload_n 17 rfl rfl rfl (ok_iconst 18 rfl rfl (by decide) (ok_callVI (M' := M_Mo_fails) (as := [_]) 19 rfl rfl ml_X12_164 (t_Mo_fails hb0) rfl rfl (Nat.le_of_ble_eq_true rfl) ⟨Nat.le_of_ble_eq_true rfl, Nat.le_of_ble_eq_true rfl⟩ rfl (Nat.le_of_ble_eq_true rfl) (fun σ' z2 hz2 => ?_)))
          have hq := hfail σ σ' z2 1 fr.rf h (by decide) (by rw [P1 (nn_of hz (by omega)) (by omega)]) (by rw [P1 (nn_of hz (by omega)) (by omega)]) hz2
          refine ok_zret 20 rfl rfl rfl (by have := hz2.1; omega) ?_
          exact ⟨_, rfl, hq⟩
      · refine ok_iconst 11 rfl rfl (by decide) (ok_goto 12 29 rfl rfl rfl (ok_ist1 14 rfl rfl rfl (ok_iload_n 15 rfl rfl rfl (ok_if_ne 16 40 rfl rfl rfl (fun h31 => ?_) (fun h31 => ?_)))))
        · refine tail ?_ _
          rcases hz with ⟨-, q⟩ | ⟨q, -⟩
          · exact Or.inl q
          · exact Or.inr (by omega)
        · refine ok_aload_n 17 rfl rfl rfl (ok_iconst 18 rfl rfl (by decide) (ok_callVI (M' := M_Mo_fails) (as := [_]) 19 rfl rfl ml_X12_164 (t_Mo_fails hb0) rfl rfl (Nat.le_of_ble_eq_true rfl) ⟨Nat.le_of_ble_eq_true rfl, Nat.le_of_ble_eq_true rfl⟩ rfl (Nat.le_of_ble_eq_true rfl) (fun σ' z2 hz2 => ?_)))
          have hq := hfail σ σ' z2 1 fr.rf h (by decide) (by rw [P1 (nn_of hz (by omega)) (by omega)]) (by rw [P1 (nn_of hz (by omega)) (by omega)]) hz2
          refine ok_zret 20 rfl rfl rfl (by have := hz2.1; omega) ?_
          exact ⟨_, rfl, hq⟩
end
section
theorem lc_eq {a b : Int} (ha : 1 ≤ a) (hb : 1 ≤ b) : a / (Int.gcd a b : Int) * b = (Int.lcm a b : Int) := by
  have hg : (Int.gcd a b : Int) ≠ 0 := by have := Int.gcd_pos_of_ne_zero_left (a := a) b (by omega); omega
  have h1 : (Int.gcd a b : Int) * (a / (Int.gcd a b : Int)) = a := Int.mul_ediv_cancel' (Int.gcd_dvd_left a b)
  have h2 : (Int.lcm a b : Int) = a * b / (Int.gcd a b : Int) := by
    rw [Int.lcm_eq_mul_div, Int.natCast_ediv, Int.natCast_mul, Int.natAbs_of_nonneg (by omega), Int.natAbs_of_nonneg (by omega)]
  rw [h2]
  have h3 : a * b = (Int.gcd a b : Int) * (a / (Int.gcd a b : Int) * b) := by rw [← Int.mul_assoc, h1]
  rw [h3, Int.mul_ediv_cancel_left _ hg]
/-- least multiple, within; or beyond -/
theorem lcS_cs (a b l : Int) (hl : 1 ≤ l) : lcS a b l = -1 ∨ (1 ≤ a ∧ 1 ≤ b ∧ lcS a b l = (Int.lcm a b : Int) ∧ 1 ≤ lcS a b l ∧ lcS a b l ≤ l) := by
  unfold lcS
  by_cases h1 : a < 1 ∨ b < 1
  · rw [if_pos h1]; exact Or.inl rfl
  · rw [if_neg h1]
    by_cases h2 : l < a / (Int.gcd a b : Int) * b
    · rw [if_pos h2]; exact Or.inl rfl
    · rw [if_neg h2]
      have e := lc_eq (a := a) (b := b) (by omega) (by omega)
      have p := Int.lcm_pos (m := a) (n := b) (by omega) (by omega)
      exact Or.inr ⟨by omega, by omega, e, by omega, by omega⟩
theorem lcS_neg {a b l : Int} (h : a = -1) : lcS a b l = -1 := by unfold lcS; rw [if_pos (by omega)]
theorem cbR_neg {un : Int → Int} {i v : Int} {j : Nat} : ∀ {j' : Nat}, j ≤ j' → cbR un i v j = -1 → cbR un i v j' = -1
  | 0, h, e => by rw [← e, show j = 0 by omega]
  | j' + 1, h, e => by
    rcases (by omega : j = j' + 1 ∨ j ≤ j') with q | q
    · rw [← q]; exact e
    · exact lcS_neg (cbR_neg q e)
theorem cbC_neg {un : Int → Int} {n i : Nat} : ∀ {i' : Nat}, i ≤ i' → cbC un n i = -1 → cbC un n i' = -1
  | 0, h, e => by rw [← e, show i = 0 by omega]
  | i' + 1, h, e => by
    rcases (by omega : i = i' + 1 ∨ i ≤ i') with q | q
    · rw [← q]; exact e
    · exact cbR_neg (j := 0) (Nat.zero_le _) (cbC_neg q e)
theorem cbR_cs {un : Int → Int} {i v : Int} (hv : v = -1 ∨ (1 ≤ v ∧ v ≤ 999999)) : ∀ j : Nat, cbR un i v j = -1 ∨ (1 ≤ v ∧ 1 ≤ cbR un i v j ∧ cbR un i v j ≤ 999999 ∧ v ∣ cbR un i v j ∧ (∀ y : Nat, y < j → un (i * 8 + y) ∣ cbR un i v j) ∧ ∀ m : Int, v ∣ m → (∀ y : Nat, y < j → un (i * 8 + y) ∣ m) → cbR un i v j ∣ m)
  | 0 => by
    rcases hv with q | q
    · exact Or.inl q
    · exact Or.inr ⟨q.1, q.1, q.2, Int.dvd_refl _, fun y h => absurd h (by omega), fun m h _ => h⟩
  | j + 1 => by
    rcases lcS_cs (cbR un i v j) (un (i * 8 + j)) 999999 (by omega) with q | ⟨q1, q2, q3, q4, q5⟩
    · exact Or.inl q
    · rcases cbR_cs (un := un) (i := i) hv j with w | ⟨w1, w2, w3, w4, w5, w6⟩
      · omega
      · refine Or.inr ⟨w1, q4, q5, ?_, fun y h => ?_, fun m a b => ?_⟩
        · rw [cbR, q3]; exact Int.dvd_trans w4 (Int.dvd_lcm_left _ _)
        · rw [cbR, q3]
          rcases (by omega : y < j ∨ y = j) with z | z
          · exact Int.dvd_trans (w5 y z) (Int.dvd_lcm_left _ _)
          · rw [z]; exact Int.dvd_lcm_right _ _
        · rw [cbR, q3]
          exact Int.coe_lcm_dvd (w6 m a (fun y h => b y (by omega))) (b j (by omega))
theorem cbC_cs {un : Int → Int} {n : Nat} : ∀ i : Nat, cbC un n i = -1 ∨ (1 ≤ cbC un n i ∧ cbC un n i ≤ 999999 ∧ (∀ x y : Nat, x < i → y < n → un (x * 8 + y) ∣ cbC un n i) ∧ ∀ m : Int, (∀ x y : Nat, x < i → y < n → un (x * 8 + y) ∣ m) → cbC un n i ∣ m)
  | 0 => Or.inr ⟨by simp [cbC], by simp [cbC], fun x y h => absurd h (by omega), fun m _ => by rw [cbC]; exact Int.one_dvd _⟩
  | i + 1 => by
    have hv : cbC un n i = -1 ∨ (1 ≤ cbC un n i ∧ cbC un n i ≤ 999999) := (cbC_cs i).imp id (fun h => ⟨h.1, h.2.1⟩)
    rcases cbR_cs (un := un) (i := i) hv n with q | ⟨w1, w2, w3, w4, w5, w6⟩
    · exact Or.inl q
    · rcases cbC_cs (un := un) (n := n) i with v | ⟨v1, v2, v3, v4⟩
      · omega
      · refine Or.inr ⟨w2, w3, fun x y a b => ?_, fun m a => ?_⟩
        · rw [cbC]
          rcases (by omega : x < i ∨ x = i) with z | z
          · exact Int.dvd_trans (v3 x y z b) w4
          · rw [z]; exact w5 y b
        · rw [cbC]
          exact w6 m (v4 m (fun x y c d => a x y (by omega) d)) (fun y c => a i y (by omega) c)
theorem cbR_cg {un un' : Int → Int} {i v : Int} : ∀ {j : Nat}, (∀ y : Nat, y < j → un (i * 8 + y) = un' (i * 8 + y)) → cbR un i v j = cbR un' i v j
  | 0, _ => rfl
  | j + 1, h => by rw [cbR, cbR, cbR_cg (fun y q => h y (by omega)), h j (by omega)]
theorem cbC_cg {un un' : Int → Int} {n : Nat} : ∀ {i : Nat}, (∀ x y : Nat, x < i → y < n → un (x * 8 + y) = un' (x * 8 + y)) → cbC un n i = cbC un' n i
  | 0, _ => rfl
  | i + 1, h => by rw [cbC, cbC, cbC_cg (fun x y q z => h x y (by omega) z), cbR_cg (fun y q => h i y (by omega) q)]
/-- in least terms over the least common number, nothing divides all -/
theorem lt_one {ab un : Int → Int} {n : Nat} {b g : Int} (hb : b = cbC un n n) (h1 : 1 ≤ b) (hg : 1 ≤ g) (hgb : g ∣ b) (hu : ∀ x y : Nat, x < n → y < n → 1 ≤ un (x * 8 + y) ∧ Int.gcd (un (x * 8 + y)) (ab (x * 8 + y)) = 1) (hgc : ∀ x y : Nat, x < n → y < n → g ∣ ab (x * 8 + y) * (b / un (x * 8 + y))) : g = 1 := by
  rcases cbC_cs (un := un) (n := n) n with q | ⟨q1, q2, q3, q4⟩
  · omega
  · rw [← hb] at q1 q2 q3 q4
    obtain ⟨m, hm⟩ := hgb
    have key : b ∣ m := q4 m (fun x y hx hy => by
      obtain ⟨u1, u2⟩ := hu x y hx hy
      obtain ⟨c, hc⟩ := q3 x y hx hy
      have hbu : b / un (x * 8 + y) = c := by rw [hc]; exact Int.mul_ediv_cancel_left _ (by omega)
      have d1 := hgc x y hx hy
      rw [hbu] at d1
      have d2 : g ∣ un (x * 8 + y) * c := by rw [← hc, hm]; exact Int.dvd_mul_right _ _
      have d3 : g ∣ (Int.gcd (un (x * 8 + y) * c) (ab (x * 8 + y) * c) : Int) := Int.dvd_coe_gcd d2 d1
      rw [Int.gcd_mul_right, u2, Nat.one_mul] at d3
      have d4 : g ∣ c := Int.dvd_natAbs.mp d3
      obtain ⟨k, hk⟩ := d4
      refine ⟨k, ?_⟩
      have e : g * m = g * (un (x * 8 + y) * k) := by rw [← hm, hc, hk, Int.mul_left_comm]
      exact Int.eq_of_mul_eq_mul_left (by omega) e)
    have mp : 1 ≤ m := by
      rcases (by omega : 1 ≤ m ∨ m ≤ 0) with z | z
      · exact z
      · have := Int.mul_le_mul_of_nonneg_left z (by omega : 0 ≤ g)
        omega
    have le := Int.le_of_dvd (by omega) key
    rcases (by omega : g = 1 ∨ 2 ≤ g) with z | z
    · exact z
    · have := Int.mul_le_mul_of_nonneg_right z (by omega : 0 ≤ m)
      omega
section PRC
variable {B B' : Int → Int} {L : Int}
def aB (B B' : Int → Int) (L : Int) : Prop := ∀ i : Int, 0 ≤ i → i < L → B i = B' i
theorem bl_cg (h : aB B B' L) {i : Int} (hi : 0 ≤ i) : blA B L i ↔ blA B' L i := by
  unfold blA
  constructor <;> intro q <;> have := h i hi q.1 <;> exact ⟨q.1, by have := q.2; omega⟩
theorem dg_cg (h : aB B B' L) {i : Int} (hi : 0 ≤ i) : dgA B L i ↔ dgA B' L i := by
  unfold dgA
  constructor <;> intro q <;> have := h i hi q.1 <;> exact ⟨q.1, by have := q.2; omega⟩
theorem sk_cg (h : aB B B' L) {p : Int} (hp : 0 ≤ p) : sk B L p = sk B' L p := by
  obtain ⟨a, b, c, d⟩ := sk_sp B' L p
  exact sk_un a (fun i x y => (bl_cg h (by omega)).mpr (c i x y)) (fun q => d ((bl_cg h (by omega)).mp q))
theorem de_cg (h : aB B B' L) {p : Int} (hp : 0 ≤ p) : de B L p = de B' L p := by
  obtain ⟨a, b, c, d⟩ := de_sp B' L p
  exact de_un a (fun i x y => (dg_cg h (by omega)).mpr (c i x y)) (fun q => d ((dg_cg h (by omega)).mp q))
theorem vaN_cg {p : Int} : ∀ {n : Nat}, (∀ i, p ≤ i → i < p + n → B i = B' i) → vaN B p n = vaN B' p n
  | 0, _ => rfl
  | n + 1, h => by rw [vaN, vaN, vaN_cg (fun i a b => h i a (by omega)), h (p + n) (by omega) (by omega)]
theorem vaD_cg (h : aB B B' L) {p : Int} (hp : 0 ≤ p) : vaD B p (de B L p) = vaD B' p (de B L p) := by
  unfold vaD
  exact vaN_cg (fun i a b => h i (by omega) (by have := (de_sp B L p).2.2.1 i a (by omega); exact this.1))
def aC (ab ab' un un' : Int → Int) (r k w : Int) : Prop := ∀ x y : Int, 0 ≤ x → 0 ≤ y → ((x < r ∧ y < w) ∨ (x = r ∧ y < k)) → ab (x * 8 + y) = ab' (x * 8 + y) ∧ un (x * 8 + y) = un' (x * 8 + y)
/-- the same fault, place, rows, width; and where there is no fault, the same fractions -/
def aO (o o' : oA) : Prop := o.1 = o'.1 ∧ o.2.1 = o'.2.1 ∧ o.2.2.1 = o'.2.2.1 ∧ o.2.2.2.1 = o'.2.2.2.1 ∧ (o.1 = 0 → aC o.2.2.2.2.1 o'.2.2.2.2.1 o.2.2.2.2.2 o'.2.2.2.2.2 o.2.2.1 0 o.2.2.2.1)
theorem aO_bad {c q r w : Int} {ab un ab' un' : Int → Int} (h : c ≠ 0) : aO (c, q, r, w, ab, un) (c, q, r, w, ab', un') := ⟨rfl, rfl, rfl, rfl, fun z => absurd z h⟩
theorem aC_uf {ab ab' un un' : Int → Int} {r k w a u : Int} (h : aC ab ab' un un' r k w) : aC (uf ab (r * 8 + k) a) (uf ab' (r * 8 + k) a) (uf un (r * 8 + k) u) (uf un' (r * 8 + k) u) r (k + 1) w := by
  intro x y hx hy hc
  unfold uf
  by_cases e : x * 8 + y = r * 8 + k
  · rw [if_pos e, if_pos e, if_pos e, if_pos e]; exact ⟨rfl, rfl⟩
  · rw [if_neg e, if_neg e, if_neg e, if_neg e]
    exact h x y hx hy (by omega)
theorem PR_cg (hB : aB B B' L) : ∀ (N : Nat) (p r k w : Int) (ab un ab' un' : Int → Int), (L - p).toNat < N → 0 ≤ p → aC ab ab' un un' r k w → aO (PR B L p r k w ab un) (PR B' L p r k w ab' un')
  | 0, p, r, k, w, ab, un, ab', un', hN, hp, hc => by omega
  | N + 1, p, r, k, w, ab, un, ab', un', hN, hp, hc => by
    obtain ⟨q, hq⟩ : ∃ q, sk B L p = q := ⟨_, rfl⟩
    have hq' : sk B' L p = q := by rw [← sk_cg hB hp]; exact hq
    have hpq : p ≤ q := by rw [← hq]; exact (sk_sp B L p).1
    by_cases c1 : q < L
    · have bq := hB q (by omega) c1
      by_cases c2 : B q = 59
      · rw [PR_59 hq c1 c2, PR_59 hq' c1 (by omega)]
        by_cases c3 : r = 8
        · rw [if_pos c3, if_pos c3]; exact aO_bad (by decide)
        · rw [if_neg c3, if_neg c3]
          by_cases c4 : 0 < r ∧ k ≠ w
          · rw [if_pos c4, if_pos c4]; exact aO_bad (by decide)
          · rw [if_neg c4, if_neg c4]
            refine PR_cg hB N _ _ _ _ _ _ _ _ (by omega) (by omega) (fun x y hx hy hz => hc x y hx hy ?_)
            rcases hz with hz | hz
            · by_cases z : r = 0
              · rw [if_pos z] at hz; omega
              · rw [if_neg z] at hz; omega
            · omega
      · by_cases c3 : 48 ≤ B q ∧ B q ≤ 57
        · obtain ⟨e, he⟩ : ∃ e, de B L q = e := ⟨_, rfl⟩
          have he' : de B' L q = e := by rw [← de_cg hB (by omega)]; exact he
          have qe : q < e := by rw [← he]; exact de_gt ⟨c1, c3⟩
          have hv : vaD B' q e = vaD B q e := by rw [← he]; exact (vaD_cg hB (by omega)).symm
          obtain ⟨f, hf⟩ : ∃ f, sk B L e = f := ⟨_, rfl⟩
          have hf' : sk B' L e = f := by rw [← sk_cg hB (by omega)]; exact hf
          have ef : e ≤ f := by rw [← hf]; exact (sk_sp B L e).1
          rw [PR_dig hq c1 c3 he, PR_dig hq' c1 (by omega) he', hv, hf, hf']
          by_cases c4 : 6 < e - q
          · rw [if_pos c4, if_pos c4]; exact aO_bad (by decide)
          · rw [if_neg c4, if_neg c4]
            by_cases c5 : r = 8 ∨ k = 8
            · rw [if_pos c5, if_pos c5]; exact aO_bad (by decide)
            · rw [if_neg c5, if_neg c5]
              by_cases c6 : 0 < r ∧ k = w
              · rw [if_pos c6, if_pos c6]; exact aO_bad (by decide)
              · rw [if_neg c6, if_neg c6]
                by_cases c7 : f < L ∧ B f = 47
                · have c7' : f < L ∧ B' f = 47 := ⟨c7.1, by rw [← hB f (by omega) c7.1]; exact c7.2⟩
                  rw [if_pos c7, if_pos c7']
                  obtain ⟨s, hs⟩ : ∃ s, sk B L (f + 1) = s := ⟨_, rfl⟩
                  have hs' : sk B' L (f + 1) = s := by rw [← sk_cg hB (by omega)]; exact hs
                  have fs : f + 1 ≤ s := by rw [← hs]; exact (sk_sp B L (f + 1)).1
                  obtain ⟨t, ht⟩ : ∃ t, de B L s = t := ⟨_, rfl⟩
                  have ht' : de B' L s = t := by rw [← de_cg hB (by omega)]; exact ht
                  have st : s ≤ t := by rw [← ht]; exact (de_sp B L s).1
                  have hv2 : vaD B' s t = vaD B s t := by rw [← ht]; exact (vaD_cg hB (by omega)).symm
                  rw [hs, hs', ht, ht', hv2]
                  have hdg := dg_cg hB (i := s) (by omega)
                  unfold dgA at hdg
                  by_cases c8 : ¬ (s < L ∧ 48 ≤ B s ∧ B s ≤ 57) ∨ 6 < t - s
                  · have c8' := c8
                    rw [hdg] at c8'
                    rw [if_pos c8, if_pos c8']; exact aO_bad (by decide)
                  · have c8' := c8
                    rw [hdg] at c8'
                    rw [if_neg c8, if_neg c8']
                    by_cases c9 : vaD B s t = 0
                    · rw [if_pos c9, if_pos c9]; exact aO_bad (by decide)
                    · rw [if_neg c9, if_neg c9]
                      exact PR_cg hB N _ _ _ _ _ _ _ _ (by omega) (by omega) (aC_uf hc)
                · have c7' : ¬ (f < L ∧ B' f = 47) := fun z => c7 ⟨z.1, by rw [hB f (by omega) z.1]; exact z.2⟩
                  rw [if_neg c7, if_neg c7']
                  exact PR_cg hB N _ _ _ _ _ _ _ _ (by omega) (by omega) (aC_uf hc)
        · rw [PR_bad hq c1 c2 c3, PR_bad hq' c1 (by omega) (by omega)]
          exact aO_bad (by decide)
    · rw [PR_end hq c1, PR_end hq' c1]
      by_cases c2 : 0 < k
      · rw [if_pos c2, if_pos c2]; exact aO_bad (by decide)
      · rw [if_neg c2, if_neg c2]
        by_cases c3 : r ≠ w
        · rw [if_pos c3, if_pos c3]; exact aO_bad (by decide)
        · rw [if_neg c3, if_neg c3]
          exact ⟨rfl, rfl, rfl, rfl, fun _ x y hx hy hz => hc x y hx hy (by dsimp only at hz; omega)⟩
/-- the whole text -/
theorem PR_al (hB : aB B B' L) (ab un ab' un' : Int → Int) : aO (PR B L 0 0 0 0 ab un) (PR B' L 0 0 0 0 ab' un') := PR_cg hB _ _ _ _ _ _ _ _ _ (Nat.lt_succ_self _) (by omega) (fun x y hx hy h => by omega)
end PRC
end
section
theorem gF_dv (σ : eS) : ∀ k : Nat, gF σ k ∣ σ 0 4 ∧ ∀ j : Nat, j < k → gF σ k ∣ σ 4 j
  | 0 => ⟨Int.dvd_refl _, fun j h => absurd h (by omega)⟩
  | k + 1 => by
    obtain ⟨h1, h2⟩ := gF_dv σ k
    refine ⟨Int.dvd_trans (Int.gcd_dvd_left _ _) h1, fun j h => ?_⟩
    rcases (by omega : j < k ∨ j = k) with q | q
    · exact Int.dvd_trans (Int.gcd_dvd_left _ _) (h2 j q)
    · rw [q]; exact Int.gcd_dvd_right _ _
def rdP (σ τ : eS) (x y : Int) : Prop := τ 6 (x * 8 + y) = rdA σ (x * 8 + y) ∧ τ 7 (x * 8 + y) = rdU σ (x * 8 + y)
def rdN (σ τ : eS) (x y : Int) : Prop := τ 6 (x * 8 + y) = σ 6 (x * 8 + y) ∧ τ 7 (x * 8 + y) = σ 7 (x * 8 + y)
/-- which fractions are in least terms -/
def dPN (σ τ : eS) (n i j : Int) : Prop := ∀ x y, 0 ≤ x → x < n → 0 ≤ y → y < n → ((x < i ∨ (x = i ∧ y < j)) → rdP σ τ x y) ∧ (¬ (x < i ∨ (x = i ∧ y < j)) → rdN σ τ x y)
theorem dPN_cg {σ τ τ' : eS} {n i j : Int} (h : dPN σ τ n i j) (h6 : ∀ k, τ' 6 k = τ 6 k) (h7 : ∀ k, τ' 7 k = τ 7 k) : dPN σ τ' n i j := by
  intro x y a b c d
  unfold rdP rdN
  rw [h6, h7]
  exact h x y a b c d
theorem dPN_s {σ τ : eS} {n i j : Int} (h : dPN σ τ n i j) (hn : n ≤ 8) (hi : 0 ≤ i ∧ i < n) (hj : 0 ≤ j ∧ j < n) : dPN σ (up (up τ 6 (8 * i + j) (τ 6 (8 * i + j) / (Int.gcd (τ 7 (8 * i + j)) (τ 6 (8 * i + j)) : Int))) 7 (8 * i + j) (τ 7 (8 * i + j) / (Int.gcd (τ 7 (8 * i + j)) (τ 6 (8 * i + j)) : Int))) n i (j + 1) := by
  have e : 8 * i + j = i * 8 + j := by omega
  rw [e]
  intro x y a b c d
  obtain ⟨h1, h2⟩ := h x y a b c d
  by_cases q : x = i ∧ y = j
  · obtain ⟨q1, q2⟩ := q
    subst q1; subst q2
    refine ⟨fun _ => ?_, fun z => absurd (Or.inr ⟨rfl, by omega⟩) z⟩
    obtain ⟨w1, w2⟩ := h2 (by omega)
    unfold rdP rdA rdU
    rw [up_same, up_ne _ _ _ _ (by decide), up_same, w1, w2]
    exact ⟨rfl, rfl⟩
  · have ne : x * 8 + y ≠ i * 8 + j := by omega
    unfold rdP rdN
    rw [up_ne _ _ _ _ (by decide), up_nk _ _ _ _ ne, up_nk _ _ _ _ ne, up_ne _ _ _ _ (by decide)]
    exact ⟨fun z => h1 (by omega), fun z => h2 (by omega)⟩
theorem dPN_r {σ τ : eS} {n i : Int} (h : dPN σ τ n i n) : dPN σ τ n (i + 1) 0 := fun x y a b c d => ⟨fun q => (h x y a b c d).1 (by omega), fun q => (h x y a b c d).2 (by omega)⟩
theorem rd_one {σ : eS} {k : Int} (h : uOk σ k) : 1 ≤ rdU σ k ∧ Int.gcd (rdU σ k) (rdA σ k) = 1 := by
  obtain ⟨u1, u2, u3, u4⟩ := h
  obtain ⟨g1, g2⟩ := gcd_pos (a := σ 7 k) (b := σ 6 k) (by omega)
  unfold rdU rdA
  exact ⟨(gcd_div u1 g1 g2).1, Int.gcd_ediv_gcd_ediv_gcd (by omega)⟩
theorem dm_n {k n : Int} (hn : 0 ≤ n) (h0 : 0 ≤ k) (h1 : k < n * n) : ∃ x y : Int, 0 ≤ x ∧ x < n ∧ 0 ≤ y ∧ y < n ∧ k = n * x + y := by
  have n0 : 0 < n := by
    rcases (by omega : n = 0 ∨ 0 < n) with q | q
    · rw [q] at h1; omega
    · exact q
  exact ⟨k / n, k % n, Int.ediv_nonneg h0 hn, Int.ediv_lt_of_lt_mul n0 h1, Int.emod_nonneg _ (by omega), Int.emod_lt_of_pos _ n0, (Int.mul_ediv_add_emod k n).symm⟩
theorem nx_lt {n x y i : Int} (hy : y < n) (hn : 0 ≤ n) (hx : x < i) : n * x + y < n * i := by
  have := Int.mul_le_mul_of_nonneg_left (by omega : x + 1 ≤ i) hn
  rw [Int.mul_add] at this
  omega
/-- all fractions over one number, exactly -/
def OV (σ : eS) (s : Int) (σ' : eS) (z : Int) : Prop := (z = 0 ∧ (cbC (rdU σ) (σ 0 18).toNat (σ 0 18).toNat = -1 ∨ ¬ cOk (rdA σ) (rdU σ) (cbC (rdU σ) (σ 0 18).toNat (σ 0 18).toNat) (σ 0 18)) ∧ ∀ k, σ' 1 k = σ 1 k ∧ σ' 2 k = σ 2 k ∧ σ' 3 k = σ 3 k) ∨ (z = 1 ∧ 1 ≤ cbC (rdU σ) (σ 0 18).toNat (σ 0 18).toNat ∧ cOk (rdA σ) (rdU σ) (cbC (rdU σ) (σ 0 18).toNat (σ 0 18).toNat) (σ 0 18) ∧ (∀ k, σ' 1 k = if k = s then σ 0 18 else σ 1 k) ∧ (∀ k, σ' 2 k = if k = s then (if σ 0 18 = 0 then 0 else cbC (rdU σ) (σ 0 18).toNat (σ 0 18).toNat) else σ 2 k) ∧ (∀ k, ¬ (64 * s ≤ k ∧ k < 64 * s + σ 0 18 * σ 0 18) → σ' 3 k = σ 3 k) ∧ ∀ i j, 0 ≤ i → i < σ 0 18 → 0 ≤ j → j < σ 0 18 → σ' 3 (64 * s + (σ 0 18 * i + j)) = rdA σ (i * 8 + j) * (cbC (rdU σ) (σ 0 18).toNat (σ 0 18).toNat / rdU σ (i * 8 + j)))
/-- behind the second loop -/
def frP (σ τ : eS) (n b : Int) : Prop := τ 0 4 = b ∧ (∀ x y, 0 ≤ x → x < n → 0 ≤ y → y < n → rdP σ τ x y) ∧ ∀ x y, 0 ≤ x → x < n → 0 ≤ y → y < n → τ 4 (n * x + y) = rdA σ (x * 8 + y) * (b / rdU σ (x * 8 + y))
theorem OV_tk {σ τ σ' : eS} {s n z b : Int} (en : n = σ 0 18) (hn : 0 ≤ n ∧ n ≤ 8) (hu : uRows σ n n) (hb : b = cbC (rdU σ) n.toNat n.toNat) (hb1 : 1 ≤ b) (hb2 : b ≤ 999999) (hf : ∀ k, τ 1 k = σ 1 k ∧ τ 2 k = σ 2 k ∧ τ 3 k = σ 3 k) (hP : frP σ τ n b) (hq : Qtk τ s n σ' z) : OV σ s σ' z := by
  obtain ⟨p1, p2, p3⟩ := hP
  have g1 : gF τ (n * n).toNat = 1 := by
    obtain ⟨d1, d2⟩ := gF_dv τ (n * n).toNat
    have gp := gF_bd (σ := τ) (by omega) (n * n).toNat
    refine lt_one (ab := rdA σ) hb hb1 gp.1 (by rw [← p1]; exact d1) (fun x y hx hy => ?_) (fun x y hx hy => ?_)
    · refine rd_one ?_
      have := hu x y (by omega) (by omega) (by omega) (by omega)
      rw [show (x : Int) * 8 + y = 8 * x + y by omega]; exact this
    · have h1 := nx_lt (n := n) (x := x) (y := y) (i := n) (by omega) (by omega) (by omega)
      have h0 : 0 ≤ n * (x : Int) := Int.mul_nonneg (by omega) (by omega)
      have := d2 (n * (x : Int) + y).toNat (by omega)
      rw [show (((n * (x : Int) + y).toNat : Nat) : Int) = n * x + y by omega, p3 x y (by omega) (by omega) (by omega) (by omega)] at this
      exact this
  have hft : fitT τ n ↔ cOk (rdA σ) (rdU σ) b n := by
    unfold fitT
    rw [g1, p1, Int.ediv_one]
    constructor
    · rintro ⟨-, q⟩ i j a b' c d
      have h1 := nx_lt (n := n) (x := i) (y := j) (i := n) d (by omega) b'
      have h0 : 0 ≤ n * i := Int.mul_nonneg (by omega) a
      have := q (n * i + j) (by omega) h1
      rw [Int.ediv_one, p3 i j a b' c d] at this
      exact this
    · intro q
      refine ⟨hb2, fun k a b' => ?_⟩
      obtain ⟨x, y, x1, x2, x3, x4, x5⟩ := dm_n hn.1 a b'
      rw [Int.ediv_one, x5, p3 x y x1 x2 x3 x4]
      exact q x y x1 x2 x3 x4
  rw [hb] at hb1
  unfold OV
  rw [← en]
  rcases hq with ⟨q1, q2, q3⟩ | ⟨q1, q2, q3⟩
  · rw [hft, hb] at q3
    exact Or.inl ⟨q1, Or.inr q3, fun k => by rw [q2]; exact hf k⟩
  · rw [hft, hb] at q3
    refine Or.inr ⟨q1, hb1, q3, fun k => ?_, fun k => ?_, fun k hk => ?_, fun i j a b' c d => ?_⟩
    · rw [q2]
      simp only [tw]
      simp
      split
      · rfl
      · exact (hf k).1
    · rw [q2, g1, p1, Int.ediv_one, hb]
      simp only [tw]
      simp
      split
      · rfl
      · exact (hf k).2.1
    · rw [q2]
      simp only [tw]
      rw [if_neg (by omega), if_neg (by omega), if_neg (by omega)]
      exact (hf k).2.2
    · have h1 := nx_lt (n := n) (x := i) (y := j) (i := n) d (by omega) b'
      have h0 : 0 ≤ n * i := Int.mul_nonneg (by omega) a
      rw [q2, g1]
      simp only [tw]
      rw [if_neg (by omega), if_neg (by omega), if_pos ⟨trivial, by omega, by omega⟩, Int.ediv_one, show 64 * s + (n * i + j) - 64 * s = n * i + j by omega, p3 i j a b' c d, hb]
theorem t_Mo_isOver {σ : eS} {s : Int} (hB : iB1 σ) (hs : 0 ≤ s ∧ s < 4) (hr : 0 ≤ σ 0 18 ∧ σ 0 18 ≤ 8) (hu : uRows σ (σ 0 18) (σ 0 18)) : MtI shB M_Mo_isOver [vr 0, vi s] σ (fun σ' z => QO σ σ' z ∧ OV σ s σ' z) := by
  refine Mt.of okM_Mo_isOver (Nat.le_of_ble_eq_true rfl) (fun hk hg => ?_)
  obtain ⟨n, en⟩ : ∃ x, x = σ 0 18 := ⟨_, rfl⟩
  rw [← en] at hr hu
  obtain ⟨un, eun⟩ : ∃ f, f = rdU σ := ⟨_, rfl⟩
  have hB' : ∀ τ : eS, fr (fun c k => (c = 0 ∧ k = 4) ∨ c = 4 ∨ c = 6 ∨ c = 7) σ τ → (∀ k, 0 ≤ k → k < 64 → 0 ≤ τ 4 k) → iB1 τ := fun τ f g => ⟨fun t a b => by rw [f 1 t (by omega), f 2 t (by omega)]; exact hB.1 t a b, fun k a b => by rw [f 3 k (by omega)]; exact hB.2.1 k a b, g⟩
  refine ok_aload_n 0 rfl rfl rfl (ok_lconst (w := 1) 1 rfl rfl rfl (by decide) (ok_putL 2 rfl rfl fl_X12_85 rfl rfl rfl rfl (ok_iconst 3 rfl rfl (by decide) (ok_ist2 4 rfl rfl rfl ?_))))
  refine lpO2 (fun (i : Int) (_ : eS) => [some (vr 0), some (vi s), some (vi i), none, none, none, none]) (fun _ τ => τ) (fun i τ => 0 ≤ i ∧ i ≤ n ∧ fr (fun c k => (c = 0 ∧ k = 4) ∨ c = 6 ∨ c = 7) σ τ ∧ 1 ≤ τ 0 4 ∧ τ 0 4 ≤ 999999 ∧ uRows τ n n ∧ dPN σ τ n i 0 ∧ τ 0 4 = cbC un n.toNat i.toNat) (fun i _ => (n - i).toNat) ?_ 0 _ ⟨by omega, by omega, fr_up fr.rf (by omega), by rw [up_same]; omega, by rw [up_same]; omega, fun i j a b c d => by unfold uOk; rw [up_ne _ _ _ _ (by decide), up_ne _ _ _ _ (by decide)]; exact hu i j a b c d, fun x y a b c d => ⟨fun q => by omega, fun q => by unfold rdN; rw [up_ne _ _ _ _ (by decide), up_ne _ _ _ _ (by decide)]; exact ⟨rfl, rfl⟩⟩, by rw [up_same]; rfl⟩
  rintro i τ ⟨i1, i2, i3, i4, i5, i6, i7, i8⟩ ih
  have e18 : τ 0 18 = n := by rw [i3 0 18 (by omega)]; exact en.symm
  refine ok_iload_n 5 rfl rfl rfl (ok_aload_n 6 rfl rfl rfl (ok_getI 7 rfl rfl fl_X12_167 rfl rfl (Or.inl rfl) (ok_icmp_ge 8 138 rfl rfl rfl (fun h12 => ?_) (fun h12 => ?_))))
  · refine ok_iconst 81 rfl rfl (by decide) (ok_ist2 82 rfl rfl rfl ?_)
    have hbb : τ 0 4 = cbC un n.toNat n.toNat := by rw [i8, show i = n by omega]
    have hpp : ∀ x y, 0 ≤ x → x < n → 0 ≤ y → y < n → rdP σ τ x y := fun x y a b c d => (i7 x y a b c d).1 (by omega)
    obtain ⟨b, eb⟩ : ∃ b, b = cbC un n.toNat n.toNat := ⟨_, rfl⟩
    rw [← eb] at hbb
    have hb1 : 1 ≤ b := by omega
    have hb2 : b ≤ 999999 := by omega
    refine lpO2 (fun (i : Int) (_ : eS) => [some (vr 0), some (vi s), some (vi i), none, none, none, none]) (fun _ τ => τ) (fun i τ => 0 ≤ i ∧ i ≤ n ∧ fr (fun c k => (c = 0 ∧ k = 4) ∨ c = 4 ∨ c = 6 ∨ c = 7) σ τ ∧ 1 ≤ τ 0 4 ∧ τ 0 4 ≤ 999999 ∧ uRows τ n n ∧ (∀ k, 0 ≤ k → k < 64 → 0 ≤ τ 4 k) ∧ τ 0 4 = b ∧ (∀ x y, 0 ≤ x → x < n → 0 ≤ y → y < n → rdP σ τ x y) ∧ ∀ x y, 0 ≤ x → x < i → 0 ≤ y → y < n → τ 4 (n * x + y) = rdA σ (x * 8 + y) * (b / rdU σ (x * 8 + y))) (fun i _ => (n - i).toNat) ?_ 0 τ ⟨by omega, by omega, i3.mono (fun c k q => by omega), i4, i5, i6, fun k a b => by rw [i3 4 k (by omega)]; exact hB.2.2 k a b, hbb, hpp, fun x y a b => by omega⟩
    clear hbb hpp i1 i2 i3 i4 i5 i6 i7 i8 e18 h12 ih i τ
    rintro i τ ⟨i1, i2, i3, i4, i5, i6, i7, i8, i9, i10⟩ ih
    have e18 : τ 0 18 = n := by rw [i3 0 18 (by omega)]; exact en.symm
    refine ok_iload_n 83 rfl rfl rfl (ok_aload_n 84 rfl rfl rfl (ok_getI 85 rfl rfl fl_X12_167 rfl rfl (Or.inl rfl) (ok_icmp_ge 86 213 rfl rfl rfl (fun h145 => ?_) (fun h145 => ?_))))
    · refine ok_aload_n 128 rfl rfl rfl (ok_iload_n 129 rfl rfl rfl (ok_aload_n 130 rfl rfl rfl (ok_getI 131 rfl rfl fl_X12_167 rfl rfl (Or.inl rfl) (ok_callVI (M' := M_Mo_takes) (as := [_, _]) 132 rfl rfl ml_X12_179 (s_Mo_takes hs (by omega) i4 (by rw [e18]; intro k a b; have := sq8 hr; exact i7 k a (by omega))) rfl rfl (Nat.le_of_ble_eq_true rfl) ⟨Nat.le_of_ble_eq_true rfl, Nat.le_of_ble_eq_true rfl⟩ rfl (Nat.le_of_ble_eq_true rfl) (fun σ' z hz => ?_)))))
      have f0 : fr rgO σ τ := i3.mono (fun c k q => by simp only [rgO]; omega)
      refine ok_zret 133 rfl rfl rfl (by rcases hz with q | q <;> omega) ?_
      refine ⟨_, rfl, ?_, OV_tk en hr hu (by rw [eb, eun]) hb1 hb2 (fun k => ⟨i3 1 k (by omega), i3 2 k (by omega), i3 3 k (by omega)⟩) ⟨i8, i9, fun x y a1 a2 a3 a4 => i10 x y a1 (by omega) a3 a4⟩ (by rw [e18] at hz; exact hz)⟩
      rcases hz with ⟨hz, rfl, -⟩ | ⟨hz, rfl, hft⟩
      · exact ⟨f0, hB' _ i3 i7, Or.inl hz⟩
      · refine ⟨f0.tr (fun c k q => ?_), ?_, Or.inr hz⟩
        · simp only [rgO] at q
          simp only [tw]
          rw [if_neg (by omega), if_neg (by omega), if_neg (by omega)]
        · rw [e18] at hft ⊢
          obtain ⟨gp, gl⟩ := gF_bd i4 (n * n).toNat
          refine tw_B (hB' _ i3 i7) hs hr (fun q => ?_) (fun k a b => ?_)
          · rw [if_neg (by omega)]
            exact ⟨(gcd_div i4 gp gl).1, hft.1⟩
          · exact ⟨Int.ediv_nonneg (i7 k a (by have := sq8 hr; omega)) (by omega), hft.2 k a b⟩
    · refine ok_iconst 87 rfl rfl (by decide) (ok_ist3 88 rfl rfl rfl ?_)
      refine lpO2 (fun (j : Int) (_ : eS) => [some (vr 0), some (vi s), some (vi i), some (vi j), none, none, none]) (fun _ τ => τ) (fun j τ => 0 ≤ j ∧ j ≤ n ∧ fr (fun c k => (c = 0 ∧ k = 4) ∨ c = 4 ∨ c = 6 ∨ c = 7) σ τ ∧ 1 ≤ τ 0 4 ∧ τ 0 4 ≤ 999999 ∧ uRows τ n n ∧ (∀ k, 0 ≤ k → k < 64 → 0 ≤ τ 4 k) ∧ τ 0 4 = b ∧ (∀ x y, 0 ≤ x → x < n → 0 ≤ y → y < n → rdP σ τ x y) ∧ (∀ x y, 0 ≤ x → x < i → 0 ≤ y → y < n → τ 4 (n * x + y) = rdA σ (x * 8 + y) * (b / rdU σ (x * 8 + y))) ∧ ∀ y, 0 ≤ y → y < j → τ 4 (n * i + y) = rdA σ (i * 8 + y) * (b / rdU σ (i * 8 + y))) (fun j _ => (n - j).toNat) ?_ 0 _ ⟨by omega, by omega, i3, i4, i5, i6, i7, i8, i9, i10, fun y a b => by omega⟩
      have hin : i < n := by omega
      clear i3 i4 i5 i6 i7 i8 i9 i10 e18
      rintro j τ ⟨j1, j2, i3, i4, i5, i6, i7, i8, i9, i10, i11⟩ ih2
      have e18 : τ 0 18 = n := by rw [i3 0 18 (by omega)]; exact en.symm
      refine ok_iload_n 89 rfl rfl rfl (ok_aload_n 90 rfl rfl rfl (ok_getI 91 rfl rfl fl_X12_167 rfl rfl (Or.inl rfl) (ok_icmp_ge 92 207 rfl rfl rfl (fun h155 => ?_) (fun h155 => ?_))))
      · refine ok_inc2 126 rfl rfl rfl (by first | omega | (simp [up_if]; omega) | (simp [up_if] at *; omega)) (ok_goto 127 140 rfl rfl rfl ?_)
        refine ok_fg [some (vr 0), some (vi s), some (vi (i + 1)), none, none, none, none] ⟨rfl, rfl, rfl, trivial⟩ (ih (i + 1) τ ⟨by omega, by omega, i3, i4, i5, i6, i7, i8, i9, fun x y a1 a2 a3 a4 => by
          rcases (by omega : x < i ∨ x = i) with q | q
          · exact i10 x y a1 q a3 a4
          · rw [q]; exact i11 y a3 (by omega)⟩ (by omega))
      · have uk := i6 i j (by omega) (by omega) (by omega) (by omega)
        obtain ⟨u1, u2, u3, u4⟩ := id uk
        obtain ⟨x1, x2, x3, x4⟩ := ix8 (n := n) (i := i) (j := j) hr ⟨by omega, by omega⟩ ⟨by omega, by omega⟩
        obtain ⟨d1, d2⟩ := div_bd (u := τ 0 4) (g := τ 7 (8 * i + j)) (B := 999999) ⟨by omega, by omega⟩ u1
        obtain ⟨d7, d8⟩ := mul_bd (a := τ 6 (8 * i + j)) (b := τ 0 4 / τ 7 (8 * i + j)) (A := 999999) (B := 999999) ⟨by omega, by omega⟩ ⟨by omega, by omega⟩
        refine ok_aload_n 93 rfl rfl rfl (ok_getR 94 rfl rfl fl_X12_19 rfl rfl (ok_aload_n 95 rfl rfl rfl (ok_getI 96 rfl rfl fl_X12_167 rfl rfl (Or.inl rfl) (ok_iload_n 97 rfl rfl rfl (ok_imul 98 rfl rfl (by rw [e18]; omega) (ok_iload_n 99 rfl rfl rfl (ok_iadd 100 rfl rfl (by rw [e18]; omega) (ok_aload_n 101 rfl rfl rfl (ok_getR 102 rfl rfl fl_X12_30 rfl rfl (ok_bipush 103 rfl rfl (by decide) (by decide) (ok_iload_n 104 rfl rfl rfl (ok_imul 105 rfl rfl (by first | omega | (simp [up_if]; omega) | (simp [up_if] at *; omega)) (ok_iload_n 106 rfl rfl rfl (ok_iadd 107 rfl rfl (by first | omega | (simp [up_if]; omega) | (simp [up_if] at *; omega)) (ok_iald 108 rfl rfl rfl (by first | omega | (simp [up_if]; omega) | (simp [up_if] at *; omega)) (ok_i2l 109 rfl rfl (ok_aload_n 110 rfl rfl rfl (ok_getL 111 rfl rfl fl_X12_85 rfl rfl (ok_aload_n 112 rfl rfl rfl (ok_getR 113 rfl rfl fl_X12_33 rfl rfl (ok_bipush 114 rfl rfl (by decide) (by decide) (ok_iload_n 115 rfl rfl rfl (ok_imul 116 rfl rfl (by first | omega | (simp [up_if]; omega) | (simp [up_if] at *; omega)) (ok_iload_n 117 rfl rfl rfl (ok_iadd 118 rfl rfl (by first | omega | (simp [up_if]; omega) | (simp [up_if] at *; omega)) (ok_iald 119 rfl rfl rfl (by first | omega | (simp [up_if]; omega) | (simp [up_if] at *; omega)) (ok_i2l 120 rfl rfl (ok_ldiv 121 rfl rfl (by first | omega | (simp [up_if]; omega) | (simp [up_if] at *; omega)) (by first | omega | (simp [up_if]; omega) | (simp [up_if] at *; omega)) (ok_lmul 122 rfl rfl (by first | omega | (simp [up_if]; omega) | (simp [up_if] at *; omega)) (ok_last 123 rfl rfl rfl (by rw [e18]; omega) (ok_inc3 124 rfl rfl rfl (by first | omega | (simp [up_if]; omega) | (simp [up_if] at *; omega)) (ok_goto 125 150 rfl rfl rfl ?_))))))))))))))))))))))))))))))))
        rw [e18]
        refine ih2 (j + 1) _ ⟨by omega, by omega, fr_up i3 (by simp), by rw [up_ne _ _ _ _ (by decide)]; omega, by rw [up_ne _ _ _ _ (by decide)]; omega, fun a b a1 a2 a3 a4 => ?_, ?_, by rw [up_ne _ _ _ _ (by decide)]; exact i8, fun x y a1 a2 a3 a4 => ?_, fun x y a1 a2 a3 a4 => ?_, fun y a1 a2 => ?_⟩ (by omega)
        · unfold uOk
          rw [up_ne _ _ _ _ (by decide), up_ne _ _ _ _ (by decide)]
          exact i6 a b a1 a2 a3 a4
        · intro k a b
          rw [up_if]
          split
          · exact d7
          · exact i7 k a (by omega)
        · unfold rdP
          rw [up_ne _ _ _ _ (by decide), up_ne _ _ _ _ (by decide)]
          exact i9 x y a1 a2 a3 a4
        · have := nx_lt (n := n) (x := x) (y := y) (i := i) a4 (by omega) a2
          rw [up_nk _ _ _ _ (by omega)]
          exact i10 x y a1 a2 a3 a4
        · rcases (by omega : y < j ∨ y = j) with q | q
          · rw [up_nk _ _ _ _ (by omega)]; exact i11 y a1 q
          · obtain ⟨w1, w2⟩ := i9 i j (by omega) (by omega) (by omega) (by omega)
            rw [q, up_same, show 8 * i + j = i * 8 + j by omega, w1, w2, i8]
  · refine ok_iconst 9 rfl rfl (by decide) (ok_ist3 10 rfl rfl rfl ?_)
    refine lpO2 (fun (j : Int) (_ : eS) => [some (vr 0), some (vi s), some (vi i), some (vi j), none, none, none]) (fun _ τ => τ) (fun j τ => 0 ≤ j ∧ j ≤ n ∧ fr (fun c k => (c = 0 ∧ k = 4) ∨ c = 6 ∨ c = 7) σ τ ∧ 1 ≤ τ 0 4 ∧ τ 0 4 ≤ 999999 ∧ uRows τ n n ∧ dPN σ τ n i j ∧ τ 0 4 = cbR un i (cbC un n.toNat i.toNat) j.toNat) (fun j _ => (n - j).toNat) ?_ 0 _ ⟨by omega, by omega, i3, i4, i5, i6, i7, i8⟩
    have hin : i < n := by omega
    clear i3 i4 i5 i6 i7 i8 e18
    rintro j τ ⟨j1, j2, i3, i4, i5, i6, i7, i8⟩ ih2
    have e18 : τ 0 18 = n := by rw [i3 0 18 (by omega)]; exact en.symm
    refine ok_iload_n 11 rfl rfl rfl (ok_aload_n 12 rfl rfl rfl (ok_getI 13 rfl rfl fl_X12_167 rfl rfl (Or.inl rfl) (ok_icmp_ge 14 132 rfl rfl rfl (fun h22 => ?_) (fun h22 => ?_))))
    · refine ok_inc2 79 rfl rfl rfl (by first | omega | (simp [up_if]; omega) | (simp [up_if] at *; omega)) (ok_goto 80 7 rfl rfl rfl ?_)
      exact ok_fg [some (vr 0), some (vi s), some (vi (i + 1)), none, none, none, none] ⟨rfl, rfl, rfl, trivial⟩ (ih (i + 1) τ ⟨by omega, by omega, i3, i4, i5, i6, dPN_r (by rw [show j = n by omega] at i7; exact i7), by rw [i8, cbC_s i1, show j = n by omega]⟩ (by omega))
    · have uk := i6 i j (by omega) (by omega) (by omega) (by omega)
      obtain ⟨u1, u2, u3, u4⟩ := id uk
      obtain ⟨g1, g2⟩ := gcd_pos (a := τ 7 (8 * i + j)) (b := τ 6 (8 * i + j)) (by omega)
      obtain ⟨d1, d2⟩ := div_bd (B := 999999) ⟨u3, u4⟩ g1
      obtain ⟨d3, d4⟩ := gcd_div u1 g1 g2
      refine ok_bipush 15 rfl rfl (by decide) (by decide) (ok_iload_n 16 rfl rfl rfl (ok_imul 17 rfl rfl (by first | omega | (simp [up_if]; omega) | (simp [up_if] at *; omega)) (ok_iload_n 18 rfl rfl rfl (ok_iadd 19 rfl rfl (by first | omega | (simp [up_if]; omega) | (simp [up_if] at *; omega)) (ok_ist4 20 rfl rfl rfl (ok_aload_n 21 rfl rfl rfl (ok_getR 22 rfl rfl fl_X12_33 rfl rfl (ok_iload 23 rfl rfl rfl (ok_iald 24 rfl rfl rfl (by first | omega | (simp [up_if]; omega) | (simp [up_if] at *; omega)) (ok_i2l 25 rfl rfl (ok_aload_n 26 rfl rfl rfl (ok_getR 27 rfl rfl fl_X12_30 rfl rfl (ok_iload 28 rfl rfl rfl (ok_iald 29 rfl rfl rfl (by first | omega | (simp [up_if]; omega) | (simp [up_if] at *; omega)) (ok_i2l 30 rfl rfl (ok_callSL (M' := M_Mo_common) (as := [_, _]) 31 rfl rfl ml_X12_89 (s_Mo_common (by omega) (by omega)) ⟨Nat.le_of_ble_eq_true rfl, Nat.le_of_ble_eq_true rfl⟩ rfl (Nat.le_of_ble_eq_true rfl) (fun σ' z hz => ?_)))))))))))))))))
      rw [hz.1, hz.2]
      clear hz z σ'
      refine ok_lst5 32 rfl rfl rfl (ok_aload_n 33 rfl rfl rfl (ok_getR 34 rfl rfl fl_X12_30 rfl rfl (ok_iload 35 rfl rfl rfl (ok_dup2 36 rfl rfl ⟨rfl, rfl⟩ (ok_iald 37 rfl rfl rfl (by first | omega | (simp [up_if]; omega) | (simp [up_if] at *; omega)) (ok_lload 38 rfl rfl rfl (ok_l2i 39 rfl rfl (by first | omega | (simp [up_if]; omega) | (simp [up_if] at *; omega)) (ok_idiv 40 rfl rfl (by omega) (by omega) (ok_iast 41 rfl rfl rfl (by first | omega | (simp [up_if]; omega) | (simp [up_if] at *; omega)) (ok_aload_n 42 rfl rfl rfl (ok_getR 43 rfl rfl fl_X12_33 rfl rfl (ok_iload 44 rfl rfl rfl (ok_dup2 45 rfl rfl ⟨rfl, rfl⟩ (ok_iald 46 rfl rfl rfl (by first | omega | (simp [up_if]; omega) | (simp [up_if] at *; omega)) (ok_lload 47 rfl rfl rfl (ok_l2i 48 rfl rfl (by first | omega | (simp [up_if]; omega) | (simp [up_if] at *; omega)) (ok_idiv 49 rfl rfl (by simp only [up_ne _ _ _ _ (show (7 : Nat) ≠ 6 by decide)]; omega) (by omega) (ok_iast 50 rfl rfl rfl (by first | omega | (simp [up_if]; omega) | (simp [up_if] at *; omega)) ?_))))))))))))))))))
      obtain ⟨ρ, er⟩ : ∃ x, x = up (up τ 6 (8 * i + j) (τ 6 (8 * i + j) / (Int.gcd (τ 7 (8 * i + j)) (τ 6 (8 * i + j)) : Int))) 7 (8 * i + j) (τ 7 (8 * i + j) / (Int.gcd (τ 7 (8 * i + j)) (τ 6 (8 * i + j)) : Int)) := ⟨_, rfl⟩
      have f1 : fr (fun c k => (c = 0 ∧ k = 4) ∨ c = 6 ∨ c = 7) σ ρ := by rw [er]; exact fr_up (fr_up i3 (by simp)) (by simp)
      have b4 : ρ 0 4 = τ 0 4 := by rw [er]; simp [up_if]
      have r18 : ρ 0 18 = n := by rw [f1 0 18 (by omega)]; exact en.symm
      have b7 : 1 ≤ ρ 7 (8 * i + j) ∧ ρ 7 (8 * i + j) ≤ 999999 := by rw [er]; simp [up_if]; omega
      have b8 : uRows ρ n n := by
        intro a b a1 a2 a3 a4
        have := i6 a b a1 a2 a3 a4
        by_cases q : 8 * a + b = 8 * i + j
        · rw [q, er]; unfold uOk; simp [up_if]; omega
        · rw [er]; unfold uOk; simp [up_if, q]; exact this
      have b9 : dPN σ ρ n i (j + 1) := by rw [er]; exact dPN_s i7 (by omega) ⟨by omega, by omega⟩ ⟨by omega, by omega⟩
      have b10 : ρ 7 (8 * i + j) = un (i * 8 + j) := by
        have := ((b9 i j (by omega) (by omega) (by omega) (by omega)).1 (by omega)).2
        rw [show 8 * i + j = i * 8 + j by omega, eun]; exact this
      have b11 : cbR un i (cbC un n.toNat i.toNat) (j + 1).toNat = lcS (ρ 0 4) (ρ 7 (8 * i + j)) 999999 := by rw [cbR_s j1, ← i8, b4, b10]
      unfold lcS at b11
      rw [if_neg (by omega)] at b11
      obtain ⟨g5, g6⟩ := gcd_pos (a := ρ 0 4) (b := ρ 7 (8 * i + j)) (by omega)
      obtain ⟨d5, d6⟩ := gcd_div (by omega : 1 ≤ ρ 0 4) g5 g6
      obtain ⟨d7, d8⟩ := mul_bd (a := ρ 0 4 / (Int.gcd (ρ 0 4) (ρ 7 (8 * i + j)) : Int)) (b := ρ 7 (8 * i + j)) (A := 999999) (B := 999999) ⟨by omega, by omega⟩ ⟨by omega, by omega⟩
      have d9 := Int.mul_pos (by omega : 0 < ρ 0 4 / (Int.gcd (ρ 0 4) (ρ 7 (8 * i + j)) : Int)) (by omega : 0 < ρ 7 (8 * i + j))
      simp only [up_ne _ _ _ _ (show (7 : Nat) ≠ 6 by decide)]
      rw [← er]
      refine ok_aload_n 51 rfl rfl rfl (ok_aload_n 52 rfl rfl rfl (ok_getL 53 rfl rfl fl_X12_85 rfl rfl (ok_aload_n 54 rfl rfl rfl (ok_getL 55 rfl rfl fl_X12_85 rfl rfl (ok_aload_n 56 rfl rfl rfl (ok_getR 57 rfl rfl fl_X12_33 rfl rfl (ok_iload 58 rfl rfl rfl (ok_iald 59 rfl rfl rfl (by first | omega | (simp [up_if]; omega) | (simp [up_if] at *; omega)) (ok_i2l 60 rfl rfl (ok_callSL (M' := M_Mo_common) (as := [_, _]) 61 rfl rfl ml_X12_89 (s_Mo_common (by omega) (by omega)) ⟨Nat.le_of_ble_eq_true rfl, Nat.le_of_ble_eq_true rfl⟩ rfl (Nat.le_of_ble_eq_true rfl) (fun σ' z hz => ?_)))))))))))
      rw [hz.1, hz.2]
      clear hz z σ'
      refine ok_ldiv 62 rfl rfl (by first | omega | (simp [up_if]; omega) | (simp [up_if] at *; omega)) (by first | omega | (simp [up_if]; omega) | (simp [up_if] at *; omega)) (ok_aload_n 63 rfl rfl rfl (ok_getR 64 rfl rfl fl_X12_33 rfl rfl (ok_iload 65 rfl rfl rfl (ok_iald 66 rfl rfl rfl (by first | omega | (simp [up_if]; omega) | (simp [up_if] at *; omega)) (ok_i2l 67 rfl rfl (ok_lmul 68 rfl rfl (by first | omega | (simp [up_if]; omega) | (simp [up_if] at *; omega)) (ok_putL 69 rfl rfl fl_X12_85 rfl rfl rfl rfl (ok_aload_n 70 rfl rfl rfl (ok_getL 71 rfl rfl fl_X12_85 rfl rfl (ok_ldc2 72 (999999) rfl rfl kc_X12_93 (by decide) (ok_lcmp_le 73 74 126 rfl rfl rfl rfl rfl (fun h120 => ?_) (fun h120 => ?_))))))))))))
      · refine ok_inc3 77 rfl rfl rfl (by first | omega | (simp [up_if]; omega) | (simp [up_if] at *; omega)) (ok_goto 78 17 rfl rfl rfl ?_)
        rw [up_same] at h120
        refine ok_fg [some (vr 0), some (vi s), some (vi i), some (vi (j + 1)), none, none, none] ⟨rfl, rfl, rfl, rfl, trivial⟩ (ih2 (j + 1) _ ⟨by omega, by omega, fr_up f1 (by omega), by rw [up_same]; omega, by rw [up_same]; omega, fun a b a1 a2 a3 a4 => ?_, dPN_cg b9 (fun k => up_ne _ _ _ _ (by decide)) (fun k => up_ne _ _ _ _ (by decide)), by rw [up_same, b11, if_neg (by omega)]⟩ (by omega))
        unfold uOk
        rw [up_ne _ _ _ _ (by decide), up_ne _ _ _ _ (by decide)]
        exact b8 a b a1 a2 a3 a4
      · refine ok_iconst 75 rfl rfl (by decide) (ok_zret 76 rfl rfl rfl (by first | omega | (simp [up_if]; omega) | (simp [up_if] at *; omega)) ?_)
        rw [up_same] at h120
        have nb : cbC un n.toNat n.toNat = -1 := by
          refine cbC_neg (i := (i + 1).toNat) (by omega) ?_
          rw [cbC_s i1]
          refine cbR_neg (j := (j + 1).toNat) (by omega) ?_
          rw [b11, if_pos (by omega)]
        exact ⟨_, rfl, ⟨fr_up (f1.mono (fun c k q => by simp only [rgO]; omega)) (by simp [rgO]), hB' _ (fr_up (f1.mono (fun c k q => by omega)) (by omega)) (fun k a b => by rw [up_ne _ _ _ _ (by decide), f1 4 k (by omega)]; exact hB.2.2 k a b), Or.inl rfl⟩, Or.inl ⟨rfl, Or.inl (by rw [← en, ← eun]; exact nb), fun k => by rw [up_ne _ _ _ _ (by decide), up_ne _ _ _ _ (by decide), up_ne _ _ _ _ (by decide), f1 1 k (by omega), f1 2 k (by omega), f1 3 k (by omega)]; exact ⟨rfl, rfl, rfl⟩⟩⟩
end
