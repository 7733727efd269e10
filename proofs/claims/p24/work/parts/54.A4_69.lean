section
def byA (v k : Int) : Int := iand (iushr v (24 - 8 * k)) 255
def pA (σ : eS) (L v i : Int) (σ' : eS) : Prop := fr (fun c k => (c = 10 ∧ k = 3) ∨ (c = 11 ∧ L ≤ k ∧ k < L + 4)) σ σ' ∧ σ' 10 3 = L + i ∧ ∀ q, 0 ≤ q → q < i → σ' 11 (L + q) = byA v q
theorem s_Tp_putNumber {σ : eS} {v L : Int} (hL : σ 10 3 = L) (h : 0 ≤ L ∧ L ≤ 596) : MtV shA M_Tp_putNumber [vr 10, vi v] σ (fun σ' => pA σ L v 4 σ') := by
  refine Mt.of okM_Tp_putNumber (Nat.le_of_ble_eq_true rfl) (fun hk hg => ?_)
  refine ok_bipush 0 rfl rfl (by decide) (by decide) (ok_ist2 1 rfl rfl rfl ?_)
  refine lpO3 (fun (s _ : Int) (_ : eS) => [some (vr 10), some (vi v), some (vi s)]) (fun _ _ ρ => ρ) (fun s i ρ => 0 ≤ i ∧ i ≤ 4 ∧ s = 24 - 8 * i ∧ pA σ L v i ρ) (fun _ i _ => (4 - i).toNat) ?_ 24 0 σ ⟨by omega, by omega, by omega, fr.rf, by omega, fun q a b => by omega⟩
  rintro s i ρ ⟨i1, i2, es, f, e3, hq⟩ ih
  refine ok_iload_n 2 rfl rfl rfl (ok_if_lt 3 49 rfl rfl rfl (fun h4 => ?_) (fun h4 => ?_))
  · refine ok_vret 26 rfl rfl rfl ?_
    exact ⟨rfl, f, by rw [e3, show i = 4 by omega], fun q a b => hq q a (by omega)⟩
  · refine ok_aload_n 4 rfl rfl rfl (ok_getI 5 rfl rfl fl_X10_21 rfl rfl (Or.inl rfl) (ok_sipush 6 rfl rfl (by decide) (by decide) (ok_icmp_ge 7 49 rfl rfl rfl (fun h14 => ?_) (fun h14 => ?_))))
    · refine ok_vret 26 rfl rfl rfl ?_
      exact ⟨rfl, f, by rw [e3, show i = 4 by omega], fun q a b => hq q a (by omega)⟩
    · refine ok_aload_n 8 rfl rfl rfl (ok_getR 9 rfl rfl fl_X10_11 rfl rfl (ok_aload_n 10 rfl rfl rfl (ok_getI 11 rfl rfl fl_X10_21 rfl rfl (Or.inl rfl) (ok_iload_n 12 rfl rfl rfl (ok_iload_n 13 rfl rfl rfl (ok_iushr 14 rfl rfl (ok_sipush 15 rfl rfl (by decide) (by decide) (ok_iand 16 rfl rfl (ok_iast 17 rfl rfl rfl (by first | omega | (simp [up_if]; omega) | (simp [up_if] at *; omega)) (ok_aload_n 18 rfl rfl rfl (ok_dup 19 rfl rfl rfl (ok_getI 20 rfl rfl fl_X10_21 rfl rfl (Or.inl rfl) (ok_iconst 21 rfl rfl (by decide) (ok_iadd 22 rfl rfl (by first | omega | (simp [up_if]; omega) | (simp [up_if] at *; omega)) (ok_putI 23 rfl rfl fl_X10_21 rfl rfl rfl rfl (ok_inc2 24 rfl rfl rfl (by first | omega | (simp [up_if]; omega) | (simp [up_if] at *; omega)) (ok_goto 25 3 rfl rfl rfl ?_)))))))))))))))))
      refine ih _ (i + 1) _ ⟨by omega, by omega, by omega, fr_up (fr_up f (Or.inr ⟨rfl, by omega, by omega⟩)) (Or.inl ⟨rfl, rfl⟩), by rw [up_same, up_ne _ _ _ _ (by decide), e3]; omega, fun q a b => ?_⟩ (by omega)
      rw [up_ne _ _ _ _ (by decide), up_if, e3]
      by_cases w : q = i
      · rw [if_pos ⟨rfl, by rw [w]⟩, es, w]; rfl
      · rw [if_neg (by omega)]; exact hq q a (by omega)
end
section
abbrev rgG : Nat → Int → Prop := fun c k => (c = 10 ∧ k = 3) ∨ c = 11
def fdA (σ : eS) (L a b c d e : Int) (σ' : eS) : Prop := fr rgG σ σ' ∧ σ' 10 3 = L + 20 ∧ (∀ k, k < L → σ' 11 k = σ 11 k) ∧ ∀ q, 0 ≤ q → q < 4 → σ' 11 (L + q) = byA a q ∧ σ' 11 (L + 4 + q) = byA b q ∧ σ' 11 (L + 8 + q) = byA c q ∧ σ' 11 (L + 12 + q) = byA d q ∧ σ' 11 (L + 16 + q) = byA e q
theorem pA_fr {σ σ' : eS} {L v : Int} (h : pA σ L v 4 σ') : fr rgG σ σ' ∧ (∀ k, k < L → σ' 11 k = σ 11 k) ∧ ∀ k, 0 ≤ k → ¬ (k = 3) → σ' 10 k = σ 10 k :=
  ⟨h.1.mono (fun c k q => by simp only [rgG]; omega), fun k q => h.1 11 k (by omega), fun k _ q => h.1 10 k (by omega)⟩
theorem s_Ev_feed {σ : eS} {a b c d e : Int} (h : 0 ≤ σ 10 3 ∧ σ 10 3 ≤ 600) : MtI shA M_Ev_feed [vr 0, vi a, vi b, vi c, vi d, vi e] σ (fun σ' z => (σ 10 3 + 20 ≤ 600 ∧ fdA σ (σ 10 3) a b c d e σ' ∧ z = σ 10 3 + 20) ∨ (600 < σ 10 3 + 20 ∧ σ' = σ ∧ z = -1)) := by
  refine Mt.of okM_Ev_feed (Nat.le_of_ble_eq_true rfl) (fun hk hg => ?_)
  obtain ⟨L, eL⟩ : ∃ L, L = σ 10 3 := ⟨_, rfl⟩
  rw [← eL] at h ⊢
  refine ok_aload_n 0 rfl rfl rfl (ok_getR 1 rfl rfl fl_X11_18 rfl rfl (ok_callVI (M' := M_Tp_hasRoom) (as := []) 2 rfl rfl ml_X11_74 (s_Tp_hasRoom (by omega)) rfl rfl (Nat.le_of_ble_eq_true rfl) ⟨Nat.le_of_ble_eq_true rfl, Nat.le_of_ble_eq_true rfl⟩ rfl (Nat.le_of_ble_eq_true rfl) (fun σ' z1 a1 => ?_)))
  obtain ⟨hs_, a1⟩ := a1
  rw [hs_]; clear hs_ σ'
  refine ok_if_ne 3 12 rfl rfl rfl (fun h7 => ?_) (fun h7 => ?_)
  · refine ok_aload_n 6 rfl rfl rfl (ok_getR 7 rfl rfl fl_X11_18 rfl rfl (ok_iload_n 8 rfl rfl rfl (ok_callVV (M' := M_Tp_putNumber) (as := [_]) 9 rfl rfl ml_X11_78 (s_Tp_putNumber (L := L) eL.symm ⟨by omega, by omega⟩) rfl rfl (Nat.le_of_ble_eq_true rfl) ⟨Nat.le_of_ble_eq_true rfl, Nat.le_of_ble_eq_true rfl⟩ rfl (Nat.le_of_ble_eq_true rfl) (fun σ1 p1 => ?_))))
    refine ok_aload_n 10 rfl rfl rfl (ok_getR 11 rfl rfl fl_X11_18 rfl rfl (ok_iload_n 12 rfl rfl rfl (ok_callVV (M' := M_Tp_putNumber) (as := [_]) 13 rfl rfl ml_X11_78 (s_Tp_putNumber (L := L + 4) p1.2.1 ⟨by omega, by omega⟩) rfl rfl (Nat.le_of_ble_eq_true rfl) ⟨Nat.le_of_ble_eq_true rfl, Nat.le_of_ble_eq_true rfl⟩ rfl (Nat.le_of_ble_eq_true rfl) (fun σ2 p2 => ?_))))
    refine ok_aload_n 14 rfl rfl rfl (ok_getR 15 rfl rfl fl_X11_18 rfl rfl (ok_iload_n 16 rfl rfl rfl (ok_callVV (M' := M_Tp_putNumber) (as := [_]) 17 rfl rfl ml_X11_78 (s_Tp_putNumber (L := L + 8) (by have := p2.2.1; omega) ⟨by omega, by omega⟩) rfl rfl (Nat.le_of_ble_eq_true rfl) ⟨Nat.le_of_ble_eq_true rfl, Nat.le_of_ble_eq_true rfl⟩ rfl (Nat.le_of_ble_eq_true rfl) (fun σ3 p3 => ?_))))
    refine ok_aload_n 18 rfl rfl rfl (ok_getR 19 rfl rfl fl_X11_18 rfl rfl (ok_iload 20 rfl rfl rfl (ok_callVV (M' := M_Tp_putNumber) (as := [_]) 21 rfl rfl ml_X11_78 (s_Tp_putNumber (L := L + 12) (by have := p3.2.1; omega) ⟨by omega, by omega⟩) rfl rfl (Nat.le_of_ble_eq_true rfl) ⟨Nat.le_of_ble_eq_true rfl, Nat.le_of_ble_eq_true rfl⟩ rfl (Nat.le_of_ble_eq_true rfl) (fun σ4 p4 => ?_))))
    refine ok_aload_n 22 rfl rfl rfl (ok_getR 23 rfl rfl fl_X11_18 rfl rfl (ok_iload 24 rfl rfl rfl (ok_callVV (M' := M_Tp_putNumber) (as := [_]) 25 rfl rfl ml_X11_78 (s_Tp_putNumber (L := L + 16) (by have := p4.2.1; omega) ⟨by omega, by omega⟩) rfl rfl (Nat.le_of_ble_eq_true rfl) ⟨Nat.le_of_ble_eq_true rfl, Nat.le_of_ble_eq_true rfl⟩ rfl (Nat.le_of_ble_eq_true rfl) (fun σ5 p5 => ?_))))
    refine ok_aload_n 26 rfl rfl rfl (ok_getR 27 rfl rfl fl_X11_18 rfl rfl (ok_getI 28 rfl rfl fl_X11_82 rfl rfl (Or.inl rfl) (ok_iret 29 rfl rfl rfl ?_)))
    have e5 : σ5 10 3 = L + 20 := by have := p5.2.1; omega
    obtain ⟨f1, g1, -⟩ := pA_fr p1
    obtain ⟨f2, g2, -⟩ := pA_fr p2
    obtain ⟨f3, g3, -⟩ := pA_fr p3
    obtain ⟨f4, g4, -⟩ := pA_fr p4
    obtain ⟨f5, g5, -⟩ := pA_fr p5
    refine ⟨_, rfl, Or.inl ⟨by omega, ⟨(((f1.tr f2).tr f3).tr f4).tr f5, e5, fun k q => ?_, fun q q1 q2 => ⟨?_, ?_, ?_, ?_, ?_⟩⟩, e5⟩⟩
    · rw [g5 k (by omega), g4 k (by omega), g3 k (by omega), g2 k (by omega), g1 k (by omega)]
    · rw [g5 _ (by omega), g4 _ (by omega), g3 _ (by omega), g2 _ (by omega)]; exact p1.2.2 q q1 q2
    · rw [g5 _ (by omega), g4 _ (by omega), g3 _ (by omega)]; exact p2.2.2 q q1 q2
    · rw [g5 _ (by omega), g4 _ (by omega)]; exact p3.2.2 q q1 q2
    · rw [g5 _ (by omega)]; exact p4.2.2 q q1 q2
    · exact p5.2.2 q q1 q2
  · refine ok_iconst 4 rfl rfl (by decide) (ok_iret 5 rfl rfl rfl ?_)
    exact ⟨_, rfl, Or.inr ⟨by omega, rfl, rfl⟩⟩
end
section
theorem rowT_bd {σ : eS} {t : Nat} {i : Int} (hT : iT σ t) (hi : 0 ≤ i ∧ i < 8) : 0 ≤ rowT σ t i ∧ rowT σ t i ≤ 799999992 := by
  have h1 := hT.1
  have h2 := hT.2.1
  have sb := sm_bd (f := fun j => cT σ t i j) (B := 99999999) (by decide) (n := (σ t 1).toNat) (fun k a b => cT_bd hT hi ⟨a, by omega⟩)
  unfold rowT
  omega
theorem colT_bd {σ : eS} {t : Nat} {i : Int} (hT : iT σ t) (hi : 0 ≤ i ∧ i < 8) : 0 ≤ colT σ t i ∧ colT σ t i ≤ 799999992 := by
  have h1 := hT.1
  have h2 := hT.2.1
  have sb := sm_bd (f := fun j => cT σ t j i) (B := 99999999) (by decide) (n := (σ t 1).toNat) (fun k a b => cT_bd hT ⟨a, by omega⟩ hi)
  unfold colT
  omega
theorem s_Ta_firstUneven {σ : eS} {t : Nat} (ht : tA t) (hT : iT σ t) : MtI shA M_Ta_firstUneven [vr t] σ (fun σ' z => σ' = σ ∧ unev (rowT σ t) (colT σ t) (σ t 1) z) := by
  refine Mt.of okM_Ta_firstUneven (Nat.le_of_ble_eq_true rfl) (fun hk hg => ?_)
  have hn := hT.1
  have hn2 := hT.2.1
  refine ok_aload_n 0 rfl rfl rfl (ok_iconst 1 rfl rfl (by decide) (ok_callVI (M' := M_Ta_sumOfRow) (as := [_]) 2 rfl rfl ml_X9_52 (s_Ta_sumOfRow ht hT ⟨by omega, by omega⟩) (sT ht) rfl (Nat.le_of_ble_eq_true rfl) ⟨Nat.le_of_ble_eq_true rfl, Nat.le_of_ble_eq_true rfl⟩ rfl (Nat.le_of_ble_eq_true rfl) (fun σ' z hz => ?_)))
  rw [hz.1, hz.2]
  clear hz z σ'
  refine ok_ist1 3 rfl rfl rfl (ok_iconst 4 rfl rfl (by decide) (ok_ist2 5 rfl rfl rfl ?_))
  refine lpO (fun i : Int => [some (vr t), some (vi (rowT σ t 0)), some (vi i)]) (fun _ => σ) (fun i => 1 ≤ i ∧ i ≤ 8 ∧ ∀ k, 1 ≤ k → k < i → rowT σ t k = rowT σ t 0) (fun i => (8 - i).toNat) ?_ 1 ⟨by omega, by omega, fun k a b => by omega⟩
  rintro i ⟨i1, i2, hr⟩ ih
  refine ok_iload_n 6 rfl rfl rfl (ok_aload_n 7 rfl rfl rfl (ok_getI 8 rfl rfl fl_X9_15 (sT ht) rfl (Or.inl rfl) (ok_icmp_ge 9 33 rfl rfl rfl (fun h13 => ?_) (fun h13 => ?_))))
  · refine ok_iconst 19 rfl rfl (by decide) (ok_ist2 20 rfl rfl rfl ?_)
    refine lpO (fun i : Int => [some (vr t), some (vi (rowT σ t 0)), some (vi i)]) (fun _ => σ) (fun j => 0 ≤ j ∧ j ≤ 8 ∧ ∀ k, 0 ≤ k → k < j → colT σ t k = rowT σ t 0) (fun i => (8 - i).toNat) ?_ 0 ⟨by omega, by omega, fun k a b => by omega⟩
    rintro j ⟨j1, j2, hc⟩ ih2
    refine ok_iload_n 21 rfl rfl rfl (ok_aload_n 22 rfl rfl rfl (ok_getI 23 rfl rfl fl_X9_15 (sT ht) rfl (Or.inl rfl) (ok_icmp_ge 24 63 rfl rfl rfl (fun h40 => ?_) (fun h40 => ?_))))
    · refine ok_iconst 36 rfl rfl (by decide) (ok_iret 37 rfl rfl rfl ?_)
      exact ⟨_, rfl, rfl, Or.inr ⟨fun k a b => hr k a (by omega), Or.inr ⟨rfl, fun k a b => hc k a (by omega)⟩⟩⟩
    · refine ok_aload_n 25 rfl rfl rfl (ok_iload_n 26 rfl rfl rfl (ok_callVI (M' := M_Ta_sumOfColumn) (as := [_]) 27 rfl rfl ml_X9_62 (s_Ta_sumOfColumn ht hT ⟨by omega, by omega⟩) (sT ht) rfl (Nat.le_of_ble_eq_true rfl) ⟨Nat.le_of_ble_eq_true rfl, Nat.le_of_ble_eq_true rfl⟩ rfl (Nat.le_of_ble_eq_true rfl) (fun σ' z hz => ?_)))
      rw [hz.1, hz.2]
      clear hz z σ'
      refine ok_iload_n 28 rfl rfl rfl (ok_icmp_eq 29 57 rfl rfl rfl (fun h49 => ?_) (fun h49 => ?_))
      · refine ok_inc2 34 rfl rfl rfl (by first | omega | (simp [up_if]; omega) | (simp [up_if] at *; omega)) (ok_goto 35 35 rfl rfl rfl ?_)
        exact ih2 (j + 1) ⟨by omega, by omega, lt_ext hc (by omega)⟩ (by omega)
      · refine ok_bipush 30 rfl rfl (by decide) (by decide) (ok_iload_n 31 rfl rfl rfl (ok_iadd 32 rfl rfl (by first | omega | (simp [up_if]; omega) | (simp [up_if] at *; omega)) (ok_iret 33 rfl rfl rfl ?_)))
        exact ⟨_, rfl, rfl, Or.inr ⟨fun k a b => hr k a (by omega), Or.inl ⟨j, j1, by omega, by omega, by omega, hc⟩⟩⟩
  · refine ok_aload_n 10 rfl rfl rfl (ok_iload_n 11 rfl rfl rfl (ok_callVI (M' := M_Ta_sumOfRow) (as := [_]) 12 rfl rfl ml_X9_52 (s_Ta_sumOfRow ht hT ⟨by omega, by omega⟩) (sT ht) rfl (Nat.le_of_ble_eq_true rfl) ⟨Nat.le_of_ble_eq_true rfl, Nat.le_of_ble_eq_true rfl⟩ rfl (Nat.le_of_ble_eq_true rfl) (fun σ' z hz => ?_)))
    rw [hz.1, hz.2]
    clear hz z σ'
    refine ok_iload_n 13 rfl rfl rfl (ok_icmp_eq 14 27 rfl rfl rfl (fun h22 => ?_) (fun h22 => ?_))
    · refine ok_inc2 17 rfl rfl rfl (by first | omega | (simp [up_if]; omega) | (simp [up_if] at *; omega)) (ok_goto 18 8 rfl rfl rfl ?_)
      exact ih (i + 1) ⟨by omega, by omega, lt_ext hr (by omega)⟩ (by omega)
    · refine ok_iload_n 15 rfl rfl rfl (ok_iret 16 rfl rfl rfl ?_)
      exact ⟨_, rfl, rfl, Or.inl ⟨i, by omega, by omega, rfl, by omega, hr⟩⟩
end
section
def tL (σ : eS) : Prop := 0 ≤ σ 10 3 ∧ σ 10 3 ≤ 600
def tP (σ : eS) : Prop := 0 ≤ σ 10 3 ∧ σ 10 3 ≤ 600 ∧ 0 ≤ σ 10 6 ∧ σ 10 6 ≤ σ 10 3
theorem s_Tp_isBlank {σ : eS} {k : Int} (h : tL σ) (hk : 0 ≤ k) : MtI shA M_Tp_isBlank [vr 10, vi k] σ (fun σ' z => σ' = σ ∧ ((z = 1 ∧ k < σ 10 3 ∧ (σ 11 k = 32 ∨ σ 11 k = 10)) ∨ (z = 0 ∧ ¬ (k < σ 10 3 ∧ (σ 11 k = 32 ∨ σ 11 k = 10))))) := by
  refine Mt.of okM_Tp_isBlank (Nat.le_of_ble_eq_true rfl) (fun hk hg => ?_)
  obtain ⟨h1, h2⟩ := h
  refine ok_iload_n 0 rfl rfl rfl (ok_aload_n 1 rfl rfl rfl (ok_getI 2 rfl rfl fl_X10_21 rfl rfl (Or.inl rfl) (ok_icmp_ge 3 34 rfl rfl rfl (fun h5 => ?_) (fun h5 => ?_))))
  · refine ok_iconst 18 rfl rfl (by decide) (ok_zret 19 rfl rfl rfl (by first | omega | (simp [up_if]; omega) | (simp [up_if] at *; omega)) ?_)
    exact ⟨_, rfl, rfl, by omega⟩
  · refine ok_aload_n 4 rfl rfl rfl (ok_getR 5 rfl rfl fl_X10_11 rfl rfl (ok_iload_n 6 rfl rfl rfl (ok_iald 7 rfl rfl rfl (by first | omega | (simp [up_if]; omega) | (simp [up_if] at *; omega)) (ok_bipush 8 rfl rfl (by decide) (by decide) (ok_icmp_eq 9 30 rfl rfl rfl (fun h16 => ?_) (fun h16 => ?_))))))
    · refine ok_iconst 16 rfl rfl (by decide) (ok_goto 17 35 rfl rfl rfl (ok_zret 19 rfl rfl rfl (by first | omega | (simp [up_if]; omega) | (simp [up_if] at *; omega)) ?_))
      exact ⟨_, rfl, rfl, by omega⟩
    · refine ok_aload_n 10 rfl rfl rfl (ok_getR 11 rfl rfl fl_X10_11 rfl rfl (ok_iload_n 12 rfl rfl rfl (ok_iald 13 rfl rfl rfl (by first | omega | (simp [up_if]; omega) | (simp [up_if] at *; omega)) (ok_bipush 14 rfl rfl (by decide) (by decide) (ok_icmp_ne 15 34 rfl rfl rfl (fun h27 => ?_) (fun h27 => ?_))))))
      · refine ok_iconst 18 rfl rfl (by decide) (ok_zret 19 rfl rfl rfl (by first | omega | (simp [up_if]; omega) | (simp [up_if] at *; omega)) ?_)
        exact ⟨_, rfl, rfl, by omega⟩
      · refine ok_iconst 16 rfl rfl (by decide) (ok_goto 17 35 rfl rfl rfl (ok_zret 19 rfl rfl rfl (by first | omega | (simp [up_if]; omega) | (simp [up_if] at *; omega)) ?_))
        exact ⟨_, rfl, rfl, by omega⟩
theorem s_Tp_isDigit {σ : eS} {k : Int} (h : tL σ) (hk : 0 ≤ k) : MtI shA M_Tp_isDigit [vr 10, vi k] σ (fun σ' z => σ' = σ ∧ ((z = 1 ∧ k < σ 10 3 ∧ 48 ≤ σ 11 k ∧ σ 11 k ≤ 57) ∨ (z = 0 ∧ ¬ (k < σ 10 3 ∧ 48 ≤ σ 11 k ∧ σ 11 k ≤ 57)))) := by
  refine Mt.of okM_Tp_isDigit (Nat.le_of_ble_eq_true rfl) (fun hk hg => ?_)
  obtain ⟨h1, h2⟩ := h
  refine ok_iload_n 0 rfl rfl rfl (ok_aload_n 1 rfl rfl rfl (ok_getI 2 rfl rfl fl_X10_21 rfl rfl (Or.inl rfl) (ok_icmp_ge 3 34 rfl rfl rfl (fun h5 => ?_) (fun h5 => ?_))))
  · refine ok_iconst 18 rfl rfl (by decide) (ok_zret 19 rfl rfl rfl (by first | omega | (simp [up_if]; omega) | (simp [up_if] at *; omega)) ?_)
    exact ⟨_, rfl, rfl, by omega⟩
  · refine ok_aload_n 4 rfl rfl rfl (ok_getR 5 rfl rfl fl_X10_11 rfl rfl (ok_iload_n 6 rfl rfl rfl (ok_iald 7 rfl rfl rfl (by first | omega | (simp [up_if]; omega) | (simp [up_if] at *; omega)) (ok_bipush 8 rfl rfl (by decide) (by decide) (ok_icmp_lt 9 34 rfl rfl rfl (fun h16 => ?_) (fun h16 => ?_))))))
    · refine ok_iconst 18 rfl rfl (by decide) (ok_zret 19 rfl rfl rfl (by first | omega | (simp [up_if]; omega) | (simp [up_if] at *; omega)) ?_)
      exact ⟨_, rfl, rfl, by omega⟩
    · refine ok_aload_n 10 rfl rfl rfl (ok_getR 11 rfl rfl fl_X10_11 rfl rfl (ok_iload_n 12 rfl rfl rfl (ok_iald 13 rfl rfl rfl (by first | omega | (simp [up_if]; omega) | (simp [up_if] at *; omega)) (ok_bipush 14 rfl rfl (by decide) (by decide) (ok_icmp_gt 15 34 rfl rfl rfl (fun h27 => ?_) (fun h27 => ?_))))))
      · refine ok_iconst 18 rfl rfl (by decide) (ok_zret 19 rfl rfl rfl (by first | omega | (simp [up_if]; omega) | (simp [up_if] at *; omega)) ?_)
        exact ⟨_, rfl, rfl, by omega⟩
      · refine ok_iconst 16 rfl rfl (by decide) (ok_goto 17 35 rfl rfl rfl (ok_zret 19 rfl rfl rfl (by first | omega | (simp [up_if]; omega) | (simp [up_if] at *; omega)) ?_))
        exact ⟨_, rfl, rfl, by omega⟩
theorem s_Tp_isSign {σ : eS} {k c : Int} (h : tL σ) (hk : 0 ≤ k) : MtI shA M_Tp_isSign [vr 10, vi k, vi c] σ (fun σ' z => σ' = σ ∧ ((z = 1 ∧ k < σ 10 3 ∧ σ 11 k = c) ∨ (z = 0 ∧ ¬ (k < σ 10 3 ∧ σ 11 k = c)))) := by
  refine Mt.of okM_Tp_isSign (Nat.le_of_ble_eq_true rfl) (fun hk hg => ?_)
  obtain ⟨h1, h2⟩ := h
  refine ok_iload_n 0 rfl rfl rfl (ok_aload_n 1 rfl rfl rfl (ok_getI 2 rfl rfl fl_X10_21 rfl rfl (Or.inl rfl) (ok_icmp_ge 3 22 rfl rfl rfl (fun h5 => ?_) (fun h5 => ?_))))
  · refine ok_iconst 12 rfl rfl (by decide) (ok_zret 13 rfl rfl rfl (by first | omega | (simp [up_if]; omega) | (simp [up_if] at *; omega)) ?_)
    exact ⟨_, rfl, rfl, by omega⟩
  · refine ok_aload_n 4 rfl rfl rfl (ok_getR 5 rfl rfl fl_X10_11 rfl rfl (ok_iload_n 6 rfl rfl rfl (ok_iald 7 rfl rfl rfl (by first | omega | (simp [up_if]; omega) | (simp [up_if] at *; omega)) (ok_iload_n 8 rfl rfl rfl (ok_icmp_ne 9 22 rfl rfl rfl (fun h15 => ?_) (fun h15 => ?_))))))
    · refine ok_iconst 12 rfl rfl (by decide) (ok_zret 13 rfl rfl rfl (by first | omega | (simp [up_if]; omega) | (simp [up_if] at *; omega)) ?_)
      exact ⟨_, rfl, rfl, by omega⟩
    · refine ok_iconst 10 rfl rfl (by decide) (ok_goto 11 23 rfl rfl rfl (ok_zret 13 rfl rfl rfl (by first | omega | (simp [up_if]; omega) | (simp [up_if] at *; omega)) ?_))
      exact ⟨_, rfl, rfl, by omega⟩
theorem s_Tp_fail {σ : eS} {a b : Int} : MtV shA M_Tp_fail [vr 10, vi a, vi b] σ (fun σ' => σ' = up (up σ 10 4 a) 10 5 b) := by
  refine Mt.of okM_Tp_fail (Nat.le_of_ble_eq_true rfl) (fun hk hg => ?_)
  refine ok_aload_n 0 rfl rfl rfl (ok_iload_n 1 rfl rfl rfl (ok_putI 2 rfl rfl fl_X10_25 rfl rfl rfl rfl (ok_aload_n 3 rfl rfl rfl (ok_iload_n 4 rfl rfl rfl (ok_putI 5 rfl rfl fl_X10_28 rfl rfl rfl rfl (ok_vret 6 rfl rfl rfl ?_))))))
  exact ⟨rfl, rfl⟩
end
section
abbrev rgD : Nat → Int → Prop := fun c k => c = 10 ∧ (k = 4 ∨ k = 5 ∨ k = 6)
def QD (σ σ' : eS) : Prop := fr rgD σ σ' ∧ σ 10 6 ≤ σ' 10 6 ∧ σ' 10 6 ≤ σ 10 3
theorem QD_tr {σ τ υ : eS} (h : QD σ τ) (g : QD τ υ) : QD σ υ := ⟨h.1.tr g.1, Int.le_trans h.2.1 g.2.1, by have := h.1 10 3 (by simp [rgD]); have := g.2.2; omega⟩
theorem QD_P {σ τ : eS} (hp : tP σ) (h : QD σ τ) : tP τ := by
  have := h.1 10 3 (by simp [rgD])
  obtain ⟨a, b, c, d⟩ := hp
  exact ⟨by omega, by omega, by have := h.2.1; omega, by have := h.2.2; omega⟩
theorem QD_f {σ : eS} (hp : tP σ) (a b : Int) : QD σ (up (up σ 10 4 a) 10 5 b) := ⟨fr_up (fr_up fr.rf (by simp [rgD])) (by simp [rgD]), by simp [up_if], by simp [up_if]; exact hp.2.2.2⟩
end
section
def uA (σ : eS) (k : Int) : Prop := 1 ≤ σ 13 k ∧ σ 13 k ≤ 999999 ∧ 0 ≤ σ 12 k ∧ σ 12 k ≤ 999999
abbrev rgE : Nat → Int → Prop := fun c k => (c = 10 ∧ k = 8) ∨ c = 12 ∨ c = 13
end
section
def RA (σ : eS) : Prop := tP σ ∧ 0 ≤ σ 10 7 ∧ σ 10 7 ≤ 8 ∧ 0 ≤ σ 10 8 ∧ σ 10 8 ≤ 8 ∧ 0 ≤ σ 10 9 ∧ σ 10 9 ≤ 8 ∧ (∀ i j, 0 ≤ i → i < σ 10 7 → 0 ≤ j → j < σ 10 9 → uA σ (i * 8 + j)) ∧ (∀ j, σ 10 7 ≤ 7 → 0 ≤ j → j < σ 10 8 → uA σ (σ 10 7 * 8 + j)) ∧ (0 < σ 10 7 → σ 10 8 ≤ σ 10 9)
theorem RA_D {σ τ : eS} (h : RA σ) (q : QD σ τ) : RA τ := by
  obtain ⟨h0, h1, h2, h3, h4, h5, h6, h7, h8, h9⟩ := h
  have e7 : τ 10 7 = σ 10 7 := q.1 10 7 (by simp [rgD])
  have e8 : τ 10 8 = σ 10 8 := q.1 10 8 (by simp [rgD])
  have e9 : τ 10 9 = σ 10 9 := q.1 10 9 (by simp [rgD])
  have eu : ∀ k, uA τ k ↔ uA σ k := fun k => by unfold uA; rw [q.1 12 k (by simp [rgD]), q.1 13 k (by simp [rgD])]
  refine ⟨QD_P h0 q, ?_⟩
  rw [e7, e8, e9]
  exact ⟨h1, h2, h3, h4, h5, h6, fun i j a b c d => (eu _).mpr (h7 i j a b c d), fun j a b c => (eu _).mpr (h8 j a b c), h9⟩
abbrev rgJ : Nat → Int → Prop := fun c k => (c = 10 ∧ 4 ≤ k ∧ k ≤ 9) ∨ c = 12 ∨ c = 13
def QJ (σ σ' : eS) : Prop := fr rgJ σ σ' ∧ RA σ'
theorem QJ_D {σ τ : eS} (h : RA σ) (q : QD σ τ) : QJ σ τ := ⟨q.1.mono (fun c k w => by simp only [rgD, rgJ] at w ⊢; omega), RA_D h q⟩
end
section
def uRA (σ : eS) : Prop := 0 ≤ σ 10 7 ∧ σ 10 7 ≤ 8 ∧ ∀ i j, 0 ≤ i → i < σ 10 7 → 0 ≤ j → j < σ 10 7 → uA σ (i * 8 + j)
end
section
def evT (σ : eS) (t : Nat) : Prop := 0 < σ t 1 ∧ 0 < rowT σ t 0 ∧ (∀ k, 0 ≤ k → k < σ t 1 → rowT σ t k = rowT σ t 0) ∧ ∀ k, 0 ≤ k → k < σ t 1 → colT σ t k = rowT σ t 0
def mT (σ : eS) (t : Nat) : Prop := (σ t 3 = -1 ∧ ¬ evT σ t) ∨ (evT σ t ∧ σ t 3 = rowT σ t 0)
theorem iT_cg {σ τ : eS} {t : Nat} (h : iT σ t) (e1 : τ t 1 = σ t 1) (e2 : τ t 2 = σ t 2) (e : ∀ k, τ (t + 4) k = σ (t + 4) k) : iT τ t ∧ rowT τ t = rowT σ t ∧ colT τ t = colT σ t := by
  refine ⟨?_, ?_, ?_⟩
  · unfold iT
    rw [e1, e2]
    exact ⟨h.1, h.2.1, h.2.2.1, fun k a b => by rw [e]; exact h.2.2.2 k a b⟩
  · funext i; unfold rowT cT; simp only [e1, e]
  · funext i; unfold colT cT; simp only [e1, e]
abbrev rgT1 (t : Nat) : Nat → Int → Prop := fun c k => c = t ∧ (k = 1 ∨ k = 2 ∨ k = 3 ∨ k = 4 ∨ k = 6)
theorem s_Ta_settle {σ : eS} {t : Nat} {n b : Int} (ht : tA t) (hn : 0 ≤ n ∧ n ≤ 8) (hb : b ≤ 999999) (hc : ∀ k : Int, 0 ≤ k → k < 64 → 0 ≤ σ (t + 4) k ∧ σ (t + 4) k ≤ 99999999) : MtV shA M_Ta_settle [vr t, vi n, vi b] σ (fun σ' => fr (rgT1 t) σ σ' ∧ iT σ' t ∧ mT σ' t ∧ σ' t 1 = n ∧ σ' t 2 = max 1 b ∧ σ' t 4 = 0 ∧ σ' t 6 = 0) := by
  refine Mt.of okM_Ta_settle (Nat.le_of_ble_eq_true rfl) (fun hk hg => ?_)
  obtain ⟨τ, eτ⟩ : ∃ τ, τ = up (up (up (up σ t 1 n) t 2 (max 1 b)) t 4 0) t 6 0 := ⟨_, rfl⟩
  have f : fr (rgT1 t) σ τ := by rw [eτ]; exact fr_up (fr_up (fr_up (fr_up fr.rf (by simp [rgT1])) (by simp [rgT1])) (by simp [rgT1])) (by simp [rgT1])
  have e1 : τ t 1 = n := by rw [eτ]; simp [up_if]
  have e2 : τ t 2 = max 1 b := by rw [eτ]; simp [up_if]
  have e4 : τ t 4 = 0 := by rw [eτ]; simp [up_if]
  have e6 : τ t 6 = 0 := by rw [eτ]; simp [up_if]
  have ec : ∀ k, τ (t + 4) k = σ (t + 4) k := fun k => f (t + 4) k (by simp only [rgT1]; omega)
  have hT : iT τ t := ⟨by omega, by omega, fun _ => by omega, fun k a b => by rw [ec]; exact hc k a b⟩
  have fin : ∀ v : Int, ((v = -1 ∧ ¬ evT τ t) ∨ (evT τ t ∧ v = rowT τ t 0)) → fr (rgT1 t) σ (up τ t 3 v) ∧ iT (up τ t 3 v) t ∧ mT (up τ t 3 v) t ∧ up τ t 3 v t 1 = n ∧ up τ t 3 v t 2 = max 1 b ∧ up τ t 3 v t 4 = 0 ∧ up τ t 3 v t 6 = 0 := fun v hv => by
    have x : ∀ k, k ≠ 3 → up τ t 3 v t k = τ t k := fun k q => up_nk _ _ _ _ q
    obtain ⟨y1, y2, y3⟩ := iT_cg (τ := up τ t 3 v) hT (x 1 (by decide)) (x 2 (by decide)) (fun k => up_ne _ _ _ _ (by omega))
    refine ⟨fr_up f (by simp [rgT1]), y1, ?_, by rw [x 1 (by decide)]; exact e1, by rw [x 2 (by decide)]; exact e2, by rw [x 4 (by decide)]; exact e4, by rw [x 6 (by decide)]; exact e6⟩
    unfold mT evT
    rw [y2, y3, up_same, x 1 (by decide)]
    exact hv
  refine ok_aload_n 0 rfl rfl rfl (ok_iload_n 1 rfl rfl rfl (ok_putI 2 rfl rfl fl_X9_15 (sT ht) rfl rfl rfl (ok_aload_n 3 rfl rfl rfl (ok_iconst 4 rfl rfl (by decide) (ok_iload_n 5 rfl rfl rfl (ok_mmax 6 rfl rfl ml_X9_42 ⟨Nat.le_of_ble_eq_true rfl, Nat.le_of_ble_eq_true rfl⟩ (ok_putI 7 rfl rfl fl_X9_19 (sT ht) rfl rfl rfl (ok_aload_n 8 rfl rfl rfl (ok_iconst 9 rfl rfl (by decide) (ok_putZ 10 rfl rfl fl_X9_25 (sT ht) rfl rfl rfl (by first | omega | (simp [up_if]; omega) | (simp [up_if] at *; omega)) (ok_aload_n 11 rfl rfl rfl (ok_iconst 12 rfl rfl (by decide) (ok_putZ 13 rfl rfl fl_X9_33 (sT ht) rfl rfl rfl (by first | omega | (simp [up_if]; omega) | (simp [up_if] at *; omega)) ?_)))))))))))))
  rw [← eτ]
  refine ok_aload_n 14 rfl rfl rfl (ok_getI 15 rfl rfl fl_X9_15 (sT ht) rfl (Or.inl rfl) (ok_if_le 16 51 rfl rfl rfl (fun h28 => ?_) (fun h28 => ?_)))
  · refine ok_iconst 27 rfl rfl (by decide) (ok_ist3 28 rfl rfl rfl (ok_aload_n 29 rfl rfl rfl (ok_iload_n 30 rfl rfl rfl (ok_if_eq 31 66 rfl rfl rfl (fun h55 => ?_) (fun h55 => ?_)))))
    · refine ok_iconst 36 rfl rfl (by decide) (ok_putI 37 rfl rfl fl_X9_22 (sT ht) rfl rfl rfl (ok_vret 38 rfl rfl rfl ?_))
      first
        | exact ⟨rfl, fin _ (Or.inl ⟨rfl, fun q => by have := q.1; omega⟩)⟩
        | exact ⟨rfl, fin _ (Or.inl ⟨rfl, fun q => by have := hm.mpr ⟨q.2.2.1, q.2.2.2⟩; omega⟩)⟩
        | exact ⟨rfl, fin _ (Or.inl ⟨rfl, fun q => by have := q.2.1; omega⟩)⟩
        | (exfalso; omega)
        | exact ⟨rfl, fin _ (Or.inr ⟨⟨by omega, by omega, (hm.mp (by omega)).1, (hm.mp (by omega)).2⟩, rfl⟩)⟩
    · refine ok_aload_n 32 rfl rfl rfl (ok_iconst 33 rfl rfl (by decide) (ok_callVI (M' := M_Ta_sumOfRow) (as := [_]) 34 rfl rfl ml_X9_52 (s_Ta_sumOfRow ht hT ⟨by omega, by omega⟩) (sT ht) rfl (Nat.le_of_ble_eq_true rfl) ⟨Nat.le_of_ble_eq_true rfl, Nat.le_of_ble_eq_true rfl⟩ rfl (Nat.le_of_ble_eq_true rfl) (fun σ' z hz => ?_)))
      rw [hz.1, hz.2]
      clear hz z σ'
      refine ok_goto 35 67 rfl rfl rfl (ok_putI 37 rfl rfl fl_X9_22 (sT ht) rfl rfl rfl (ok_vret 38 rfl rfl rfl ?_))
      first
        | exact ⟨rfl, fin _ (Or.inl ⟨rfl, fun q => by have := q.1; omega⟩)⟩
        | exact ⟨rfl, fin _ (Or.inl ⟨rfl, fun q => by have := hm.mpr ⟨q.2.2.1, q.2.2.2⟩; omega⟩)⟩
        | exact ⟨rfl, fin _ (Or.inl ⟨rfl, fun q => by have := q.2.1; omega⟩)⟩
        | (exfalso; omega)
        | exact ⟨rfl, fin _ (Or.inr ⟨⟨by omega, by omega, (hm.mp (by omega)).1, (hm.mp (by omega)).2⟩, rfl⟩)⟩
  · refine ok_aload_n 17 rfl rfl rfl (ok_callVI (M' := M_Ta_firstUneven) (as := []) 18 rfl rfl ml_X9_48 (s_Ta_firstUneven ht hT) (sT ht) rfl (Nat.le_of_ble_eq_true rfl) ⟨Nat.le_of_ble_eq_true rfl, Nat.le_of_ble_eq_true rfl⟩ rfl (Nat.le_of_ble_eq_true rfl) (fun σ' z hz => ?_))
    obtain ⟨hs_, hz⟩ := hz
    rw [hs_]; clear hs_ σ'
    have hm := unev_m1 hz
    refine ok_iconst 19 rfl rfl (by decide) (ok_icmp_ne 20 51 rfl rfl rfl (fun h36 => ?_) (fun h36 => ?_))
    · refine ok_iconst 27 rfl rfl (by decide) (ok_ist3 28 rfl rfl rfl (ok_aload_n 29 rfl rfl rfl (ok_iload_n 30 rfl rfl rfl (ok_if_eq 31 66 rfl rfl rfl (fun h55 => ?_) (fun h55 => ?_)))))
      · refine ok_iconst 36 rfl rfl (by decide) (ok_putI 37 rfl rfl fl_X9_22 (sT ht) rfl rfl rfl (ok_vret 38 rfl rfl rfl ?_))
        first
          | exact ⟨rfl, fin _ (Or.inl ⟨rfl, fun q => by have := q.1; omega⟩)⟩
          | exact ⟨rfl, fin _ (Or.inl ⟨rfl, fun q => by have := hm.mpr ⟨q.2.2.1, q.2.2.2⟩; omega⟩)⟩
          | exact ⟨rfl, fin _ (Or.inl ⟨rfl, fun q => by have := q.2.1; omega⟩)⟩
          | (exfalso; omega)
          | exact ⟨rfl, fin _ (Or.inr ⟨⟨by omega, by omega, (hm.mp (by omega)).1, (hm.mp (by omega)).2⟩, rfl⟩)⟩
      · refine ok_aload_n 32 rfl rfl rfl (ok_iconst 33 rfl rfl (by decide) (ok_callVI (M' := M_Ta_sumOfRow) (as := [_]) 34 rfl rfl ml_X9_52 (s_Ta_sumOfRow ht hT ⟨by omega, by omega⟩) (sT ht) rfl (Nat.le_of_ble_eq_true rfl) ⟨Nat.le_of_ble_eq_true rfl, Nat.le_of_ble_eq_true rfl⟩ rfl (Nat.le_of_ble_eq_true rfl) (fun σ' z hz => ?_)))
        rw [hz.1, hz.2]
        clear hz z σ'
        refine ok_goto 35 67 rfl rfl rfl (ok_putI 37 rfl rfl fl_X9_22 (sT ht) rfl rfl rfl (ok_vret 38 rfl rfl rfl ?_))
        first
          | exact ⟨rfl, fin _ (Or.inl ⟨rfl, fun q => by have := q.1; omega⟩)⟩
          | exact ⟨rfl, fin _ (Or.inl ⟨rfl, fun q => by have := hm.mpr ⟨q.2.2.1, q.2.2.2⟩; omega⟩)⟩
          | exact ⟨rfl, fin _ (Or.inl ⟨rfl, fun q => by have := q.2.1; omega⟩)⟩
          | (exfalso; omega)
          | exact ⟨rfl, fin _ (Or.inr ⟨⟨by omega, by omega, (hm.mp (by omega)).1, (hm.mp (by omega)).2⟩, rfl⟩)⟩
    · refine ok_aload_n 21 rfl rfl rfl (ok_iconst 22 rfl rfl (by decide) (ok_callVI (M' := M_Ta_sumOfRow) (as := [_]) 23 rfl rfl ml_X9_52 (s_Ta_sumOfRow ht hT ⟨by omega, by omega⟩) (sT ht) rfl (Nat.le_of_ble_eq_true rfl) ⟨Nat.le_of_ble_eq_true rfl, Nat.le_of_ble_eq_true rfl⟩ rfl (Nat.le_of_ble_eq_true rfl) (fun σ' z hz => ?_)))
      rw [hz.1, hz.2]
      clear hz z σ'
      refine ok_if_le 24 51 rfl rfl rfl (fun h44 => ?_) (fun h44 => ?_)
      · refine ok_iconst 27 rfl rfl (by decide) (ok_ist3 28 rfl rfl rfl (ok_aload_n 29 rfl rfl rfl (ok_iload_n 30 rfl rfl rfl (ok_if_eq 31 66 rfl rfl rfl (fun h55 => ?_) (fun h55 => ?_)))))
        · refine ok_iconst 36 rfl rfl (by decide) (ok_putI 37 rfl rfl fl_X9_22 (sT ht) rfl rfl rfl (ok_vret 38 rfl rfl rfl ?_))
          first
            | exact ⟨rfl, fin _ (Or.inl ⟨rfl, fun q => by have := q.1; omega⟩)⟩
            | exact ⟨rfl, fin _ (Or.inl ⟨rfl, fun q => by have := hm.mpr ⟨q.2.2.1, q.2.2.2⟩; omega⟩)⟩
            | exact ⟨rfl, fin _ (Or.inl ⟨rfl, fun q => by have := q.2.1; omega⟩)⟩
            | (exfalso; omega)
            | exact ⟨rfl, fin _ (Or.inr ⟨⟨by omega, by omega, (hm.mp (by omega)).1, (hm.mp (by omega)).2⟩, rfl⟩)⟩
        · refine ok_aload_n 32 rfl rfl rfl (ok_iconst 33 rfl rfl (by decide) (ok_callVI (M' := M_Ta_sumOfRow) (as := [_]) 34 rfl rfl ml_X9_52 (s_Ta_sumOfRow ht hT ⟨by omega, by omega⟩) (sT ht) rfl (Nat.le_of_ble_eq_true rfl) ⟨Nat.le_of_ble_eq_true rfl, Nat.le_of_ble_eq_true rfl⟩ rfl (Nat.le_of_ble_eq_true rfl) (fun σ' z hz => ?_)))
          rw [hz.1, hz.2]
          clear hz z σ'
          refine ok_goto 35 67 rfl rfl rfl (ok_putI 37 rfl rfl fl_X9_22 (sT ht) rfl rfl rfl (ok_vret 38 rfl rfl rfl ?_))
          first
            | exact ⟨rfl, fin _ (Or.inl ⟨rfl, fun q => by have := q.1; omega⟩)⟩
            | exact ⟨rfl, fin _ (Or.inl ⟨rfl, fun q => by have := hm.mpr ⟨q.2.2.1, q.2.2.2⟩; omega⟩)⟩
            | exact ⟨rfl, fin _ (Or.inl ⟨rfl, fun q => by have := q.2.1; omega⟩)⟩
            | (exfalso; omega)
            | exact ⟨rfl, fin _ (Or.inr ⟨⟨by omega, by omega, (hm.mp (by omega)).1, (hm.mp (by omega)).2⟩, rfl⟩)⟩
      · refine ok_iconst 25 rfl rfl (by decide) (ok_goto 26 52 rfl rfl rfl (ok_ist3 28 rfl rfl rfl (ok_aload_n 29 rfl rfl rfl (ok_iload_n 30 rfl rfl rfl (ok_if_eq 31 66 rfl rfl rfl (fun h55 => ?_) (fun h55 => ?_))))))
        · refine ok_iconst 36 rfl rfl (by decide) (ok_putI 37 rfl rfl fl_X9_22 (sT ht) rfl rfl rfl (ok_vret 38 rfl rfl rfl ?_))
          first
            | exact ⟨rfl, fin _ (Or.inl ⟨rfl, fun q => by have := q.1; omega⟩)⟩
            | exact ⟨rfl, fin _ (Or.inl ⟨rfl, fun q => by have := hm.mpr ⟨q.2.2.1, q.2.2.2⟩; omega⟩)⟩
            | exact ⟨rfl, fin _ (Or.inl ⟨rfl, fun q => by have := q.2.1; omega⟩)⟩
            | (exfalso; omega)
            | exact ⟨rfl, fin _ (Or.inr ⟨⟨by omega, by omega, (hm.mp (by omega)).1, (hm.mp (by omega)).2⟩, rfl⟩)⟩
        · refine ok_aload_n 32 rfl rfl rfl (ok_iconst 33 rfl rfl (by decide) (ok_callVI (M' := M_Ta_sumOfRow) (as := [_]) 34 rfl rfl ml_X9_52 (s_Ta_sumOfRow ht hT ⟨by omega, by omega⟩) (sT ht) rfl (Nat.le_of_ble_eq_true rfl) ⟨Nat.le_of_ble_eq_true rfl, Nat.le_of_ble_eq_true rfl⟩ rfl (Nat.le_of_ble_eq_true rfl) (fun σ' z hz => ?_)))
          rw [hz.1, hz.2]
          clear hz z σ'
          refine ok_goto 35 67 rfl rfl rfl (ok_putI 37 rfl rfl fl_X9_22 (sT ht) rfl rfl rfl (ok_vret 38 rfl rfl rfl ?_))
          first
            | exact ⟨rfl, fin _ (Or.inl ⟨rfl, fun q => by have := q.1; omega⟩)⟩
            | exact ⟨rfl, fin _ (Or.inl ⟨rfl, fun q => by have := hm.mpr ⟨q.2.2.1, q.2.2.2⟩; omega⟩)⟩
            | exact ⟨rfl, fin _ (Or.inl ⟨rfl, fun q => by have := q.2.1; omega⟩)⟩
            | (exfalso; omega)
            | exact ⟨rfl, fin _ (Or.inr ⟨⟨by omega, by omega, (hm.mp (by omega)).1, (hm.mp (by omega)).2⟩, rfl⟩)⟩
end
section
abbrev rgFi (t : Nat) : Nat → Int → Prop := fun c k => (c = 10 ∧ (k = 4 ∨ k = 5)) ∨ (c = t ∧ (k = 1 ∨ k = 2 ∨ k = 3 ∨ k = 4 ∨ k = 6)) ∨ c = t + 4
theorem mT_cg {σ τ : eS} {t : Nat} (h : mT σ t) (e1 : τ t 1 = σ t 1) (e3 : τ t 3 = σ t 3) (e : ∀ k, τ (t + 4) k = σ (t + 4) k) : mT τ t := by
  have r : rowT τ t = rowT σ t := by funext i; unfold rowT cT; simp only [e1, e]
  have c : colT τ t = colT σ t := by funext i; unfold colT cT; simp only [e1, e]
  unfold mT evT
  rw [r, c, e1, e3]
  exact h
theorem tA_10 {t : Nat} (h : tA t) : t ≠ 10 ∧ t + 4 ≠ 10 ∧ t ≠ 11 ∧ t ≠ 12 ∧ t ≠ 13 ∧ t + 4 ≠ 11 ∧ t + 4 ≠ 12 ∧ t + 4 ≠ 13 ∧ t ≤ 5 ∧ 2 ≤ t := by
  unfold tA at h
  omega
end
section
abbrev rgRI (t : Nat) : Nat → Int → Prop := fun c k => (c = 10 ∧ 3 ≤ k ∧ k ≤ 9) ∨ c = 12 ∨ c = 13 ∨ (c = t ∧ (k = 1 ∨ k = 2 ∨ k = 3 ∨ k = 4 ∨ k = 6)) ∨ c = t + 4
theorem sl_at {s : Int} (h : 0 ≤ s ∧ s < 4) : ([2, 3, 4, 5] : List Nat)[s.toNat]? = some (s.toNat + 2) := by
  rcases (by omega : s = 0 ∨ s = 1 ∨ s = 2 ∨ s = 3) with q | q | q | q <;> subst q <;> rfl
theorem sl_tA {s : Int} (h : 0 ≤ s ∧ s < 4) : tA (s.toNat + 2) := by unfold tA; omega
def SL (s : Int) (z : Option Nat) : Prop := (z = none ∧ ¬ (0 ≤ s ∧ s < 4)) ∨ (0 ≤ s ∧ s < 4 ∧ z = some (s.toNat + 2))
theorem s_Ev_slotAt {σ : eS} {s : Int} : MtR shA M_Ev_slotAt [vr 0, vi s] σ (fun σ' z => σ' = σ ∧ SL s z) := by
  refine Mt.of okM_Ev_slotAt (Nat.le_of_ble_eq_true rfl) (fun hk hg => ?_)
  refine ok_iload_n 0 rfl rfl rfl (ok_if_lt 1 9 rfl rfl rfl (fun h1 => ?_) (fun h1 => ?_))
  · refine ok_null 5 rfl rfl (ok_goto 6 19 rfl rfl rfl (ok_aretN 11 rfl rfl rfl ?_))
    exact ⟨_, rfl, rfl, Or.inl ⟨rfl, by omega⟩⟩
  · refine ok_iload_n 2 rfl rfl rfl (ok_iconst 3 rfl rfl (by decide) (ok_icmp_lt 4 13 rfl rfl rfl (fun h6 => ?_) (fun h6 => ?_)))
    · refine ok_aload_n 7 rfl rfl rfl (ok_getR 8 rfl rfl fl_X11_11 rfl rfl (ok_iload_n 9 rfl rfl rfl (ok_aald 10 (s.toNat + 2) rfl rfl rfl (Or.inl rfl) (by omega) (sl_at (by omega)) (ok_aret 11 rfl rfl rfl ?_))))
      exact ⟨_, rfl, rfl, Or.inr ⟨by omega, by omega, rfl⟩⟩
    · refine ok_null 5 rfl rfl (ok_goto 6 19 rfl rfl rfl (ok_aretN 11 rfl rfl rfl ?_))
      exact ⟨_, rfl, rfl, Or.inl ⟨rfl, by omega⟩⟩
/-- a slot that there is, and what it holds, or null -/
def SF (P : Nat → Prop) (s : Int) (z : Option Nat) : Prop := (z = none ∧ ¬ (0 ≤ s ∧ s < 4 ∧ P (s.toNat + 2))) ∨ (0 ≤ s ∧ s < 4 ∧ z = some (s.toNat + 2) ∧ P (s.toNat + 2))
theorem s_Ev_filledSlot {σ : eS} {s : Int} : MtR shA M_Ev_filledSlot [vr 0, vi s] σ (fun σ' z => σ' = σ ∧ SF (fun t => σ t 1 ≠ 0) s z) := by
  refine Mt.of okM_Ev_filledSlot (Nat.le_of_ble_eq_true rfl) (fun hk hg => ?_)
  refine ok_aload_n 0 rfl rfl rfl (ok_iload_n 1 rfl rfl rfl (ok_callVR (M' := M_Ev_slotAt) (as := [_]) 2 rfl rfl ml_X11_86 (s_Ev_slotAt) rfl rfl (Nat.le_of_ble_eq_true rfl) ⟨Nat.le_of_ble_eq_true rfl, Nat.le_of_ble_eq_true rfl⟩ rfl (Nat.le_of_ble_eq_true rfl) (fun σ' z hz => ?_)))
  obtain ⟨hs_, hz⟩ := hz
  rw [hs_]; clear hs_ σ'
  rcases hz with ⟨q, q2⟩ | ⟨q1, q2, q⟩
  · subst q
    refine ok_ast2 3 rfl rfl rfl (ok_aload_n 4 rfl rfl rfl (ok_ifnullN 5 17 rfl rfl rfl (ok_null 9 rfl rfl (ok_goto 10 22 rfl rfl rfl (ok_aretN 12 rfl rfl rfl ?_)))))
    exact ⟨_, rfl, rfl, Or.inl ⟨rfl, fun w => q2 ⟨w.1, w.2.1⟩⟩⟩
  · subst q
    have ht := sl_tA ⟨q1, q2⟩
    refine ok_ast2 3 rfl rfl rfl (ok_aload_n 4 rfl rfl rfl (ok_ifnull 5 rfl rfl (ok_aload_n 6 rfl rfl rfl (ok_getI 7 rfl rfl fl_X11_103 (sT ht) rfl (Or.inl rfl) (ok_if_ne 8 21 rfl rfl rfl (fun h14 => ?_) (fun h14 => ?_))))))
    · refine ok_aload_n 11 rfl rfl rfl (ok_aret 12 rfl rfl rfl ?_)
      exact ⟨_, rfl, rfl, Or.inr ⟨q1, q2, rfl, h14⟩⟩
    · refine ok_null 9 rfl rfl (ok_goto 10 22 rfl rfl rfl (ok_aretN 12 rfl rfl rfl ?_))
      exact ⟨_, rfl, rfl, Or.inl ⟨rfl, fun w => w.2.2 (by omega)⟩⟩
theorem s_Ev_evenSlot {σ : eS} {s : Int} : MtR shA M_Ev_evenSlot [vr 0, vi s] σ (fun σ' z => σ' = σ ∧ SF (fun t => σ t 3 ≠ -1) s z) := by
  refine Mt.of okM_Ev_evenSlot (Nat.le_of_ble_eq_true rfl) (fun hk hg => ?_)
  refine ok_aload_n 0 rfl rfl rfl (ok_iload_n 1 rfl rfl rfl (ok_callVR (M' := M_Ev_slotAt) (as := [_]) 2 rfl rfl ml_X11_86 (s_Ev_slotAt) rfl rfl (Nat.le_of_ble_eq_true rfl) ⟨Nat.le_of_ble_eq_true rfl, Nat.le_of_ble_eq_true rfl⟩ rfl (Nat.le_of_ble_eq_true rfl) (fun σ' z hz => ?_)))
  obtain ⟨hs_, hz⟩ := hz
  rw [hs_]; clear hs_ σ'
  rcases hz with ⟨q, q2⟩ | ⟨q1, q2, q⟩
  · subst q
    refine ok_ast2 3 rfl rfl rfl (ok_aload_n 4 rfl rfl rfl (ok_ifnullN 5 18 rfl rfl rfl (ok_null 10 rfl rfl (ok_goto 11 23 rfl rfl rfl (ok_aretN 13 rfl rfl rfl ?_)))))
    exact ⟨_, rfl, rfl, Or.inl ⟨rfl, fun w => q2 ⟨w.1, w.2.1⟩⟩⟩
  · subst q
    have ht := sl_tA ⟨q1, q2⟩
    refine ok_ast2 3 rfl rfl rfl (ok_aload_n 4 rfl rfl rfl (ok_ifnull 5 rfl rfl (ok_aload_n 6 rfl rfl rfl (ok_getI 7 rfl rfl fl_X11_109 (sT ht) rfl (Or.inl rfl) (ok_iconst 8 rfl rfl (by decide) (ok_icmp_ne 9 22 rfl rfl rfl (fun h15 => ?_) (fun h15 => ?_)))))))
    · refine ok_aload_n 12 rfl rfl rfl (ok_aret 13 rfl rfl rfl ?_)
      exact ⟨_, rfl, rfl, Or.inr ⟨q1, q2, rfl, h15⟩⟩
    · refine ok_null 10 rfl rfl (ok_goto 11 23 rfl rfl rfl (ok_aretN 13 rfl rfl rfl ?_))
      exact ⟨_, rfl, rfl, Or.inl ⟨rfl, fun w => w.2.2 (by omega)⟩⟩
end
section
/-! counting bits; joins as longs -/
def bc1 (a : Int) : Int := wr (a - iand (iushr a 1) 1431655765)
def bc2 (a : Int) : Int := wr (iand a 858993459 + iand (iushr a 2) 858993459)
def bc3 (a : Int) : Int := iand (wr (a + iushr a 4)) 252645135
def bc4 (a : Int) : Int := wr (a + iushr a 8)
def bc5 (a : Int) : Int := wr (a + iushr a 16)
def bcI (a : Int) : Int := iand (bc5 (bc4 (bc3 (bc2 (bc1 a))))) 63
theorem bc_pc : ∀ s : Fin 256, bcI (s.val : Int) = pc (s.val : Int) := by decide +kernel
theorem bcP {s : Int} (h : 0 ≤ s ∧ s < 256) : bcI s = pc s := fin1 (P := fun s => bcI s = pc s) bc_pc h.1 h.2
theorem s_Ji_bitCount {σ : eS} {a : Int} : MtI shA M_Ji_bitCount [vi a] σ (fun σ' z => σ' = σ ∧ z = bcI a) := by
  refine Mt.of okM_Ji_bitCount (Nat.le_of_ble_eq_true rfl) (fun hk hg => ?_)
  refine ok_iload_n 0 rfl rfl rfl (ok_iload_n 1 rfl rfl rfl (ok_iconst 2 rfl rfl (by decide) (ok_iushr 3 rfl rfl (ok_ldcw 4 (1431655765) rfl rfl kc_J6_265 (by decide) (ok_iand 5 rfl rfl (ok_isubW 6 rfl rfl (ok_ist0 7 rfl rfl (ok_iload_n 8 rfl rfl rfl (ok_ldcw 9 (858993459) rfl rfl kc_J6_266 (by decide) (ok_iand 10 rfl rfl (ok_iload_n 11 rfl rfl rfl (ok_iconst 12 rfl rfl (by decide) (ok_iushr 13 rfl rfl (ok_ldcw 14 (858993459) rfl rfl kc_J6_266 (by decide) (ok_iand 15 rfl rfl (ok_iaddW 16 rfl rfl (ok_ist0 17 rfl rfl (ok_iload_n 18 rfl rfl rfl (ok_iload_n 19 rfl rfl rfl (ok_iconst 20 rfl rfl (by decide) (ok_iushr 21 rfl rfl (ok_iaddW 22 rfl rfl (ok_ldcw 23 (252645135) rfl rfl kc_J6_267 (by decide) (ok_iand 24 rfl rfl (ok_ist0 25 rfl rfl (ok_iload_n 26 rfl rfl rfl (ok_iload_n 27 rfl rfl rfl (ok_bipush 28 rfl rfl (by decide) (by decide) (ok_iushr 29 rfl rfl (ok_iaddW 30 rfl rfl (ok_ist0 31 rfl rfl (ok_iload_n 32 rfl rfl rfl (ok_iload_n 33 rfl rfl rfl (ok_bipush 34 rfl rfl (by decide) (by decide) (ok_iushr 35 rfl rfl (ok_iaddW 36 rfl rfl (ok_ist0 37 rfl rfl (ok_iload_n 38 rfl rfl rfl (ok_bipush 39 rfl rfl (by decide) (by decide) (ok_iand 40 rfl rfl (ok_iret 41 rfl rfl rfl ?_)))))))))))))))))))))))))))))))))))))))))
  exact ⟨_, rfl, rfl, rfl⟩
theorem s_Jl_bitCount {σ : eS} {a : Int} : MtI shA M_Jl_bitCount [vl a] σ (fun σ' _ => σ' = σ ∧ True) := by
  refine Mt.of okM_Jl_bitCount (Nat.le_of_ble_eq_true rfl) (fun hk hg => ?_)
  refine ok_lload_n 0 rfl rfl rfl (ok_lload_n 1 rfl rfl rfl (ok_iconst 2 rfl rfl (by decide) (ok_lushr 3 rfl rfl (ok_ldc2 4 (6148914691236517205) rfl rfl kc_J13_314 (by decide) (ok_land 5 rfl rfl (ok_lsubW 6 rfl rfl (ok_lst0 7 rfl rfl (ok_lload_n 8 rfl rfl rfl (ok_ldc2 9 (3689348814741910323) rfl rfl kc_J13_316 (by decide) (ok_land 10 rfl rfl (ok_lload_n 11 rfl rfl rfl (ok_iconst 12 rfl rfl (by decide) (ok_lushr 13 rfl rfl (ok_ldc2 14 (3689348814741910323) rfl rfl kc_J13_316 (by decide) (ok_land 15 rfl rfl (ok_laddW 16 rfl rfl (ok_lst0 17 rfl rfl (ok_lload_n 18 rfl rfl rfl (ok_lload_n 19 rfl rfl rfl (ok_iconst 20 rfl rfl (by decide) (ok_lushr 21 rfl rfl (ok_laddW 22 rfl rfl (ok_ldc2 23 (1085102592571150095) rfl rfl kc_J13_318 (by decide) (ok_land 24 rfl rfl (ok_lst0 25 rfl rfl (ok_lload_n 26 rfl rfl rfl (ok_lload_n 27 rfl rfl rfl (ok_bipush 28 rfl rfl (by decide) (by decide) (ok_lushr 29 rfl rfl (ok_laddW 30 rfl rfl (ok_lst0 31 rfl rfl (ok_lload_n 32 rfl rfl rfl (ok_lload_n 33 rfl rfl rfl (ok_bipush 34 rfl rfl (by decide) (by decide) (ok_lushr 35 rfl rfl (ok_laddW 36 rfl rfl (ok_lst0 37 rfl rfl (ok_lload_n 38 rfl rfl rfl (ok_lload_n 39 rfl rfl rfl (ok_bipush 40 rfl rfl (by decide) (by decide) (ok_lushr 41 rfl rfl (ok_laddW 42 rfl rfl (ok_lst0 43 rfl rfl (ok_lload_n 44 rfl rfl rfl (ok_l2iW 45 rfl rfl (ok_bipush 46 rfl rfl (by decide) (by decide) (ok_iand 47 rfl rfl (ok_iret 48 rfl rfl rfl ?_))))))))))))))))))))))))))))))))))))))))))))))))
  exact ⟨_, rfl, rfl, trivial⟩
def rowJ (J r : Int) : Int := wr (land (lushr J (wr (r * 8))) 255)
theorem s_Jo_rowOf {σ : eS} {J r : Int} : MtI shA M_Jo_rowOf [vl J, vi r] σ (fun σ' z => σ' = σ ∧ z = rowJ J r) := by
  refine Mt.of okM_Jo_rowOf (Nat.le_of_ble_eq_true rfl) (fun hk hg => ?_)
  refine ok_lload_n 0 rfl rfl rfl (ok_iload_n 1 rfl rfl rfl (ok_bipush 2 rfl rfl (by decide) (by decide) (ok_imulW 3 rfl rfl (ok_lushr 4 rfl rfl (ok_ldc2 5 (255) rfl rfl kc_X1_11 (by decide) (ok_land 6 rfl rfl (ok_l2iW 7 rfl rfl (ok_iret 8 rfl rfl rfl ?_))))))))
  exact ⟨_, rfl, rfl, rfl⟩
theorem s_Jo_of {σ : eS} {c : Nat} {n m : Int} (hs : nth shA c = some (1, 64, [])) (hn : n ≤ 8) : MtL shA M_Jo_of [vr c, vi n, vi m] σ (fun σ' _ => σ' = σ ∧ True) := by
  refine Mt.of okM_Jo_of (Nat.le_of_ble_eq_true rfl) (fun hk hg => ?_)
  refine ok_lconst (w := 0) 0 rfl rfl rfl (by decide) (ok_lst3 1 rfl rfl rfl (ok_iconst 2 rfl rfl (by decide) (ok_ist5 3 rfl rfl rfl ?_)))
  refine lpO2 (fun v i : Int => [some (vr c), some (vi n), some (vi m), some (vl v), none, some (vi i), none, none]) (fun _ _ => σ) (fun _ i => 0 ≤ i ∧ i ≤ 8) (fun _ i => (8 - i).toNat) ?_ 0 0 ⟨by omega, by omega⟩
  rintro v i ⟨i1, i2⟩ ih
  refine ok_iload 4 rfl rfl rfl (ok_iload_n 5 rfl rfl rfl (ok_icmp_ge 6 57 rfl rfl rfl (fun h8 => ?_) (fun h8 => ?_)))
  · refine ok_lload_n 33 rfl rfl rfl (ok_lret 34 rfl rfl rfl ?_)
    exact ⟨_, rfl, rfl, trivial⟩
  · refine ok_iconst 7 rfl rfl (by decide) (ok_ist6 8 rfl rfl rfl ?_)
    refine lpO2 (fun v j : Int => [some (vr c), some (vi n), some (vi m), some (vl v), none, some (vi i), some (vi j), none]) (fun _ _ => σ) (fun _ j => 0 ≤ j ∧ j ≤ 8) (fun _ j => (8 - j).toNat) ?_ v 0 ⟨by omega, by omega⟩
    clear v
    rintro v j ⟨j1, j2⟩ ih2
    refine ok_iload 9 rfl rfl rfl (ok_iload_n 10 rfl rfl rfl (ok_icmp_ge 11 51 rfl rfl rfl (fun h17 => ?_) (fun h17 => ?_)))
    · refine ok_inc5 31 rfl rfl rfl (by first | omega | (simp [up_if]; omega) | (simp [up_if] at *; omega)) (ok_goto 32 5 rfl rfl rfl ?_)
      exact ok_fg [some (vr c), some (vi n), some (vi m), some (vl _), none, some (vi (i + 1)), none, none] ⟨rfl, rfl, rfl, rfl, rfl, trivial⟩ (ih _ (i + 1) ⟨by omega, by omega⟩ (by omega))
    · refine ok_iload 12 rfl rfl rfl (ok_bipush 13 rfl rfl (by decide) (by decide) (ok_imul 14 rfl rfl (by first | omega | (simp [up_if]; omega) | (simp [up_if] at *; omega)) (ok_iload 15 rfl rfl rfl (ok_iadd 16 rfl rfl (by first | omega | (simp [up_if]; omega) | (simp [up_if] at *; omega)) (ok_ist7 17 rfl rfl rfl (ok_aload_n 18 rfl rfl rfl (ok_iload 19 rfl rfl rfl (ok_iald 20 rfl rfl hs (by first | omega | (simp [up_if]; omega) | (simp [up_if] at *; omega)) (ok_iload_n 21 rfl rfl rfl (ok_icmp_lt 22 45 rfl rfl rfl (fun h35 => ?_) (fun h35 => ?_)))))))))))
      · refine ok_inc6 29 rfl rfl rfl (by first | omega | (simp [up_if]; omega) | (simp [up_if] at *; omega)) (ok_goto 30 14 rfl rfl rfl ?_)
        exact ok_fg [some (vr c), some (vi n), some (vi m), some (vl _), none, some (vi i), some (vi (j + 1)), none] ⟨rfl, rfl, rfl, rfl, rfl, rfl, trivial⟩ (ih2 _ (j + 1) ⟨by omega, by omega⟩ (by omega))
      · refine ok_lload_n 23 rfl rfl rfl (ok_lconst (w := 1) 24 rfl rfl rfl (by decide) (ok_iload 25 rfl rfl rfl (ok_lshl 26 rfl rfl (ok_lor 27 rfl rfl (ok_lst3 28 rfl rfl rfl (ok_inc6 29 rfl rfl rfl (by first | omega | (simp [up_if]; omega) | (simp [up_if] at *; omega)) (ok_goto 30 14 rfl rfl rfl ?_)))))))
        exact ok_fg [some (vr c), some (vi n), some (vi m), some (vl _), none, some (vi i), some (vi (j + 1)), none] ⟨rfl, rfl, rfl, rfl, rfl, rfl, trivial⟩ (ih2 _ (j + 1) ⟨by omega, by omega⟩ (by omega))
theorem s_Jo_columnsOf {σ : eS} {J s n : Int} (hn : n ≤ 8) : MtI shA M_Jo_columnsOf [vl J, vi s, vi n] σ (fun σ' _ => σ' = σ ∧ True) := by
  refine Mt.of okM_Jo_columnsOf (Nat.le_of_ble_eq_true rfl) (fun hk hg => ?_)
  refine ok_iconst 0 rfl rfl (by decide) (ok_ist4 1 rfl rfl rfl (ok_iconst 2 rfl rfl (by decide) (ok_ist5 3 rfl rfl rfl ?_)))
  refine lpO2 (fun v j : Int => [some (vl J), none, some (vi s), some (vi n), some (vi v), some (vi j)]) (fun _ _ => σ) (fun _ j => 0 ≤ j ∧ j ≤ 8) (fun _ j => (8 - j).toNat) ?_ 0 0 ⟨by omega, by omega⟩
  rintro v j ⟨j1, j2⟩ ih
  refine ok_iload 4 rfl rfl rfl (ok_iload_n 5 rfl rfl rfl (ok_icmp_ge 6 38 rfl rfl rfl (fun h9 => ?_) (fun h9 => ?_)))
  · refine ok_iload 21 rfl rfl rfl (ok_iret 22 rfl rfl rfl ?_)
    exact ⟨_, rfl, rfl, trivial⟩
  · refine ok_iload_n 7 rfl rfl rfl (ok_iload 8 rfl rfl rfl (ok_ishr 9 rfl rfl (ok_iconst 10 rfl rfl (by decide) (ok_iand 11 rfl rfl (ok_if_eq 12 32 rfl rfl rfl (fun h18 => ?_) (fun h18 => ?_))))))
    · refine ok_inc5 19 rfl rfl rfl (by first | omega | (simp [up_if]; omega) | (simp [up_if] at *; omega)) (ok_goto 20 6 rfl rfl rfl ?_)
      exact ih _ (j + 1) ⟨by omega, by omega⟩ (by omega)
    · refine ok_iload 13 rfl rfl rfl (ok_lload_n 14 rfl rfl rfl (ok_iload 15 rfl rfl rfl (ok_callSI (M' := M_Jo_rowOf) (as := [_, _]) 16 rfl rfl ml_X1_17 (s_Jo_rowOf) ⟨Nat.le_of_ble_eq_true rfl, Nat.le_of_ble_eq_true rfl⟩ rfl (Nat.le_of_ble_eq_true rfl) (fun σ' z hz => ?_))))
      rw [hz.1, hz.2]
      clear hz z σ'
      refine ok_ior 17 rfl rfl (ok_ist4 18 rfl rfl rfl (ok_inc5 19 rfl rfl rfl (by first | omega | (simp [up_if]; omega) | (simp [up_if] at *; omega)) (ok_goto 20 6 rfl rfl rfl ?_)))
      exact ih _ (j + 1) ⟨by omega, by omega⟩ (by omega)
theorem s_Jo_rowsOf {σ : eS} {J s n : Int} (hn : n ≤ 8) : MtI shA M_Jo_rowsOf [vl J, vi s, vi n] σ (fun σ' _ => σ' = σ ∧ True) := by
  refine Mt.of okM_Jo_rowsOf (Nat.le_of_ble_eq_true rfl) (fun hk hg => ?_)
  refine ok_iconst 0 rfl rfl (by decide) (ok_ist4 1 rfl rfl rfl (ok_iconst 2 rfl rfl (by decide) (ok_ist5 3 rfl rfl rfl ?_)))
  refine lpO2 (fun v j : Int => [some (vl J), none, some (vi s), some (vi n), some (vi v), some (vi j)]) (fun _ _ => σ) (fun _ j => 0 ≤ j ∧ j ≤ 8) (fun _ j => (8 - j).toNat) ?_ 0 0 ⟨by omega, by omega⟩
  rintro v j ⟨j1, j2⟩ ih
  refine ok_iload 4 rfl rfl rfl (ok_iload_n 5 rfl rfl rfl (ok_icmp_ge 6 38 rfl rfl rfl (fun h9 => ?_) (fun h9 => ?_)))
  · refine ok_iload 21 rfl rfl rfl (ok_iret 22 rfl rfl rfl ?_)
    exact ⟨_, rfl, rfl, trivial⟩
  · refine ok_lload_n 7 rfl rfl rfl (ok_iload 8 rfl rfl rfl (ok_callSI (M' := M_Jo_rowOf) (as := [_, _]) 9 rfl rfl ml_X1_17 (s_Jo_rowOf) ⟨Nat.le_of_ble_eq_true rfl, Nat.le_of_ble_eq_true rfl⟩ rfl (Nat.le_of_ble_eq_true rfl) (fun σ' z hz => ?_)))
    rw [hz.1, hz.2]
    clear hz z σ'
    refine ok_iload_n 10 rfl rfl rfl (ok_iand 11 rfl rfl (ok_if_eq 12 32 rfl rfl rfl (fun h20 => ?_) (fun h20 => ?_)))
    · refine ok_inc5 19 rfl rfl rfl (by first | omega | (simp [up_if]; omega) | (simp [up_if] at *; omega)) (ok_goto 20 6 rfl rfl rfl ?_)
      exact ih _ (j + 1) ⟨by omega, by omega⟩ (by omega)
    · refine ok_iload 13 rfl rfl rfl (ok_iconst 14 rfl rfl (by decide) (ok_iload 15 rfl rfl rfl (ok_ishl 16 rfl rfl (ok_ior 17 rfl rfl (ok_ist4 18 rfl rfl rfl (ok_inc5 19 rfl rfl rfl (by first | omega | (simp [up_if]; omega) | (simp [up_if] at *; omega)) (ok_goto 20 6 rfl rfl rfl ?_)))))))
      exact ih _ (j + 1) ⟨by omega, by omega⟩ (by omega)
theorem s_Jo_groupOf {σ : eS} {J r n : Int} (hn : n ≤ 8) : MtI shA M_Jo_groupOf [vl J, vi r, vi n] σ (fun σ' _ => σ' = σ ∧ True) := by
  refine Mt.of okM_Jo_groupOf (Nat.le_of_ble_eq_true rfl) (fun hk hg => ?_)
  refine ok_iconst 0 rfl rfl (by decide) (ok_iload_n 1 rfl rfl rfl (ok_ishl 2 rfl rfl (ok_ist4 3 rfl rfl rfl (ok_iconst 4 rfl rfl (by decide) (ok_ist5 5 rfl rfl rfl ?_)))))
  refine lpO2 (fun v j : Int => [some (vl J), none, some (vi r), some (vi n), some (vi v), some (vi j)]) (fun _ _ => σ) (fun _ j => 0 ≤ j ∧ j ≤ 8) (fun _ j => (8 - j).toNat) ?_ (ishl 1 r) 0 ⟨by omega, by omega⟩
  rintro v j ⟨j1, j2⟩ ih
  refine ok_iload 6 rfl rfl rfl (ok_iload_n 7 rfl rfl rfl (ok_icmp_ge 8 37 rfl rfl rfl (fun h11 => ?_) (fun h11 => ?_)))
  · refine ok_iload 21 rfl rfl rfl (ok_iret 22 rfl rfl rfl ?_)
    exact ⟨_, rfl, rfl, trivial⟩
  · refine ok_iload 9 rfl rfl rfl (ok_lload_n 10 rfl rfl rfl (ok_lload_n 11 rfl rfl rfl (ok_iload 12 rfl rfl rfl (ok_iload_n 13 rfl rfl rfl (ok_callSI (M' := M_Jo_columnsOf) (as := [_, _, _]) 14 rfl rfl ml_X1_25 (s_Jo_columnsOf hn) ⟨Nat.le_of_ble_eq_true rfl, Nat.le_of_ble_eq_true rfl⟩ rfl (Nat.le_of_ble_eq_true rfl) (fun σ' z1 x1 => ?_))))))
    obtain ⟨hs_, x1⟩ := x1
    rw [hs_]; clear hs_ σ'
    refine ok_iload_n 15 rfl rfl rfl (ok_callSI (M' := M_Jo_rowsOf) (as := [_, _, _]) 16 rfl rfl ml_X1_34 (s_Jo_rowsOf hn) ⟨Nat.le_of_ble_eq_true rfl, Nat.le_of_ble_eq_true rfl⟩ rfl (Nat.le_of_ble_eq_true rfl) (fun σ' z2 x2 => ?_))
    obtain ⟨hs_, x2⟩ := x2
    rw [hs_]; clear hs_ σ'
    refine ok_ior 17 rfl rfl (ok_ist4 18 rfl rfl rfl (ok_inc5 19 rfl rfl rfl (by first | omega | (simp [up_if]; omega) | (simp [up_if] at *; omega)) (ok_goto 20 8 rfl rfl rfl ?_)))
    exact ih _ (j + 1) ⟨by omega, by omega⟩ (by omega)
theorem s_Jo_countGroups {σ : eS} {J n : Int} (hn : n ≤ 8) : MtI shA M_Jo_countGroups [vl J, vi n] σ (fun σ' _ => σ' = σ ∧ True) := by
  refine Mt.of okM_Jo_countGroups (Nat.le_of_ble_eq_true rfl) (fun hk hg => ?_)
  refine ok_iconst 0 rfl rfl (by decide) (ok_ist3 1 rfl rfl rfl (ok_iconst 2 rfl rfl (by decide) (ok_ist4 3 rfl rfl rfl (ok_iconst 4 rfl rfl (by decide) (ok_ist5 5 rfl rfl rfl ?_)))))
  refine lpO3 (fun g v j : Int => [some (vl J), none, some (vi n), some (vi g), some (vi v), some (vi j)]) (fun _ _ _ => σ) (fun g _ j => 0 ≤ j ∧ j ≤ 8 ∧ 0 ≤ g ∧ g ≤ j) (fun _ _ j => (8 - j).toNat) ?_ 0 0 0 ⟨by omega, by omega, by omega, by omega⟩
  rintro g v j ⟨j1, j2, g1, g2⟩ ih
  refine ok_iload 6 rfl rfl rfl (ok_iload_n 7 rfl rfl rfl (ok_icmp_ge 8 45 rfl rfl rfl (fun h11 => ?_) (fun h11 => ?_)))
  · refine ok_iload_n 25 rfl rfl rfl (ok_lload_n 26 rfl rfl rfl (ok_iload 27 rfl rfl rfl (ok_iload_n 28 rfl rfl rfl (ok_callSI (M' := M_Jo_columnsOf) (as := [_, _, _]) 29 rfl rfl ml_X1_25 (s_Jo_columnsOf hn) ⟨Nat.le_of_ble_eq_true rfl, Nat.le_of_ble_eq_true rfl⟩ rfl (Nat.le_of_ble_eq_true rfl) (fun σ' z2 x2 => ?_)))))
    obtain ⟨hs_, x2⟩ := x2
    rw [hs_]; clear hs_ σ'
    refine ok_callSI (M' := M_Ji_bitCount) (as := [_]) 30 rfl rfl ml_X1_28 (s_Ji_bitCount) ⟨Nat.le_of_ble_eq_true rfl, Nat.le_of_ble_eq_true rfl⟩ rfl (Nat.le_of_ble_eq_true rfl) (fun σ' z hz => ?_)
    rw [hz.1, hz.2]
    clear hz z σ'
    refine ok_isubW 31 rfl rfl (ok_ist5 32 rfl rfl rfl (ok_iload_n 33 rfl rfl rfl (ok_iload 34 rfl rfl rfl (ok_iaddW 35 rfl rfl (ok_iret 36 rfl rfl rfl ?_)))))
    exact ⟨_, rfl, rfl, trivial⟩
  · refine ok_iload 9 rfl rfl rfl (ok_iload 10 rfl rfl rfl (ok_ishr 11 rfl rfl (ok_iconst 12 rfl rfl (by decide) (ok_iand 13 rfl rfl (ok_if_ne 14 39 rfl rfl rfl (fun h21 => ?_) (fun h21 => ?_))))))
    · refine ok_inc5 23 rfl rfl rfl (by first | omega | (simp [up_if]; omega) | (simp [up_if] at *; omega)) (ok_goto 24 8 rfl rfl rfl ?_)
      exact ih _ _ (j + 1) ⟨by omega, by omega, by omega, by omega⟩ (by omega)
    · refine ok_iload 15 rfl rfl rfl (ok_lload_n 16 rfl rfl rfl (ok_iload 17 rfl rfl rfl (ok_iload_n 18 rfl rfl rfl (ok_callSI (M' := M_Jo_groupOf) (as := [_, _, _]) 19 rfl rfl ml_X1_21 (s_Jo_groupOf hn) ⟨Nat.le_of_ble_eq_true rfl, Nat.le_of_ble_eq_true rfl⟩ rfl (Nat.le_of_ble_eq_true rfl) (fun σ' z1 x1 => ?_)))))
      obtain ⟨hs_, x1⟩ := x1
      rw [hs_]; clear hs_ σ'
      refine ok_ior 20 rfl rfl (ok_ist4 21 rfl rfl rfl (ok_inc3 22 rfl rfl rfl (by first | omega | (simp [up_if]; omega) | (simp [up_if] at *; omega)) (ok_inc5 23 rfl rfl rfl (by first | omega | (simp [up_if]; omega) | (simp [up_if] at *; omega)) (ok_goto 24 8 rfl rfl rfl ?_))))
      exact ih _ _ (j + 1) ⟨by omega, by omega, by omega, by omega⟩ (by omega)
theorem s_Jo_through {σ : eS} {J r c : Int} : MtL shA M_Jo_through [vl J, vi r, vi c] σ (fun σ' _ => σ' = σ ∧ True) := by
  refine Mt.of okM_Jo_through (Nat.le_of_ble_eq_true rfl) (fun hk hg => ?_)
  refine ok_ldc2 0 (255) rfl rfl kc_X1_11 (by decide) (ok_iload_n 1 rfl rfl rfl (ok_bipush 2 rfl rfl (by decide) (by decide) (ok_imulW 3 rfl rfl (ok_lshl 4 rfl rfl (ok_ldc2 5 (72340172838076673) rfl rfl kc_X1_13 (by decide) (ok_iload_n 6 rfl rfl rfl (ok_lshl 7 rfl rfl (ok_lor 8 rfl rfl (ok_lst4 9 rfl rfl rfl (ok_lload_n 10 rfl rfl rfl (ok_lload 11 rfl rfl rfl (ok_ldc2 12 (-1) rfl rfl kc_X1_15 (by decide) (ok_lxor 13 rfl rfl (ok_land 14 rfl rfl (ok_lconst (w := 1) 15 rfl rfl rfl (by decide) (ok_iload_n 16 rfl rfl rfl (ok_bipush 17 rfl rfl (by decide) (by decide) (ok_imulW 18 rfl rfl (ok_iload_n 19 rfl rfl rfl (ok_iaddW 20 rfl rfl (ok_lshl 21 rfl rfl (ok_lor 22 rfl rfl (ok_lret 23 rfl rfl rfl ?_)))))))))))))))))))))))
  exact ⟨_, rfl, rfl, trivial⟩
theorem s_Ta_greatestCell {σ : eS} {t : Nat} (ht : tA t) (hT : iT σ t) : MtI shA M_Ta_greatestCell [vr t] σ (fun σ' _ => σ' = σ ∧ True) := by
  refine Mt.of okM_Ta_greatestCell (Nat.le_of_ble_eq_true rfl) (fun hk hg => ?_)
  have hn := hT.1
  have hn2 := hT.2.1
  refine ok_iconst 0 rfl rfl (by decide) (ok_ist1 1 rfl rfl rfl (ok_iconst 2 rfl rfl (by decide) (ok_ist2 3 rfl rfl rfl ?_)))
  refine lpO2 (fun v i : Int => [some (vr t), some (vi v), some (vi i), none]) (fun _ _ => σ) (fun _ i => 0 ≤ i ∧ i ≤ 8) (fun _ i => (8 - i).toNat) ?_ 0 0 ⟨by omega, by omega⟩
  rintro v i ⟨i1, i2⟩ ih
  refine ok_iload_n 4 rfl rfl rfl (ok_aload_n 5 rfl rfl rfl (ok_getI 6 rfl rfl fl_X9_15 (sT ht) rfl (Or.inl rfl) (ok_icmp_ge 7 50 rfl rfl rfl (fun h9 => ?_) (fun h9 => ?_))))
  · refine ok_iload_n 29 rfl rfl rfl (ok_iret 30 rfl rfl rfl ?_)
    exact ⟨_, rfl, rfl, trivial⟩
  · refine ok_iconst 8 rfl rfl (by decide) (ok_ist3 9 rfl rfl rfl ?_)
    refine lpO2 (fun v j : Int => [some (vr t), some (vi v), some (vi i), some (vi j)]) (fun _ _ => σ) (fun _ j => 0 ≤ j ∧ j ≤ 8) (fun _ j => (8 - j).toNat) ?_ v 0 ⟨by omega, by omega⟩
    clear v
    rintro v j ⟨j1, j2⟩ ih2
    refine ok_iload_n 10 rfl rfl rfl (ok_aload_n 11 rfl rfl rfl (ok_getI 12 rfl rfl fl_X9_15 (sT ht) rfl (Or.inl rfl) (ok_icmp_ge 13 44 rfl rfl rfl (fun h19 => ?_) (fun h19 => ?_))))
    · refine ok_inc2 27 rfl rfl rfl (by first | omega | (simp [up_if]; omega) | (simp [up_if] at *; omega)) (ok_goto 28 4 rfl rfl rfl ?_)
      exact ok_fg [some (vr t), some (vi _), some (vi (i + 1)), none] ⟨rfl, rfl, rfl, trivial⟩ (ih _ (i + 1) ⟨by omega, by omega⟩ (by omega))
    · refine ok_iload_n 14 rfl rfl rfl (ok_aload_n 15 rfl rfl rfl (ok_getR 16 rfl rfl fl_X9_9 (sT ht) rfl (ok_iload_n 17 rfl rfl rfl (ok_bipush 18 rfl rfl (by decide) (by decide) (ok_imul 19 rfl rfl (by first | omega | (simp [up_if]; omega) | (simp [up_if] at *; omega)) (ok_iload_n 20 rfl rfl rfl (ok_iadd 21 rfl rfl (by first | omega | (simp [up_if]; omega) | (simp [up_if] at *; omega)) (ok_iald 22 rfl rfl (sC ht) (by first | omega | (simp [up_if]; omega) | (simp [up_if] at *; omega)) (ok_mmax 23 rfl rfl ml_X9_42 ⟨Nat.le_of_ble_eq_true rfl, Nat.le_of_ble_eq_true rfl⟩ (ok_ist1 24 rfl rfl rfl (ok_inc3 25 rfl rfl rfl (by first | omega | (simp [up_if]; omega) | (simp [up_if] at *; omega)) (ok_goto 26 14 rfl rfl rfl ?_))))))))))))
      exact ih2 _ (j + 1) ⟨by omega, by omega⟩ (by omega)
theorem s_Ta_joinedBy {σ : eS} {t : Nat} {m : Int} (ht : tA t) (hT : iT σ t) : MtL shA M_Ta_joinedBy [vr t, vi m] σ (fun σ' _ => σ' = σ ∧ True) := by
  refine Mt.of okM_Ta_joinedBy (Nat.le_of_ble_eq_true rfl) (fun hk hg => ?_)
  refine ok_aload_n 0 rfl rfl rfl (ok_getR 1 rfl rfl fl_X9_9 (sT ht) rfl (ok_aload_n 2 rfl rfl rfl (ok_getI 3 rfl rfl fl_X9_15 (sT ht) rfl (Or.inl rfl) (ok_iload_n 4 rfl rfl rfl (ok_callSL (M' := M_Jo_of) (as := [_, _, _]) 5 rfl rfl ml_X9_56 (s_Jo_of (sC ht) hT.2.1) ⟨Nat.le_of_ble_eq_true rfl, Nat.le_of_ble_eq_true rfl⟩ rfl (Nat.le_of_ble_eq_true rfl) (fun σ' z hz => ?_))))))
  obtain ⟨hs_, hz⟩ := hz
  rw [hs_]; clear hs_ σ'
  refine ok_lret 6 rfl rfl rfl ?_
  exact ⟨_, rfl, rfl, trivial⟩
theorem s_Ta_countAbove0 {σ : eS} {t : Nat} (ht : tA t) (hT : iT σ t) : MtI shA M_Ta_countAbove0 [vr t] σ (fun σ' _ => σ' = σ ∧ True) := by
  refine Mt.of okM_Ta_countAbove0 (Nat.le_of_ble_eq_true rfl) (fun hk hg => ?_)
  refine ok_aload_n 0 rfl rfl rfl (ok_iconst 1 rfl rfl (by decide) (ok_callVL (M' := M_Ta_joinedBy) (as := [_]) 2 rfl rfl ml_X9_65 (s_Ta_joinedBy ht hT) (sT ht) rfl (Nat.le_of_ble_eq_true rfl) ⟨Nat.le_of_ble_eq_true rfl, Nat.le_of_ble_eq_true rfl⟩ rfl (Nat.le_of_ble_eq_true rfl) (fun σ' z hz => ?_)))
  obtain ⟨hs_, hz⟩ := hz
  rw [hs_]; clear hs_ σ'
  refine ok_callSI (M' := M_Jl_bitCount) (as := [_]) 3 rfl rfl ml_X9_69 (s_Jl_bitCount) ⟨Nat.le_of_ble_eq_true rfl, Nat.le_of_ble_eq_true rfl⟩ rfl (Nat.le_of_ble_eq_true rfl) (fun σ' z2 hz2 => ?_)
  obtain ⟨hs_, hz2⟩ := hz2
  rw [hs_]; clear hs_ σ'
  refine ok_iret 4 rfl rfl rfl ?_
  exact ⟨_, rfl, rfl, trivial⟩
end
