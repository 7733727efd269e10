/-! `table` of the class, exactly -/
def RAr (σ : eS) : oA := PR (σ 11) (σ 10 3) 0 0 0 0 (σ 12) (σ 13)
def TTt (σ σ' : eS) (t : Nat) : Prop := σ' t 1 = oN (RAr σ) ∧ σ' t 2 = oB (RAr σ) ∧ ∀ i j, 0 ≤ i → i < oN (RAr σ) → 0 ≤ j → j < oN (RAr σ) → σ' (t + 4) (i * 8 + j) = oAb (RAr σ) (i * 8 + j) * (oB (RAr σ) / oUn (RAr σ) (i * 8 + j))
/-- all other tables stay -/
def tbX (σ σ' : eS) (t : Nat) : Prop := ∀ (c : Nat) (k : Int), 2 ≤ c → c ≤ 9 → c ≠ t → c ≠ t + 4 → σ' c k = σ c k
def TA (σ : eS) (s : Int) (σ' : eS) (z : Int) : Prop := (¬ (0 ≤ s ∧ s < 4) ∧ z = -2 ∧ σ' 10 4 = 0 ∧ σ' 10 5 = -1 ∧ tbS σ σ') ∨ ((0 ≤ s ∧ s < 4) ∧ oS (RAr σ) ∧ tbO (RAr σ) (σ 10 3) z (σ' 10 4) (σ' 10 5) ∧ ((σ' 10 4 ≠ 0 ∧ tbS σ σ') ∨ (σ' 10 4 = 0 ∧ TTt σ σ' (s.toNat + 2) ∧ tbX σ σ' (s.toNat + 2))))
theorem TI_tbO {t : Nat} {σ σ' : eS} {z : Int} (ht : tA t) (h : TI t σ σ') (hz : (σ' 10 4 = 0 ∧ z = σ' t 1) ∨ (σ' 10 4 ≠ 0 ∧ z = -1)) : oS (RAr σ) ∧ tbO (RAr σ) (σ 10 3) z (σ' 10 4) (σ' 10 5) ∧ ((σ' 10 4 ≠ 0 ∧ (∀ k, σ' t k = σ t k) ∧ ∀ k, σ' (t + 4) k = σ (t + 4) k) ∨ (σ' 10 4 = 0 ∧ TTt σ σ' t)) := by
  obtain ⟨ρ, r11, r3, h0, h1, ht1, ht2, ur, υ, hF, e⟩ := h
  obtain ⟨n1, n2, -⟩ := tA_10 ht
  have e4 : σ' 10 4 = υ 10 4 := by rw [e, up_nk _ _ _ _ (by decide)]
  have e5 : σ' 10 5 = υ 10 5 := by rw [e, up_nk _ _ _ _ (by decide)]
  have eT : ∀ k, σ' t k = υ t k := fun k => by rw [e, up_ne _ _ _ _ n1]
  have eC : ∀ k, σ' (t + 4) k = υ (t + 4) k := fun k => by rw [e, up_ne _ _ _ _ n2]
  by_cases q : ρ 10 4 = 0
  · obtain ⟨p1, p2, p3⟩ := h0 q
    have R : RAr σ = (0, -1, ρ 10 7, ρ 10 9, ρ 12, ρ 13) := p1
    have hS : oS (RAr σ) := fun _ => by rw [R]; exact p2
    rcases hF with ⟨w, -⟩ | ⟨-, w, ew⟩ | ⟨-, w1, w2, w3, w4, w5, w6, w7⟩
    · exact absurd q w
    · have s4 : σ' 10 4 = 6 := by rw [e4, ew]; simp [up_if]
      have s5 : σ' 10 5 = σ 10 3 := by rw [e5, ew]; simp [up_if, r3]
      refine ⟨hS, Or.inr (Or.inl ⟨by rw [R], ?_, by omega, s4, s5⟩), Or.inl ⟨by omega, fun k => ?_, fun k => ?_⟩⟩
      · rw [R]
        rintro ⟨g1, g2⟩
        rcases w with w | w
        · have : (1 : Int) ≤ cbA ρ := g1
          omega
        · exact w g2
      · rw [eT, ew, up_ne _ _ _ _ n1, up_ne _ _ _ _ n1, ht1]
      · rw [eC, ew, up_ne _ _ _ _ n2, up_ne _ _ _ _ n2, ht2]
    · have s4 : σ' 10 4 = 0 := by rw [e4, w4, q]
      have s5 : σ' 10 5 = -1 := by rw [e5, w4, p3]
      have s1 : σ' t 1 = ρ 10 7 := by rw [eT, w5]
      refine ⟨hS, Or.inr (Or.inr ⟨by rw [R], by rw [R]; exact ⟨w1, w3⟩, ?_, s4, s5⟩), Or.inr ⟨s4, ?_⟩⟩
      · rw [R]; show z = ρ 10 7; omega
      · unfold TTt
        rw [R]
        exact ⟨s1, by rw [eT, w6]; rfl, fun i j a b c d => by rw [eC]; exact w7 i j a b c d⟩
  · obtain ⟨p1, p2⟩ := h1 q
    have p1 : (RAr σ).1 = ρ 10 4 := p1
    have p2 : (RAr σ).2.1 = ρ 10 5 := p2
    rcases hF with ⟨-, w⟩ | ⟨w, -⟩ | ⟨w, -⟩
    · have s4 : σ' 10 4 = ρ 10 4 := by rw [e4, w]
      have s5 : σ' 10 5 = ρ 10 5 := by rw [e5, w]
      refine ⟨fun z0 => absurd (by omega) q, Or.inl ⟨by omega, by omega, by omega, by omega⟩, Or.inl ⟨by omega, fun k => ?_, fun k => ?_⟩⟩
      · rw [eT, w, ht1]
      · rw [eC, w, ht2]
    · exact absurd w q
    · exact absurd w q
theorem t_Tp_drop {σ : eS} : MtV shA M_Tp_drop [vr 10] σ (fun σ' => σ' = up (up (up σ 10 3 0) 10 4 0) 10 5 (-1)) := by
  refine Mt.of okM_Tp_drop (Nat.le_of_ble_eq_true rfl) (fun hk hg => ?_)
  refine ok_aload_n 0 rfl rfl rfl (ok_iconst 1 rfl rfl (by decide) (ok_putI 2 rfl rfl fl_X10_21 rfl rfl rfl rfl (ok_aload_n 3 rfl rfl rfl (ok_iconst 4 rfl rfl (by decide) (ok_putI 5 rfl rfl fl_X10_25 rfl rfl rfl rfl (ok_aload_n 6 rfl rfl rfl (ok_iconst 7 rfl rfl (by decide) (ok_putI 8 rfl rfl fl_X10_28 rfl rfl rfl rfl (ok_vret 9 rfl rfl rfl ?_)))))))))
  exact ⟨rfl, rfl⟩
theorem t_Ev_table {σ : eS} {s : Int} (h : IA σ) : MtI shA M_Ev_table [vr 0, vi s] σ (fun σ' z => IA σ' ∧ (σ' 10 3 = 0 ∧ TA σ s σ' z) ∧ otS σ σ') := by
  refine Mt.of okM_Ev_table (Nat.le_of_ble_eq_true rfl) (fun hk hg => ?_)
  refine ok_aload_n 0 rfl rfl rfl (ok_iload_n 1 rfl rfl rfl (ok_callVR (M' := M_Ev_slotAt) (as := [_]) 2 rfl rfl ml_X11_86 (s_Ev_slotAt) rfl rfl (Nat.le_of_ble_eq_true rfl) ⟨Nat.le_of_ble_eq_true rfl, Nat.le_of_ble_eq_true rfl⟩ rfl (Nat.le_of_ble_eq_true rfl) (fun σ' z hz => ?_)))
  obtain ⟨hs_, hz⟩ := hz
  rw [hs_]; clear hs_ σ'
  rcases hz with ⟨q, q2⟩ | ⟨q1, q2, q⟩
  · subst q
    refine ok_ast2 3 rfl rfl rfl (ok_aload_n 4 rfl rfl rfl (ok_ifnonnullN 5 rfl rfl (ok_aload_n 6 rfl rfl rfl (ok_getR 7 rfl rfl fl_X11_18 rfl rfl (ok_callVV (M' := M_Tp_drop) (as := []) 8 rfl rfl ml_X11_90 (t_Tp_drop) rfl rfl (Nat.le_of_ble_eq_true rfl) ⟨Nat.le_of_ble_eq_true rfl, Nat.le_of_ble_eq_true rfl⟩ rfl (Nat.le_of_ble_eq_true rfl) (fun τ e => ?_))))))
    have f : fr (fun c k => c = 10 ∧ (k = 3 ∨ k = 4 ∨ k = 5)) σ τ := by rw [e]; exact fr_up (fr_up (fr_up fr.rf (by simp)) (by simp)) (by simp)
    have f3 : τ 10 3 = 0 := by rw [e]; simp [up_if]
    have f4 : τ 10 4 = 0 := by rw [e]; simp [up_if]
    have f5 : τ 10 5 = -1 := by rw [e]; simp [up_if]
    refine ok_bipush 9 rfl rfl (by decide) (by decide) (ok_iret 10 rfl rfl rfl ?_)
    refine ⟨_, rfl, ⟨⟨by omega, by omega⟩, iTs_cg h.2.1 (fun c k a b d => f c k (by omega)), iCh_cg h.2.2.1 (fun k => f _ k (by omega)), iMi_cg h.2.2.2.1 (fun c k a b => f c k (by omega)), iSh_cg h.2.2.2.2.1 (fun k => f _ k (by omega)), iSu_cg h.2.2.2.2.2 (fun k => f _ k (by omega))⟩, ⟨f3, Or.inl ⟨q2, rfl, f4, f5, fun c k a b d => f c k (by omega)⟩⟩, otS_fr f (fun c k w => by omega)⟩
  · subst q
    have ht := sl_tA ⟨q1, q2⟩
    have n := tA_10 ht
    refine ok_ast2 3 rfl rfl rfl (ok_aload_n 4 rfl rfl rfl (ok_ifnonnull 5 20 rfl rfl rfl (ok_aload_n 11 rfl rfl rfl (ok_getR 12 rfl rfl fl_X11_18 rfl rfl (ok_aload_n 13 rfl rfl rfl (ok_callVI (M' := M_Tp_readInto) (as := [_]) 14 rfl rfl ml_X11_93 (t_Tp_readInto ht h.1 (h.2.1 _ ht).1 (h.2.1 _ ht).2) rfl rfl (Nat.le_of_ble_eq_true rfl) ⟨Nat.le_of_ble_eq_true rfl, Nat.le_of_ble_eq_true rfl⟩ rfl (Nat.le_of_ble_eq_true rfl) (fun τ z f => ?_)))))))
    obtain ⟨f, f1, f2, f3, f4, f5⟩ := f
    obtain ⟨g1, g2, g3⟩ := TI_tbO ht f4 f5
    have fo : tbX σ τ (s.toNat + 2) := fun c k a b d1 d2 => f c k (by simp only [rgRI]; omega)
    refine ok_iret 15 rfl rfl rfl ?_
    refine ⟨_, rfl, ⟨⟨by omega, by omega⟩, iTs_set ht h.2.1 fo f1 f2, iCh_cg h.2.2.1 (fun k => f _ k (by simp only [rgRI]; omega)), iMi_cg h.2.2.2.1 (fun c k a b => f c k (by simp only [rgRI]; omega)), iSh_cg h.2.2.2.2.1 (fun k => f _ k (by simp only [rgRI]; omega)), iSu_cg h.2.2.2.2.2 (fun k => f _ k (by simp only [rgRI]; omega))⟩, ⟨f3, Or.inr ⟨⟨q1, q2⟩, g1, g2, ?_⟩⟩, otS_fr f (fun c k w => by simp only [rgRI]; omega)⟩
    rcases g3 with ⟨w1, w2, w3⟩ | ⟨w1, w2⟩
    · refine Or.inl ⟨w1, fun c k a b d => ?_⟩
      by_cases x : c = s.toNat + 2
      · rw [x]; exact w2 k
      · by_cases y : c = s.toNat + 2 + 4
        · rw [y]; exact w3 k
        · exact fo c k a b x y
    · exact Or.inr ⟨w1, w2, fo⟩
/-- the bytes of both tapes -/
theorem fo_in {σ : eS} {t v i k : Int} (h : t ≤ k ∧ k < t + i) : fo σ t v i 5 k = by4 v (k - t) := by unfold fo; rw [if_neg (by omega), if_pos ⟨rfl, h⟩]
theorem fo_out {σ : eS} {t v i k : Int} (h : ¬ (t ≤ k ∧ k < t + i)) : fo σ t v i 5 k = σ 5 k := by unfold fo; rw [if_neg (by omega), if_neg (by omega)]
theorem fd_al {σ τ σ' : eS} {L a b c d e : Int} (hb : aB (σ 11) (τ 5) L) (h : fdA σ L a b c d e σ') : aB (σ' 11) (fd τ L a b c d e 5) (L + 20) := by
  intro i i0 iL
  obtain ⟨-, -, h1, h2⟩ := h
  unfold fd
  by_cases q : i < L
  · rw [fo_out (by omega), fo_out (by omega), fo_out (by omega), fo_out (by omega), fo_out (by omega), h1 i q]
    exact hb i i0 q
  · rcases (by omega : i < L + 4 ∨ (L + 4 ≤ i ∧ i < L + 8) ∨ (L + 8 ≤ i ∧ i < L + 12) ∨ (L + 12 ≤ i ∧ i < L + 16) ∨ L + 16 ≤ i) with w | w | w | w | w
    · have := (h2 (i - L) (by omega) (by omega)).1
      rw [show L + (i - L) = i by omega] at this
      rw [fo_out (by omega), fo_out (by omega), fo_out (by omega), fo_out (by omega), fo_in (by omega), this, by_al ⟨by omega, by omega⟩]
    · have := (h2 (i - L - 4) (by omega) (by omega)).2.1
      rw [show L + 4 + (i - L - 4) = i by omega] at this
      rw [fo_out (by omega), fo_out (by omega), fo_out (by omega), fo_in (by omega), this, by_al ⟨by omega, by omega⟩]
      congr 1; omega
    · have := (h2 (i - L - 8) (by omega) (by omega)).2.2.1
      rw [show L + 8 + (i - L - 8) = i by omega] at this
      rw [fo_out (by omega), fo_out (by omega), fo_in (by omega), this, by_al ⟨by omega, by omega⟩]
      congr 1; omega
    · have := (h2 (i - L - 12) (by omega) (by omega)).2.2.2.1
      rw [show L + 12 + (i - L - 12) = i by omega] at this
      rw [fo_out (by omega), fo_in (by omega), this, by_al ⟨by omega, by omega⟩]
      congr 1; omega
    · have := (h2 (i - L - 16) (by omega) (by omega)).2.2.2.2
      rw [show L + 16 + (i - L - 16) = i by omega] at this
      rw [fo_in (by omega), this, by_al ⟨by omega, by omega⟩]
      congr 1; omega
theorem fo_nn {σ : eS} {t v i : Int} (h : ∀ k, 0 ≤ k → k < t → 0 ≤ σ 5 k) : ∀ k, 0 ≤ k → k < t + i → 0 ≤ fo σ t v i 5 k := fun k a b => by
  by_cases q : k < t
  · rw [fo_out (by omega)]; exact h k a q
  · rw [fo_in (by omega)]; exact by4_nn _ _
theorem fd_nn {τ : eS} {L a b c d e : Int} (h : ∀ k, 0 ≤ k → k < L → 0 ≤ τ 5 k) : ∀ k, 0 ≤ k → k < L + 20 → 0 ≤ fd τ L a b c d e 5 k := by
  unfold fd
  have h1 := fo_nn (v := a) (i := 4) h
  have h2 := fo_nn (v := b) (i := 4) h1
  have h3 := fo_nn (v := c) (i := 4) (t := L + 8) (fun k x y => h2 k x (by omega))
  have h4 := fo_nn (v := d) (i := 4) (t := L + 12) (fun k x y => h3 k x (by omega))
  have h5 := fo_nn (v := e) (i := 4) (t := L + 16) (fun k x y => h4 k x (by omega))
  exact fun k x y => h5 k x (by omega)
