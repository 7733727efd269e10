/-! peelers -/
def pP (p q : Nat) : Prop := (p = 20 ∧ q = 21) ∨ (p = 30 ∧ q = 35) ∨ (p = 31 ∧ q = 36) ∨ (p = 32 ∧ q = 37) ∨ (p = 33 ∧ q = 38) ∨ (p = 34 ∧ q = 39)
theorem sP {p q : Nat} (h : pP p q) : nth shA p = some (0, 3, [16 + 3, q + 3, 0, 0, 0, 0]) := by rcases h with ⟨a, b⟩ | ⟨a, b⟩ | ⟨a, b⟩ | ⟨a, b⟩ | ⟨a, b⟩ | ⟨a, b⟩ <;> subst a <;> subst b <;> rfl
theorem sQ {p q : Nat} (h : pP p q) : nth shA q = some (1, 64, []) := by rcases h with ⟨a, b⟩ | ⟨a, b⟩ | ⟨a, b⟩ | ⟨a, b⟩ | ⟨a, b⟩ | ⟨a, b⟩ <;> subst b <;> rfl
theorem pP_n {p q : Nat} (h : pP p q) : ((p = 20 ∧ q = 21) ∨ (30 ≤ p ∧ p ≤ 34 ∧ 35 ≤ q ∧ q ≤ 39)) ∧ p ≠ q ∧ p < q ∧ 20 ≤ p ∧ 21 ≤ q := by unfold pP at h; omega
def iPe (σ : eS) (p q : Nat) : Prop := (0 ≤ σ p 2 ∧ σ p 2 ≤ 8) ∧ ∀ k : Int, 0 ≤ k → k < 64 → 0 ≤ σ q k
theorem iPe_cg {σ τ : eS} {p q : Nat} (h : iPe σ p q) (e : τ p 2 = σ p 2) (e2 : ∀ k, τ q k = σ q k) : iPe τ p q := by
  unfold iPe
  rw [e]
  exact ⟨h.1, fun k a b => by rw [e2]; exact h.2 k a b⟩
theorem s_Ja_fill {σ : eS} {c N : Nat} {v : Int} (hs : nth shA c = some (1, N, [])) (hN : N ≤ 400) : MtV shA M_Ja_fill [vr c, vi v] σ (fun σ' => fr (fun x _ => x = c) σ σ' ∧ ∀ k : Int, 0 ≤ k → k < N → σ' c k = v) := by
  refine Mt.of okM_Ja_fill (Nat.le_of_ble_eq_true rfl) (fun hk hg => ?_)
  refine ok_iconst 0 rfl rfl (by decide) (ok_ist2 1 rfl rfl rfl (ok_aload_n 2 rfl rfl rfl (ok_alen 3 rfl rfl hs rfl rfl (by omega) (ok_ist3 4 rfl rfl rfl ?_))))
  refine lpO2 (fun (i : Int) (_ : eS) => [some (vr c), some (vi v), some (vi i), some (vi (N : Int))]) (fun _ ρ => ρ) (fun i ρ => 0 ≤ i ∧ i ≤ N ∧ fr (fun x _ => x = c) σ ρ ∧ ∀ k, 0 ≤ k → k < i → ρ c k = v) (fun i _ => (400 - i).toNat) ?_ 0 σ ⟨by omega, by omega, fr.rf, fun k a b => by omega⟩
  rintro i ρ ⟨i1, i2, f, hv⟩ ih
  refine ok_iload_n 5 rfl rfl rfl (ok_iload_n 6 rfl rfl rfl (ok_icmp_ge 7 20 rfl rfl rfl (fun h7 => ?_) (fun h7 => ?_)))
  · refine ok_vret 14 rfl rfl rfl ?_
    exact ⟨rfl, f, fun k a b => hv k a (by omega)⟩
  · refine ok_aload_n 8 rfl rfl rfl (ok_iload_n 9 rfl rfl rfl (ok_iload_n 10 rfl rfl rfl (ok_iast 11 rfl rfl hs (by first | omega | (simp [up_if]; omega) | (simp [up_if] at *; omega)) (ok_inc2 12 rfl rfl rfl (by first | omega | (simp [up_if]; omega) | (simp [up_if] at *; omega)) (ok_goto 13 5 rfl rfl rfl ?_)))))
    refine ih (i + 1) _ ⟨by omega, by omega, fr_up f rfl, up_to (fun k a b => ?_) (up_same _ _ _ _)⟩ (by omega)
    rw [up_nk _ _ _ _ (by omega)]
    exact hv k a b
theorem fr_cp {P : Nat → Int → Prop} {σ : eS} {c0 c1 : Nat} {sp dp n : Int} (h : ∀ k, dp ≤ k → k < dp + n → P c1 k) : fr P σ (cp σ c0 sp c1 dp n) := fun c k q => by
  unfold cp
  rw [if_neg]
  intro w
  exact q (by rw [w.1]; exact h k w.2.1 w.2.2)
abbrev rgP0 (p q : Nat) : Nat → Int → Prop := fun c k => (c = p ∧ 2 ≤ k ∧ k ≤ 5) ∨ c = q
theorem s_Pe_startTable {σ : eS} {p q t : Nat} (hp : pP p q) (ht : tA t) (hT : iT σ t) : MtV shA M_Pe_startTable [vr p, vr t] σ (fun σ' => fr (rgP0 p q) σ σ' ∧ iPe σ' p q ∧ σ' p 2 = σ t 1 ∧ σ' p 3 = σ t 3) := by
  refine Mt.of okM_Pe_startTable (Nat.le_of_ble_eq_true rfl) (fun hk hg => ?_)
  obtain ⟨n0, n1, n2, n3, n4⟩ := pP_n hp
  have nA := tA_10 ht
  obtain ⟨τ, eτ⟩ : ∃ τ, τ = cp σ (t + 4) 0 q 0 64 := ⟨_, rfl⟩
  have f : fr (fun c _ => c = q) σ τ := by rw [eτ]; exact fr_cp (fun k _ _ => rfl)
  have e : ∀ k, 0 ≤ k → k < 64 → τ q k = σ (t + 4) k := fun k a b => by rw [eτ]; unfold cp; rw [if_pos ⟨rfl, by omega, by omega⟩]; congr 1; omega
  have e1 : τ t 1 = σ t 1 := f t 1 (by omega)
  have e3 : τ t 3 = σ t 3 := f t 3 (by omega)
  refine ok_aload_n 0 rfl rfl rfl (ok_getR 1 rfl rfl fl_X5_32 (sT ht) rfl (ok_iconst 2 rfl rfl (by decide) (ok_aload_n 3 rfl rfl rfl (ok_getR 4 rfl rfl fl_X5_9 (sP hp) rfl (ok_iconst 5 rfl rfl (by decide) (ok_bipush 6 rfl rfl (by decide) (by decide) (ok_copy 7 rfl rfl (wd3 104 rfl rfl) ⟨Nat.le_of_ble_eq_true rfl, Nat.le_of_ble_eq_true rfl⟩ (sC ht) (sQ hp) (by decide) (by decide) (by decide) (by decide) (by decide) ?_)))))))
  rw [← eτ]
  refine ok_aload_n 8 rfl rfl rfl (ok_aload_n 9 rfl rfl rfl (ok_getI 10 rfl rfl fl_X5_41 (sT ht) rfl (Or.inl rfl) (ok_putI 11 rfl rfl fl_X5_15 (sP hp) rfl rfl rfl (ok_aload_n 12 rfl rfl rfl (ok_aload_n 13 rfl rfl rfl (ok_getI 14 rfl rfl fl_X5_42 (sT ht) rfl (Or.inl rfl) (ok_putI 15 rfl rfl fl_X5_19 (sP hp) rfl rfl rfl (ok_aload_n 16 rfl rfl rfl (ok_iconst 17 rfl rfl (by decide) (ok_putI 18 rfl rfl fl_X5_22 (sP hp) rfl rfl rfl (ok_vret 19 rfl rfl rfl ?_)))))))))))
  refine ⟨rfl, fr_up (fr_up (fr_up (f.mono (fun c k w => Or.inr w)) (by simp [rgP0])) (by simp [rgP0])) (by simp [rgP0]), ⟨?_, fun k a b => ?_⟩, ?_, ?_⟩
  · rw [up_nk _ _ _ _ (by decide), up_nk _ _ _ _ (by decide), up_same, e1]; exact ⟨hT.1, hT.2.1⟩
  · rw [up_ne _ _ _ _ (Ne.symm n1), up_ne _ _ _ _ (Ne.symm n1), up_ne _ _ _ _ (Ne.symm n1), e k a b]; exact (hT.2.2.2 k a b).1
  · rw [up_nk _ _ _ _ (by decide), up_nk _ _ _ _ (by decide), up_same, e1]
  · rw [up_nk _ _ _ _ (by decide), up_same, up_ne _ _ _ _ (by omega), e3]
theorem s_Pe_startLike {σ : eS} {p q p' q' : Nat} (hp : pP p q) (hp' : pP p' q') (hne : p' ≠ p) (hne2 : q' ≠ q) (h : iPe σ p' q') : MtV shA M_Pe_startLike [vr p, vr p'] σ (fun σ' => fr (rgP0 p q) σ σ' ∧ iPe σ' p q ∧ σ' p 2 = σ p' 2 ∧ σ' p 3 = σ p' 3) := by
  refine Mt.of okM_Pe_startLike (Nat.le_of_ble_eq_true rfl) (fun hk hg => ?_)
  obtain ⟨n0, n1, n2, n3, n4⟩ := pP_n hp
  obtain ⟨m0, m1, m2, m3, m4⟩ := pP_n hp'
  obtain ⟨τ, eτ⟩ : ∃ τ, τ = cp σ q' 0 q 0 64 := ⟨_, rfl⟩
  have f : fr (fun c _ => c = q) σ τ := by rw [eτ]; exact fr_cp (fun k _ _ => rfl)
  have e : ∀ k, 0 ≤ k → k < 64 → τ q k = σ q' k := fun k a b => by rw [eτ]; unfold cp; rw [if_pos ⟨rfl, by omega, by omega⟩]; congr 1; omega
  have e1 : τ p' 2 = σ p' 2 := f p' 2 (by omega)
  have e3 : τ p' 3 = σ p' 3 := f p' 3 (by omega)
  refine ok_aload_n 0 rfl rfl rfl (ok_getR 1 rfl rfl fl_X5_9 (sP hp') rfl (ok_iconst 2 rfl rfl (by decide) (ok_aload_n 3 rfl rfl rfl (ok_getR 4 rfl rfl fl_X5_9 (sP hp) rfl (ok_iconst 5 rfl rfl (by decide) (ok_bipush 6 rfl rfl (by decide) (by decide) (ok_copy 7 rfl rfl (wd3 104 rfl rfl) ⟨Nat.le_of_ble_eq_true rfl, Nat.le_of_ble_eq_true rfl⟩ (sQ hp') (sQ hp) (by decide) (by decide) (by decide) (by decide) (by decide) ?_)))))))
  rw [← eτ]
  refine ok_aload_n 8 rfl rfl rfl (ok_aload_n 9 rfl rfl rfl (ok_getI 10 rfl rfl fl_X5_15 (sP hp') rfl (Or.inl rfl) (ok_putI 11 rfl rfl fl_X5_15 (sP hp) rfl rfl rfl (ok_aload_n 12 rfl rfl rfl (ok_aload_n 13 rfl rfl rfl (ok_getI 14 rfl rfl fl_X5_19 (sP hp') rfl (Or.inl rfl) (ok_putI 15 rfl rfl fl_X5_19 (sP hp) rfl rfl rfl (ok_aload_n 16 rfl rfl rfl (ok_aload_n 17 rfl rfl rfl (ok_getI 18 rfl rfl fl_X5_22 (sP hp') rfl (Or.inl rfl) (ok_putI 19 rfl rfl fl_X5_22 (sP hp) rfl rfl rfl (ok_vret 20 rfl rfl rfl ?_))))))))))))
  refine ⟨rfl, fr_up (fr_up (fr_up (f.mono (fun c k w => Or.inr w)) (by simp [rgP0])) (by simp [rgP0])) (by simp [rgP0]), ⟨?_, fun k a b => ?_⟩, ?_, ?_⟩
  · rw [up_nk _ _ _ _ (by decide), up_nk _ _ _ _ (by decide), up_same, e1]; exact h.1
  · rw [up_ne _ _ _ _ (Ne.symm n1), up_ne _ _ _ _ (Ne.symm n1), up_ne _ _ _ _ (Ne.symm n1), e k a b]; exact h.2 k a b
  · rw [up_nk _ _ _ _ (by decide), up_nk _ _ _ _ (by decide), up_same, e1]
  · rw [up_nk _ _ _ _ (by decide), up_same, up_ne _ _ _ _ hne, e3]
theorem s_Pe_leastPlace {σ : eS} {p q : Nat} (hp : pP p q) (h : iPe σ p q) : MtI shA M_Pe_leastPlace [vr p] σ (fun σ' z => σ' = σ ∧ 0 ≤ z ∧ z < 64) := by
  refine Mt.of okM_Pe_leastPlace (Nat.le_of_ble_eq_true rfl) (fun hk hg => ?_)
  have n1 := h.1.1
  have n2 := h.1.2
  refine ok_iconst 0 rfl rfl (by decide) (ok_ist1 1 rfl rfl rfl (ok_aload_n 2 rfl rfl rfl (ok_getI 3 rfl rfl fl_X5_19 (sP hp) rfl (Or.inl rfl) (ok_iconst 4 rfl rfl (by decide) (ok_iaddW 5 rfl rfl (ok_ist2 6 rfl rfl rfl (ok_iconst 7 rfl rfl (by decide) (ok_ist3 8 rfl rfl rfl ?_))))))))
  refine lpO3 (fun v l i : Int => [some (vr p), some (vi v), some (vi l), some (vi i), none, none]) (fun _ _ _ => σ) (fun v _ i => 0 ≤ i ∧ i ≤ 8 ∧ 0 ≤ v ∧ v < 64) (fun _ _ i => (8 - i).toNat) ?_ 0 _ 0 ⟨by omega, by omega, by omega, by omega⟩
  rintro v l i ⟨i1, i2, v1, v2⟩ ih
  refine ok_iload_n 9 rfl rfl rfl (ok_aload_n 10 rfl rfl rfl (ok_getI 11 rfl rfl fl_X5_15 (sP hp) rfl (Or.inl rfl) (ok_icmp_ge 12 79 rfl rfl rfl (fun h16 => ?_) (fun h16 => ?_))))
  · refine ok_iload_n 45 rfl rfl rfl (ok_iret 46 rfl rfl rfl ?_)
    exact ⟨_, rfl, rfl, v1, v2⟩
  · refine ok_iconst 13 rfl rfl (by decide) (ok_ist4 14 rfl rfl rfl ?_)
    refine lpO3 (fun v l j : Int => [some (vr p), some (vi v), some (vi l), some (vi i), some (vi j), none]) (fun _ _ _ => σ) (fun v _ j => 0 ≤ j ∧ j ≤ 8 ∧ 0 ≤ v ∧ v < 64) (fun _ _ j => (8 - j).toNat) ?_ v l 0 ⟨by omega, by omega, v1, v2⟩
    clear v1 v2 l v
    rintro v l j ⟨j1, j2, v1, v2⟩ ih2
    refine ok_iload 15 rfl rfl rfl (ok_aload_n 16 rfl rfl rfl (ok_getI 17 rfl rfl fl_X5_15 (sP hp) rfl (Or.inl rfl) (ok_icmp_ge 18 73 rfl rfl rfl (fun h28 => ?_) (fun h28 => ?_))))
    · refine ok_inc3 43 rfl rfl rfl (by first | omega | (simp [up_if]; omega) | (simp [up_if] at *; omega)) (ok_goto 44 11 rfl rfl rfl ?_)
      exact ok_fg [some (vr p), some (vi _), some (vi _), some (vi (i + 1)), none, none] ⟨rfl, rfl, rfl, rfl, trivial⟩ (ih _ _ (i + 1) ⟨by omega, by omega, v1, v2⟩ (by omega))
    · refine ok_aload_n 19 rfl rfl rfl (ok_getR 20 rfl rfl fl_X5_9 (sP hp) rfl (ok_iload_n 21 rfl rfl rfl (ok_bipush 22 rfl rfl (by decide) (by decide) (ok_imul 23 rfl rfl (by first | omega | (simp [up_if]; omega) | (simp [up_if] at *; omega)) (ok_iload 24 rfl rfl rfl (ok_iadd 25 rfl rfl (by first | omega | (simp [up_if]; omega) | (simp [up_if] at *; omega)) (ok_iald 26 rfl rfl (sQ hp) (by first | omega | (simp [up_if]; omega) | (simp [up_if] at *; omega)) (ok_ist5 27 rfl rfl rfl (ok_iload 28 rfl rfl rfl (ok_if_le 29 67 rfl rfl rfl (fun h47 => ?_) (fun h47 => ?_)))))))))))
      · refine ok_inc4 41 rfl rfl rfl (by first | omega | (simp [up_if]; omega) | (simp [up_if] at *; omega)) (ok_goto 42 22 rfl rfl rfl ?_)
        exact ok_fg [some (vr p), some (vi _), some (vi _), some (vi i), some (vi (j + 1)), none] ⟨rfl, rfl, rfl, rfl, rfl, trivial⟩ (ih2 _ _ (j + 1) ⟨by omega, by omega, by omega, by omega⟩ (by omega))
      · refine ok_iload 30 rfl rfl rfl (ok_iload_n 31 rfl rfl rfl (ok_icmp_ge 32 67 rfl rfl rfl (fun h53 => ?_) (fun h53 => ?_)))
        · refine ok_inc4 41 rfl rfl rfl (by first | omega | (simp [up_if]; omega) | (simp [up_if] at *; omega)) (ok_goto 42 22 rfl rfl rfl ?_)
          exact ok_fg [some (vr p), some (vi _), some (vi _), some (vi i), some (vi (j + 1)), none] ⟨rfl, rfl, rfl, rfl, rfl, trivial⟩ (ih2 _ _ (j + 1) ⟨by omega, by omega, by omega, by omega⟩ (by omega))
        · refine ok_iload 33 rfl rfl rfl (ok_ist2 34 rfl rfl rfl (ok_iload_n 35 rfl rfl rfl (ok_bipush 36 rfl rfl (by decide) (by decide) (ok_imul 37 rfl rfl (by first | omega | (simp [up_if]; omega) | (simp [up_if] at *; omega)) (ok_iload 38 rfl rfl rfl (ok_iadd 39 rfl rfl (by first | omega | (simp [up_if]; omega) | (simp [up_if] at *; omega)) (ok_ist1 40 rfl rfl rfl (ok_inc4 41 rfl rfl rfl (by first | omega | (simp [up_if]; omega) | (simp [up_if] at *; omega)) (ok_goto 42 22 rfl rfl rfl ?_)))))))))
          exact ok_fg [some (vr p), some (vi _), some (vi _), some (vi i), some (vi (j + 1)), none] ⟨rfl, rfl, rfl, rfl, rfl, trivial⟩ (ih2 _ _ (j + 1) ⟨by omega, by omega, by omega, by omega⟩ (by omega))
theorem s_Pe_choose {σ : eS} {p q : Nat} {r : Int} (hp : pP p q) (h : iPe σ p q) (hC : iCh σ) : MtI shA M_Pe_choose [vr p, vi r] σ (fun σ' z => fr rgCh σ σ' ∧ iCh σ' ∧ (z = 0 ∨ z = 1) ∧ mkS 1 σ σ') := by
  refine Mt.of okM_Pe_choose (Nat.le_of_ble_eq_true rfl) (fun hk hg => ?_)
  obtain ⟨n0, n1, n2, n3, n4⟩ := pP_n hp
  have hn := h.1
  refine ok_aload_n 0 rfl rfl rfl (ok_getR 1 rfl rfl fl_X5_9 (sP hp) rfl (ok_aload_n 2 rfl rfl rfl (ok_getI 3 rfl rfl fl_X5_15 (sP hp) rfl (Or.inl rfl) (ok_iconst 4 rfl rfl (by decide) (ok_callSL (M' := M_Jo_of) (as := [_, _, _]) 5 rfl rfl ml_X5_77 (s_Jo_of (sQ hp) hn.2) ⟨Nat.le_of_ble_eq_true rfl, Nat.le_of_ble_eq_true rfl⟩ rfl (Nat.le_of_ble_eq_true rfl) (fun σ' J hJ => ?_))))))
  obtain ⟨hs_, hJ⟩ := hJ
  rw [hs_]; clear hs_ σ'
  refine ok_lst2 6 rfl rfl rfl (ok_iload_n 7 rfl rfl rfl ?_)
  rcases (by omega : r = 1 ∨ r = 2 ∨ r = 3 ∨ (r < 1 ∨ 3 < r)) with q_ | q_ | q_ | q_
  · subst q_
    refine ok_tin 8 (len := 26) 40 rfl rfl (by decide) (by decide) rfl rfl ?_
    refine ok_aload_n 9 rfl rfl rfl (ok_getR 10 rfl rfl fl_X5_28 (sP hp) rfl (ok_aload_n 11 rfl rfl rfl (ok_getR 12 rfl rfl fl_X5_9 (sP hp) rfl (ok_lload_n 13 rfl rfl rfl (ok_aload_n 14 rfl rfl rfl (ok_getI 15 rfl rfl fl_X5_15 (sP hp) rfl (Or.inl rfl) (ok_callVL (M' := M_Ch_greatestLeast) (as := [_, _, _]) 16 rfl rfl ml_X5_83 (s_Ch_greatestLeast (sQ hp) hn) rfl rfl (Nat.le_of_ble_eq_true rfl) ⟨Nat.le_of_ble_eq_true rfl, Nat.le_of_ble_eq_true rfl⟩ rfl (Nat.le_of_ble_eq_true rfl) (fun τ g f => ?_))))))))
    have f0 : fr rgCh σ τ := f.mono (fun c k w => by simp only [rgCh]; omega)
    have hC0 : iCh τ := iCh_cg hC (fun k => f _ _ (by simp))
    have hn0 : τ p 2 = σ p 2 := f _ _ (by omega)
    have m0 : mkS 0 σ τ := mkS_fr (by decide) f (by omega) (fun k => by omega)
    refine ok_l2iW 17 rfl rfl (ok_ist4 18 rfl rfl rfl (ok_iload 19 rfl rfl rfl (ok_if_le 20 95 rfl rfl rfl (fun h61 => ?_) (fun h61 => ?_))))
    · refine ok_iconst 35 rfl rfl (by decide) (ok_zret 36 rfl rfl rfl (by first | omega | (simp [up_if]; omega) | (simp [up_if] at *; omega)) ?_)
      exact ⟨_, rfl, f0, hC0, Or.inl rfl, m0.mono (by decide)⟩
    · refine ok_aload_n 21 rfl rfl rfl (ok_getR 22 rfl rfl fl_X5_28 (sP hp) rfl (ok_aload_n 23 rfl rfl rfl (ok_getR 24 rfl rfl fl_X5_9 (sP hp) rfl (ok_aload_n 25 rfl rfl rfl (ok_getI 26 rfl rfl fl_X5_15 (sP hp) rfl (Or.inl rfl) (ok_iload 27 rfl rfl rfl (ok_callSL (M' := M_Jo_of) (as := [_, _, _]) 28 rfl rfl ml_X5_77 (s_Jo_of (sQ hp) (by omega)) ⟨Nat.le_of_ble_eq_true rfl, Nat.le_of_ble_eq_true rfl⟩ rfl (Nat.le_of_ble_eq_true rfl) (fun σ' J2 hJ2 => ?_))))))))
      obtain ⟨hs_, hJ2⟩ := hJ2
      rw [hs_]; clear hs_ σ'
      refine ok_aload_n 29 rfl rfl rfl (ok_getI 30 rfl rfl fl_X5_15 (sP hp) rfl (Or.inl rfl) (ok_callVI (M' := M_Ch_findFirst) (as := [_, _]) 31 rfl rfl ml_X5_87 (s_Ch_findFirst hC0 ⟨by omega, by omega⟩) rfl rfl (Nat.le_of_ble_eq_true rfl) ⟨Nat.le_of_ble_eq_true rfl, Nat.le_of_ble_eq_true rfl⟩ rfl (Nat.le_of_ble_eq_true rfl) (fun τ2 z2 f2 => ?_)))
      refine ok_if_eq 32 95 rfl rfl rfl (fun h88 => ?_) (fun h88 => ?_)
      · refine ok_iconst 35 rfl rfl (by decide) (ok_zret 36 rfl rfl rfl (by first | omega | (simp [up_if]; omega) | (simp [up_if] at *; omega)) ?_)
        exact ⟨_, rfl, f0.tr f2.1, f2.2.1, by omega, (m0.tr f2.2.2.2 (by decide) (by decide)).mono (by decide)⟩
      · refine ok_iconst 33 rfl rfl (by decide) (ok_goto 34 96 rfl rfl rfl (ok_zret 36 rfl rfl rfl (by first | omega | (simp [up_if]; omega) | (simp [up_if] at *; omega)) ?_))
        exact ⟨_, rfl, f0.tr f2.1, f2.2.1, by omega, (m0.tr f2.2.2.2 (by decide) (by decide)).mono (by decide)⟩
  · subst q_
    refine ok_tin 8 (len := 26) 97 rfl rfl (by decide) (by decide) rfl rfl ?_
    refine ok_aload_n 37 rfl rfl rfl (ok_callVI (M' := M_Pe_leastPlace) (as := []) 38 rfl rfl ml_X5_91 (s_Pe_leastPlace hp h) (sP hp) rfl (Nat.le_of_ble_eq_true rfl) ⟨Nat.le_of_ble_eq_true rfl, Nat.le_of_ble_eq_true rfl⟩ rfl (Nat.le_of_ble_eq_true rfl) (fun σ' k hk1 => ?_))
    obtain ⟨hs_, hk1⟩ := hk1
    rw [hs_]; clear hs_ σ'
    refine ok_ist5 39 rfl rfl rfl (ok_aload_n 40 rfl rfl rfl (ok_getR 41 rfl rfl fl_X5_28 (sP hp) rfl (ok_lload_n 42 rfl rfl rfl (ok_iload 43 rfl rfl rfl (ok_bipush 44 rfl rfl (by decide) (by decide) (ok_idiv 45 rfl rfl (by first | omega | (simp [up_if]; omega) | (simp [up_if] at *; omega)) (by first | omega | (simp [up_if]; omega) | (simp [up_if] at *; omega)) (ok_iload 46 rfl rfl rfl (ok_bipush 47 rfl rfl (by decide) (by decide) (ok_irem 48 rfl rfl (by first | omega | (simp [up_if]; omega) | (simp [up_if] at *; omega)) (by first | omega | (simp [up_if]; omega) | (simp [up_if] at *; omega)) (ok_callSL (M' := M_Jo_through) (as := [_, _, _]) 49 rfl rfl ml_X5_94 (s_Jo_through) ⟨Nat.le_of_ble_eq_true rfl, Nat.le_of_ble_eq_true rfl⟩ rfl (Nat.le_of_ble_eq_true rfl) (fun σ' J3 hJ3 => ?_)))))))))))
    obtain ⟨hs_, hJ3⟩ := hJ3
    rw [hs_]; clear hs_ σ'
    refine ok_aload_n 50 rfl rfl rfl (ok_getI 51 rfl rfl fl_X5_15 (sP hp) rfl (Or.inl rfl) (ok_callVI (M' := M_Ch_findFirst) (as := [_, _]) 52 rfl rfl ml_X5_87 (s_Ch_findFirst hC hn) rfl rfl (Nat.le_of_ble_eq_true rfl) ⟨Nat.le_of_ble_eq_true rfl, Nat.le_of_ble_eq_true rfl⟩ rfl (Nat.le_of_ble_eq_true rfl) (fun τ2 z2 f2 => ?_)))
    refine ok_zret 53 rfl rfl rfl f2.2.2.1 ?_
    exact ⟨_, rfl, f2⟩
  · subst q_
    refine ok_tin 8 (len := 26) 129 rfl rfl (by decide) (by decide) rfl rfl ?_
    refine ok_aload_n 54 rfl rfl rfl (ok_getR 55 rfl rfl fl_X5_28 (sP hp) rfl (ok_aload_n 56 rfl rfl rfl (ok_getR 57 rfl rfl fl_X5_9 (sP hp) rfl (ok_lload_n 58 rfl rfl rfl (ok_aload_n 59 rfl rfl rfl (ok_getI 60 rfl rfl fl_X5_15 (sP hp) rfl (Or.inl rfl) (ok_callVL (M' := M_Ch_findRichest) (as := [_, _, _]) 61 rfl rfl ml_X5_98 (s_Ch_findRichest (sQ hp) hC hn) rfl rfl (Nat.le_of_ble_eq_true rfl) ⟨Nat.le_of_ble_eq_true rfl, Nat.le_of_ble_eq_true rfl⟩ rfl (Nat.le_of_ble_eq_true rfl) (fun τ2 z2 f2 => ?_))))))))
    refine ok_ldc2 62 (-1) rfl rfl kc_X5_101 (by decide) (ok_lcmp_eq 63 64 156 rfl rfl rfl rfl rfl (fun h148 => ?_) (fun h148 => ?_))
    · refine ok_iconst 67 rfl rfl (by decide) (ok_zret 68 rfl rfl rfl (by first | omega | (simp [up_if]; omega) | (simp [up_if] at *; omega)) ?_)
      exact ⟨_, rfl, f2.1, f2.2.1, by omega, f2.2.2.mono (by decide)⟩
    · refine ok_iconst 65 rfl rfl (by decide) (ok_goto 66 157 rfl rfl rfl (ok_zret 68 rfl rfl rfl (by first | omega | (simp [up_if]; omega) | (simp [up_if] at *; omega)) ?_))
      exact ⟨_, rfl, f2.1, f2.2.1, by omega, f2.2.2.mono (by decide)⟩
  · refine ok_tout 8 (len := 26) 158 rfl rfl q_ rfl ?_
    refine ok_aload_n 69 rfl rfl rfl (ok_getR 70 rfl rfl fl_X5_28 (sP hp) rfl (ok_lload_n 71 rfl rfl rfl (ok_aload_n 72 rfl rfl rfl (ok_getI 73 rfl rfl fl_X5_15 (sP hp) rfl (Or.inl rfl) (ok_callVI (M' := M_Ch_findFirst) (as := [_, _]) 74 rfl rfl ml_X5_87 (s_Ch_findFirst hC hn) rfl rfl (Nat.le_of_ble_eq_true rfl) ⟨Nat.le_of_ble_eq_true rfl, Nat.le_of_ble_eq_true rfl⟩ rfl (Nat.le_of_ble_eq_true rfl) (fun τ2 z2 f2 => ?_))))))
    refine ok_zret 75 rfl rfl rfl f2.2.2.1 ?_
    exact ⟨_, rfl, f2⟩
theorem s_Pe_choiceNumber {σ : eS} {p q : Nat} (hp : pP p q) (h : iPe σ p q) : MtI shA M_Pe_choiceNumber [vr p] σ (fun σ' _ => σ' = σ ∧ True) := by
  refine Mt.of okM_Pe_choiceNumber (Nat.le_of_ble_eq_true rfl) (fun hk hg => ?_)
  have n1 := h.1.1
  have n2 := h.1.2
  refine ok_iconst 0 rfl rfl (by decide) (ok_ist1 1 rfl rfl rfl (ok_iconst 2 rfl rfl (by decide) (ok_ist2 3 rfl rfl rfl ?_)))
  refine lpO2 (fun v i : Int => [some (vr p), some (vi v), some (vi i)]) (fun _ _ => σ) (fun _ i => 0 ≤ i ∧ i ≤ 8) (fun _ i => (8 - i).toNat) ?_ 0 0 ⟨by omega, by omega⟩
  rintro v i ⟨i1, i2⟩ ih
  refine ok_iload_n 4 rfl rfl rfl (ok_aload_n 5 rfl rfl rfl (ok_getI 6 rfl rfl fl_X5_15 (sP hp) rfl (Or.inl rfl) (ok_icmp_ge 7 33 rfl rfl rfl (fun h9 => ?_) (fun h9 => ?_))))
  · refine ok_iload_n 20 rfl rfl rfl (ok_iret 21 rfl rfl rfl ?_)
    exact ⟨_, rfl, rfl, trivial⟩
  · refine ok_iload_n 8 rfl rfl rfl (ok_bipush 9 rfl rfl (by decide) (by decide) (ok_imulW 10 rfl rfl (ok_aload_n 11 rfl rfl rfl (ok_getR 12 rfl rfl fl_X5_28 (sP hp) rfl (ok_getR 13 rfl rfl fl_X5_66 rfl rfl (ok_iload_n 14 rfl rfl rfl (ok_iald 15 rfl rfl rfl (by first | omega | (simp [up_if]; omega) | (simp [up_if] at *; omega)) (ok_iaddW 16 rfl rfl (ok_ist1 17 rfl rfl rfl (ok_inc2 18 rfl rfl rfl (by first | omega | (simp [up_if]; omega) | (simp [up_if] at *; omega)) (ok_goto 19 4 rfl rfl rfl ?_)))))))))))
    exact ih _ (i + 1) ⟨by omega, by omega⟩ (by omega)
abbrev rgPe (p q : Nat) : Nat → Int → Prop := fun c k => (c = p ∧ 3 ≤ k ∧ k ≤ 5) ∨ c = q ∨ c = 16 ∨ c = 17 ∨ c = 18 ∨ c = 19
def QTk (p q : Nat) (σ σ' : eS) : Prop := fr (rgPe p q) σ σ' ∧ iPe σ' p q ∧ iCh σ' ∧ 0 ≤ σ' p 3 ∧ 0 ≤ σ' p 5 ∧ σ' p 3 + σ' p 5 ≤ max 0 (σ p 3) ∧ mkS 1 σ σ'
theorem s_Pe_takePart {σ : eS} {p q : Nat} {r : Int} (hp : pP p q) (h : iPe σ p q) (hC : iCh σ) : MtV shA M_Pe_takePart [vr p, vi r] σ (fun σ' => QTk p q σ σ') := by
  refine Mt.of okM_Pe_takePart (Nat.le_of_ble_eq_true rfl) (fun hk hg => ?_)
  obtain ⟨n0, n1, n2, n3, n4⟩ := pP_n hp
  obtain ⟨σ1, e1⟩ : ∃ τ, τ = up σ p 5 0 := ⟨_, rfl⟩
  have f1 : fr (rgPe p q) σ σ1 := by rw [e1]; exact fr_up fr.rf (by simp [rgPe])
  have h1 : iPe σ1 p q := iPe_cg h (by rw [e1]; exact up_nk _ _ _ _ (by decide)) (fun k => by rw [e1]; exact up_ne _ _ _ _ (by omega))
  have hC1 : iCh σ1 := iCh_cg hC (fun k => by rw [e1]; exact up_ne _ _ _ _ (by omega))
  have el : σ1 p 3 = σ p 3 := by rw [e1]; exact up_nk _ _ _ _ (by decide)
  have ew : σ1 p 5 = 0 := by rw [e1]; exact up_same _ _ _ _
  have m1 : mkS 0 σ σ1 := by rw [e1]; exact mkS_cg (by decide) (up_ne _ _ _ _ (by omega)) (fun k => up_ne _ _ _ _ (by omega))
  have stop0 : ∀ τ : eS, fr rgCh σ1 τ → iCh τ → mkS 1 σ1 τ → QTk p q σ (up τ p 3 0) := fun τ f hc hk => by
    have m2 : mkS 0 τ (up τ p 3 0) := mkS_cg (by decide) (up_ne _ _ _ _ (by omega)) (fun k => up_ne _ _ _ _ (by omega))
    refine ⟨fr_up (f1.tr (f.mono (fun c k w => by simp only [rgCh, rgPe] at w ⊢; omega))) (by simp [rgPe]), iPe_cg h1 ?_ (fun k => ?_), iCh_cg hc (fun k => up_ne _ _ _ _ (by omega)), ?_, ?_, ?_, ((m1.tr hk (by decide) (by decide)).tr m2 (by decide) (by decide)).mono (by decide)⟩
    · rw [up_nk _ _ _ _ (by decide)]; exact f _ _ (by simp only [rgCh]; omega)
    · rw [up_ne _ _ _ _ (by omega)]; exact f _ _ (by simp only [rgCh]; omega)
    · rw [up_same]; decide
    · rw [up_nk _ _ _ _ (by decide), f _ _ (by simp only [rgCh]; omega), ew]; decide
    · rw [up_same, up_nk _ _ _ _ (by decide), f p 5 (by simp only [rgCh]; omega), ew]; omega
  refine ok_aload_n 0 rfl rfl rfl (ok_iconst 1 rfl rfl (by decide) (ok_putI 2 rfl rfl fl_X5_25 (sP hp) rfl rfl rfl ?_))
  rw [← e1]
  refine ok_aload_n 3 rfl rfl rfl (ok_getI 4 rfl rfl fl_X5_19 (sP hp) rfl (Or.inl rfl) (ok_if_le 5 20 rfl rfl rfl (fun h9 => ?_) (fun h9 => ?_)))
  · refine ok_aload_n 10 rfl rfl rfl (ok_iconst 11 rfl rfl (by decide) (ok_putI 12 rfl rfl fl_X5_19 (sP hp) rfl rfl rfl (ok_vret 13 rfl rfl rfl ?_)))
    exact ⟨rfl, stop0 _ fr.rf hC1 (mkS_cg (by decide) rfl (fun _ => rfl))⟩
  · refine ok_aload_n 6 rfl rfl rfl (ok_iload_n 7 rfl rfl rfl (ok_callVI (M' := M_Pe_choose) (as := [_]) 8 rfl rfl ml_X5_62 (s_Pe_choose hp h1 hC1) (sP hp) rfl (Nat.le_of_ble_eq_true rfl) ⟨Nat.le_of_ble_eq_true rfl, Nat.le_of_ble_eq_true rfl⟩ rfl (Nat.le_of_ble_eq_true rfl) (fun τ z f => ?_)))
    refine ok_if_ne 9 26 rfl rfl rfl (fun h17 => ?_) (fun h17 => ?_)
    · have l0 : 0 < σ p 3 := by omega
      have hl : τ p 3 = σ p 3 := by rw [f.1 p 3 (by simp only [rgCh]; omega), el]
      have hn : τ p 2 = σ p 2 := by rw [f.1 p 2 (by simp only [rgCh]; omega), e1]; exact up_nk _ _ _ _ (by decide)
      have hq : ∀ k, 0 ≤ k → k < 64 → 0 ≤ τ q k := fun k a b => by rw [f.1 q k (by simp only [rgCh]; omega)]; exact h1.2 k a b
      have fA : fr (rgPe p q) σ τ := f1.tr (f.1.mono (fun c k w => by simp only [rgCh, rgPe] at w ⊢; omega))
      have hc := f.2.1
      have mA : mkS 1 σ τ := (m1.tr f.2.2.2 (by decide) (by decide)).mono (by decide)
      clear f h17 z h9 ew el
      have hn1 := h.1.1
      have hn2 := h.1.2
      refine ok_aload_n 14 rfl rfl rfl (ok_aload_n 15 rfl rfl rfl (ok_getI 16 rfl rfl fl_X5_19 (sP hp) rfl (Or.inl rfl) (ok_putI 17 rfl rfl fl_X5_25 (sP hp) rfl rfl rfl (ok_iconst 18 rfl rfl (by decide) (ok_ist2 19 rfl rfl rfl ?_)))))
      refine lpO2 (fun (i : Int) (_ : eS) => [some (vr p), some (vi r), some (vi i)]) (fun _ ρ => ρ) (fun i ρ => 0 ≤ i ∧ i ≤ σ p 2 ∧ fr (fun c k => c = p ∧ k = 5) τ ρ ∧ 0 ≤ ρ p 5 ∧ ρ p 5 ≤ σ p 3 ∧ ∀ k, 0 ≤ k → k < i → ρ p 5 ≤ τ q (k * 8 + τ 17 k)) (fun i _ => (8 - i).toNat) ?_ 0 _ ⟨by omega, by omega, fr_up fr.rf ⟨rfl, rfl⟩, by rw [up_same]; omega, by rw [up_same]; omega, fun k a b => by omega⟩
      rintro i ρ ⟨i1, i2, g, w1, w2, w3⟩ ih
      have g2 : ρ p 2 = σ p 2 := by rw [g p 2 (by omega), hn]
      have g17 : ∀ k, ρ 17 k = τ 17 k := fun k => g 17 k (by omega)
      have gq : ∀ k, ρ q k = τ q k := fun k => g q k (by omega)
      refine ok_iload_n 20 rfl rfl rfl (ok_aload_n 21 rfl rfl rfl (ok_getI 22 rfl rfl fl_X5_15 (sP hp) rfl (Or.inl rfl) (ok_icmp_ge 23 80 rfl rfl rfl (fun h41 => ?_) (fun h41 => ?_))))
      · refine ok_iconst 43 rfl rfl (by decide) (ok_ist2 44 rfl rfl rfl ?_)
        clear ih
        obtain ⟨W, eW⟩ : ∃ W, W = ρ p 5 := ⟨_, rfl⟩
        rw [← eW] at w1 w2 w3
        have w4 : ∀ k, 0 ≤ k → k < σ p 2 → W ≤ ρ q (k * 8 + ρ 17 k) := fun k a b => by rw [g17, gq]; exact w3 k a (by omega)
        have c4 : ∀ k : Int, 0 ≤ k → k < σ p 2 → 0 ≤ ρ 17 k ∧ ρ 17 k ≤ 7 := fun k a b => by rw [g17]; exact hc k a (by omega)
        have q4 : ∀ k, 0 ≤ k → k < 64 → 0 ≤ ρ q k := fun k a b => by rw [gq]; exact hq k a b
        clear w3 gq h41 i1 i2 i
        refine lpO2 (fun (i : Int) (_ : eS) => [some (vr p), some (vi r), some (vi i)]) (fun _ υ => υ) (fun i υ => 0 ≤ i ∧ i ≤ σ p 2 ∧ fr (fun c _ => c = q) ρ υ ∧ (∀ k, 0 ≤ k → k < 64 → 0 ≤ υ q k) ∧ ∀ k, i ≤ k → k < σ p 2 → W ≤ υ q (k * 8 + ρ 17 k)) (fun i _ => (8 - i).toNat) ?_ 0 ρ ⟨by omega, by omega, fr.rf, q4, w4⟩
        rintro i υ ⟨i1, i2, u, u1, u2⟩ ih
        have v2 : υ p 2 = σ p 2 := by rw [u p 2 (by omega), g2]
        have v5 : υ p 5 = W := by rw [u p 5 (by omega), eW]
        have v3 : υ p 3 = σ p 3 := by rw [u p 3 (by omega), g p 3 (by omega), hl]
        have v17 : ∀ k, υ 17 k = ρ 17 k := fun k => u 17 k (by omega)
        refine ok_gd (fun hgd => ?_)
        refine ok_iload_n 45 rfl rfl rfl (ok_aload_n 46 rfl rfl rfl (ok_getI 47 rfl rfl fl_X5_15 (sP hp) rfl (Or.inl rfl) (ok_icmp_ge 48 122 rfl rfl rfl (fun h87 => ?_) (fun h87 => ?_))))
        · have lr : rg (υ p 3) := eGd_i (k := 3) hgd (sP hp) rfl (by decide)
          refine ok_aload_n 68 rfl rfl rfl (ok_dup 69 rfl rfl rfl (ok_getI 70 rfl rfl fl_X5_19 (sP hp) rfl (Or.inl rfl) (ok_aload_n 71 rfl rfl rfl (ok_getI 72 rfl rfl fl_X5_25 (sP hp) rfl (Or.inl rfl) (ok_isub 73 rfl rfl (by first | omega | (simp [up_if]; omega) | (simp [up_if] at *; omega)) (ok_putI 74 rfl rfl fl_X5_19 (sP hp) rfl rfl rfl (ok_aload_n 75 rfl rfl rfl (ok_dup 76 rfl rfl rfl (ok_getI 77 rfl rfl fl_X5_22 (sP hp) rfl (Or.inl rfl) (ok_iconst 78 rfl rfl (by decide) (ok_iaddW 79 rfl rfl (ok_putI 80 rfl rfl fl_X5_22 (sP hp) rfl rfl rfl (ok_vret 81 rfl rfl rfl ?_)))))))))))))
          refine ⟨rfl, ?_, ?_, ?_, ?_, ?_, ?_, (mA.tr (mkS_cg (N := 0) (by decide) ?_ (fun k => ?_)) (by decide) (by decide)).mono (by decide)⟩
          · refine fr_up (fr_up ?_ (by simp [rgPe])) (by simp [rgPe])
            exact (fA.tr (g.mono (fun c k w => by simp only [rgPe]; omega))).tr (u.mono (fun c k w => by simp only [rgPe]; omega))
          · refine ⟨?_, fun k a b => ?_⟩
            · rw [up_nk _ _ _ _ (by decide), up_nk _ _ _ _ (by decide), v2]; exact h.1
            · rw [up_ne _ _ _ _ (by omega), up_ne _ _ _ _ (by omega)]; exact u1 k a b
          · exact iCh_cg hc (fun k => by rw [up_ne _ _ _ _ (by omega), up_ne _ _ _ _ (by omega), v17, g17])
          · rw [up_nk _ _ _ _ (by decide), up_same]; omega
          · rw [up_nk _ _ _ _ (by decide), up_nk _ _ _ _ (by decide)]; omega
          · rw [up_nk _ _ _ _ (by decide), up_same, up_nk _ _ _ _ (by decide), up_nk _ _ _ _ (by decide)]; omega
          · rw [up_ne _ _ _ _ (by omega), up_ne _ _ _ _ (by omega), u 16 3 (by omega), g 16 3 (by omega)]
          · rw [up_ne _ _ _ _ (by omega), up_ne _ _ _ _ (by omega), u 19 k (by omega), g 19 k (by omega)]
        · have c := c4 i i1 (by omega)
          rw [← v17] at c
          have uq := u2 i (Int.le_refl _) (by omega)
          rw [← v17] at uq
          have ur : rg (υ q (i * 8 + υ 17 i)) := eGd_a hgd (sQ hp) (Or.inl rfl)
          refine ok_aload_n 49 rfl rfl rfl (ok_getR 50 rfl rfl fl_X5_9 (sP hp) rfl (ok_iload_n 51 rfl rfl rfl (ok_bipush 52 rfl rfl (by decide) (by decide) (ok_imul 53 rfl rfl (by first | omega | (simp [up_if]; omega) | (simp [up_if] at *; omega)) (ok_aload_n 54 rfl rfl rfl (ok_getR 55 rfl rfl fl_X5_28 (sP hp) rfl (ok_getR 56 rfl rfl fl_X5_66 rfl rfl (ok_iload_n 57 rfl rfl rfl (ok_iald 58 rfl rfl rfl (by first | omega | (simp [up_if]; omega) | (simp [up_if] at *; omega)) (ok_iadd 59 rfl rfl (by first | omega | (simp [up_if]; omega) | (simp [up_if] at *; omega)) (ok_dup2 60 rfl rfl ⟨rfl, rfl⟩ (ok_iald 61 rfl rfl (sQ hp) (by first | omega | (simp [up_if]; omega) | (simp [up_if] at *; omega)) (ok_aload_n 62 rfl rfl rfl (ok_getI 63 rfl rfl fl_X5_25 (sP hp) rfl (Or.inl rfl) (ok_isub 64 rfl rfl (by first | omega | (simp [up_if]; omega) | (simp [up_if] at *; omega)) (ok_iast 65 rfl rfl (sQ hp) (by first | omega | (simp [up_if]; omega) | (simp [up_if] at *; omega)) (ok_inc2 66 rfl rfl rfl (by first | omega | (simp [up_if]; omega) | (simp [up_if] at *; omega)) (ok_goto 67 82 rfl rfl rfl ?_))))))))))))))))))
          rw [v5]
          refine ih (i + 1) _ ⟨by omega, by omega, fr_up u rfl, fun k a b => ?_, fun k a b => ?_⟩ (by omega)
          · rw [up_if]
            by_cases y : k = i * 8 + υ 17 i
            · rw [if_pos ⟨rfl, y⟩]; omega
            · rw [if_neg (fun x => y x.2)]; exact u1 k a b
          · have c' := c4 k (by omega) b
            rw [up_nk _ _ _ _ (by omega)]
            exact u2 k (by omega) b
      · have c := hc i (by omega) (by omega)
        rw [← g17] at c
        have cq := hq (i * 8 + ρ 17 i) (by omega) (by omega)
        rw [← gq] at cq
        refine ok_aload_n 24 rfl rfl rfl (ok_aload_n 25 rfl rfl rfl (ok_getI 26 rfl rfl fl_X5_25 (sP hp) rfl (Or.inl rfl) (ok_aload_n 27 rfl rfl rfl (ok_getR 28 rfl rfl fl_X5_9 (sP hp) rfl (ok_iload_n 29 rfl rfl rfl (ok_bipush 30 rfl rfl (by decide) (by decide) (ok_imul 31 rfl rfl (by first | omega | (simp [up_if]; omega) | (simp [up_if] at *; omega)) (ok_aload_n 32 rfl rfl rfl (ok_getR 33 rfl rfl fl_X5_28 (sP hp) rfl (ok_getR 34 rfl rfl fl_X5_66 rfl rfl (ok_iload_n 35 rfl rfl rfl (ok_iald 36 rfl rfl rfl (by first | omega | (simp [up_if]; omega) | (simp [up_if] at *; omega)) (ok_iadd 37 rfl rfl (by first | omega | (simp [up_if]; omega) | (simp [up_if] at *; omega)) (ok_iald 38 rfl rfl (sQ hp) (by first | omega | (simp [up_if]; omega) | (simp [up_if] at *; omega)) (ok_mmin 39 rfl rfl ml_X5_71 ⟨Nat.le_of_ble_eq_true rfl, Nat.le_of_ble_eq_true rfl⟩ (ok_putI 40 rfl rfl fl_X5_25 (sP hp) rfl rfl rfl (ok_inc2 41 rfl rfl rfl (by first | omega | (simp [up_if]; omega) | (simp [up_if] at *; omega)) (ok_goto 42 36 rfl rfl rfl ?_))))))))))))))))))
        refine ih (i + 1) _ ⟨by omega, by omega, fr_up g ⟨rfl, rfl⟩, by rw [up_same]; omega, by rw [up_same]; omega, ?_⟩ (by omega)
        rw [up_same]
        refine up_to (fun k a b => ?_) ?_
        · have := w3 k a b; omega
        · rw [← gq, ← g17]; omega
    · refine ok_aload_n 10 rfl rfl rfl (ok_iconst 11 rfl rfl (by decide) (ok_putI 12 rfl rfl fl_X5_19 (sP hp) rfl rfl rfl (ok_vret 13 rfl rfl rfl ?_)))
      exact ⟨rfl, stop0 _ f.1 f.2.1 f.2.2.2⟩
