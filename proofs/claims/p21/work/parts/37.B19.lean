theorem s_Mo_isRule {σ : eS} {r : Int} : MtI shB M_Mo_isRule [vi r] σ (fun σ' z => σ' = σ ∧ ((z = 1 ∧ 0 ≤ r ∧ r ≤ 3) ∨ (z = 0 ∧ ¬ (0 ≤ r ∧ r ≤ 3)))) := by
  refine Mt.of okM_Mo_isRule (Nat.le_of_ble_eq_true rfl) (fun hk hg => ?_)
  refine ok_iload_n 0 rfl rfl rfl (ok_i2l 1 rfl rfl (ok_lconst (w := 0) 2 rfl rfl rfl (by decide) (ok_ldc2 3 (3) rfl rfl kc_X12_97 (by decide) (ok_callSI (M' := M_Mo_isIn) (as := [_, _, _]) 4 rfl rfl ml_X12_99 (s_Mo_isIn_r) ⟨Nat.le_of_ble_eq_true rfl, Nat.le_of_ble_eq_true rfl⟩ rfl (Nat.le_of_ble_eq_true rfl) (fun σ' z hz => ?_)))))
  obtain ⟨hs_, hz⟩ := hz
  rw [hs_]; clear hs_ σ'
  refine ok_zret 5 rfl rfl rfl (by omega) ?_
  exact ⟨_, rfl, rfl, hz⟩
def iK (σ : eS) : Prop := 0 ≤ σ 0 27 ∧ σ 0 27 ≤ 64 ∧ 0 ≤ σ 0 28 ∧ σ 0 28 ≤ 8 ∧ 0 ≤ σ 0 29 ∧ σ 0 29 ≤ 799999992 ∧ wtK σ (σ 0 27) (σ 0 29) ∧ colK σ (σ 0 27) (σ 0 28) ∧ (σ 0 30 = 2 → 1 ≤ σ 0 27 ∧ 1 ≤ σ 0 31 ∧ σ 0 31 ≤ 4 ∧ σ 0 28 = 2 * σ 0 31)
theorem s_Mo_isPartThere {σ : eS} {k : Int} (h : iK σ) : MtI shB M_Mo_isPartThere [vr 0, vi k] σ (fun σ' z => σ' = σ ∧ ((z = 1 ∧ 0 ≤ k ∧ k < σ 0 27) ∨ (z = 0 ∧ ¬ (0 ≤ k ∧ k < σ 0 27)))) := by
  refine Mt.of okM_Mo_isPartThere (Nat.le_of_ble_eq_true rfl) (fun hk hg => ?_)
  have := h.1
  have := h.2.1
  refine ok_iload_n 0 rfl rfl rfl (ok_i2l 1 rfl rfl (ok_lconst (w := 0) 2 rfl rfl rfl (by decide) (ok_aload_n 3 rfl rfl rfl (ok_getI 4 rfl rfl fl_X12_273 rfl rfl (Or.inl rfl) (ok_iconst 5 rfl rfl (by decide) (ok_isub 6 rfl rfl (by first | omega | (simp [up_if]; omega) | (simp [up_if] at *; omega)) (ok_i2l 7 rfl rfl (ok_callSI (M' := M_Mo_isIn) (as := [_, _, _]) 8 rfl rfl ml_X12_99 (s_Mo_isIn_r) ⟨Nat.le_of_ble_eq_true rfl, Nat.le_of_ble_eq_true rfl⟩ rfl (Nat.le_of_ble_eq_true rfl) (fun σ' z hz => ?_)))))))))
  obtain ⟨hs_, hz⟩ := hz
  rw [hs_]; clear hs_ σ'
  refine ok_zret 9 rfl rfl rfl (by omega) ?_
  exact ⟨_, rfl, rfl, by omega⟩
theorem s_Mo_isKeptRow {σ : eS} {k : Int} (h : iK σ) : MtI shB M_Mo_isKeptRow [vr 0, vi k] σ (fun σ' z => σ' = σ ∧ ((z = 1 ∧ 0 ≤ k ∧ k < σ 0 28) ∨ (z = 0 ∧ ¬ (0 ≤ k ∧ k < σ 0 28)))) := by
  refine Mt.of okM_Mo_isKeptRow (Nat.le_of_ble_eq_true rfl) (fun hk hg => ?_)
  have := h.2.2.1
  have := h.2.2.2.1
  refine ok_iload_n 0 rfl rfl rfl (ok_i2l 1 rfl rfl (ok_lconst (w := 0) 2 rfl rfl rfl (by decide) (ok_aload_n 3 rfl rfl rfl (ok_getI 4 rfl rfl fl_X12_276 rfl rfl (Or.inl rfl) (ok_iconst 5 rfl rfl (by decide) (ok_isub 6 rfl rfl (by first | omega | (simp [up_if]; omega) | (simp [up_if] at *; omega)) (ok_i2l 7 rfl rfl (ok_callSI (M' := M_Mo_isIn) (as := [_, _, _]) 8 rfl rfl ml_X12_99 (s_Mo_isIn_r) ⟨Nat.le_of_ble_eq_true rfl, Nat.le_of_ble_eq_true rfl⟩ rfl (Nat.le_of_ble_eq_true rfl) (fun σ' z hz => ?_)))))))))
  obtain ⟨hs_, hz⟩ := hz
  rw [hs_]; clear hs_ σ'
  refine ok_zret 9 rfl rfl rfl (by omega) ?_
  exact ⟨_, rfl, rfl, by omega⟩
theorem s_Mo_part {σ : eS} {k r : Int} (h : iK σ) : MtI shB M_Mo_part [vr 0, vi k, vi r] σ (fun σ' z => σ' = σ ∧ ((z = σ 13 (8 * k + r) ∧ 0 ≤ k ∧ k < σ 0 27 ∧ 0 ≤ r ∧ r < σ 0 28) ∨ (z = -1 ∧ ¬ (0 ≤ k ∧ k < σ 0 27 ∧ 0 ≤ r ∧ r < σ 0 28)))) := by
  refine Mt.of okM_Mo_part (Nat.le_of_ble_eq_true rfl) (fun hk hg => ?_)
  obtain ⟨h1, h2, h3, h4, -⟩ := id h
  refine ok_aload_n 0 rfl rfl rfl (ok_iload_n 1 rfl rfl rfl (ok_callVI (M' := M_Mo_isPartThere) (as := [_]) 2 rfl rfl ml_X12_300 (s_Mo_isPartThere h) rfl rfl (Nat.le_of_ble_eq_true rfl) ⟨Nat.le_of_ble_eq_true rfl, Nat.le_of_ble_eq_true rfl⟩ rfl (Nat.le_of_ble_eq_true rfl) (fun σ' z1 a1 => ?_)))
  obtain ⟨hs_, a1⟩ := a1
  rw [hs_]; clear hs_ σ'
  refine ok_if_eq 3 30 rfl rfl rfl (fun h5 => ?_) (fun h5 => ?_)
  · refine ok_iconst 17 rfl rfl (by decide) (ok_iret 18 rfl rfl rfl ?_)
    refine ⟨_, rfl, rfl, ?_⟩
    first | exact Or.inl ⟨rfl, by omega, by omega, by omega, by omega⟩ | exact Or.inr ⟨rfl, by omega⟩
  · refine ok_aload_n 4 rfl rfl rfl (ok_iload_n 5 rfl rfl rfl (ok_callVI (M' := M_Mo_isKeptRow) (as := [_]) 6 rfl rfl ml_X12_303 (s_Mo_isKeptRow h) rfl rfl (Nat.le_of_ble_eq_true rfl) ⟨Nat.le_of_ble_eq_true rfl, Nat.le_of_ble_eq_true rfl⟩ rfl (Nat.le_of_ble_eq_true rfl) (fun σ' z2 a2 => ?_)))
    obtain ⟨hs_, a2⟩ := a2
    rw [hs_]; clear hs_ σ'
    refine ok_if_eq 7 30 rfl rfl rfl (fun h13 => ?_) (fun h13 => ?_)
    · refine ok_iconst 17 rfl rfl (by decide) (ok_iret 18 rfl rfl rfl ?_)
      refine ⟨_, rfl, rfl, ?_⟩
      first | exact Or.inl ⟨rfl, by omega, by omega, by omega, by omega⟩ | exact Or.inr ⟨rfl, by omega⟩
    · refine ok_aload_n 8 rfl rfl rfl (ok_getR 9 rfl rfl fl_X12_51 rfl rfl (ok_bipush 10 rfl rfl (by decide) (by decide) (ok_iload_n 11 rfl rfl rfl (ok_imul 12 rfl rfl (by first | omega | (simp [up_if]; omega) | (simp [up_if] at *; omega)) (ok_iload_n 13 rfl rfl rfl (ok_iadd 14 rfl rfl (by first | omega | (simp [up_if]; omega) | (simp [up_if] at *; omega)) (ok_iald 15 rfl rfl rfl (by first | omega | (simp [up_if]; omega) | (simp [up_if] at *; omega)) (ok_goto 16 31 rfl rfl rfl (ok_iret 18 rfl rfl rfl ?_)))))))))
      refine ⟨_, rfl, rfl, ?_⟩
      first | exact Or.inl ⟨rfl, by omega, by omega, by omega, by omega⟩ | exact Or.inr ⟨rfl, by omega⟩
theorem wt_sum {σ : eS} (h : iK σ) {k : Int} (h0 : 0 ≤ k) (h1 : k ≤ σ 0 27) : 0 ≤ sm (fun q => σ 12 q) k.toNat ∧ sm (fun q => σ 12 q) k.toNat ≤ σ 0 29 := by
  obtain ⟨-, -, -, -, -, -, hw, -⟩ := h
  have key : ∀ (d : Nat) (k : Int), 0 ≤ k → k + d ≤ σ 0 27 → sm (fun q => σ 12 q) k.toNat ≤ sm (fun q => σ 12 q) (k + d).toNat := by
    intro d
    induction d with
    | zero => intro k a b; rw [show k + ((0 : Nat) : Int) = k by omega]; exact Int.le_refl _
    | succ d ih =>
      intro k a b
      have e := ih k a (by omega)
      have e2 := sm_s (fun q => σ 12 q) (j := k + d) (by omega)
      have e3 := hw.1 (k + d) (by omega) (by omega)
      rw [show k + ((d + 1 : Nat) : Int) = k + d + 1 by omega, e2]
      omega
  have a := key k.toNat 0 (by omega) (by omega)
  have b := key (σ 0 27 - k).toNat k h0 (by omega)
  rw [show (0 : Int) + (k.toNat : Int) = k by omega] at a
  rw [show k + ((σ 0 27 - k).toNat : Int) = σ 0 27 by omega, hw.2] at b
  exact ⟨a, b⟩
theorem wt_le {σ : eS} (h : iK σ) {k : Int} (h0 : 0 ≤ k) (h1 : k < σ 0 27) : 1 ≤ σ 12 k ∧ σ 12 k ≤ σ 0 29 := by
  have a := (wt_sum h (k := k + 1) (by omega) (by omega)).2
  rw [sm_s _ h0] at a
  have b := (wt_sum h h0 (by omega)).1
  have c := h.2.2.2.2.2.2.1.1 k h0 h1
  exact ⟨c, by omega⟩
theorem s_Mo_ruleOf {σ : eS} {w k : Int} (hk : 0 ≤ k ∧ k ≤ 3) : MtI shB M_Mo_ruleOf [vi w, vi k] σ (fun σ' z => σ' = σ ∧ z = iand (ishr w (6 - 2 * k)) 3) := by
  refine Mt.of okM_Mo_ruleOf (Nat.le_of_ble_eq_true rfl) (fun hk hg => ?_)
  refine ok_iload_n 0 rfl rfl rfl (ok_bipush 1 rfl rfl (by decide) (by decide) (ok_iconst 2 rfl rfl (by decide) (ok_iload_n 3 rfl rfl rfl (ok_imul 4 rfl rfl (by first | omega | (simp [up_if]; omega) | (simp [up_if] at *; omega)) (ok_isub 5 rfl rfl (by first | omega | (simp [up_if]; omega) | (simp [up_if] at *; omega)) (ok_ishr 6 rfl rfl (ok_iconst 7 rfl rfl (by decide) (ok_iand 8 rfl rfl (ok_iret 9 rfl rfl rfl ?_)))))))))
  exact ⟨_, rfl, rfl, rfl⟩
theorem s_Mo_lies {σ : eS} {s a b : Int} (hB : iB1 σ) (hs : 0 ≤ s ∧ s < 4) (h3 : σ 1 s = 3) (ha : 0 ≤ a ∧ a ≤ 2) (hb : 0 ≤ b ∧ b ≤ 2) : MtL shB M_Mo_lies [vr 0, vi s, vi a, vi b] σ (fun σ' z => σ' = σ ∧ 0 ≤ z ∧ z ≤ 99999999) := by
  refine Mt.of okM_Mo_lies (Nat.le_of_ble_eq_true rfl) (fun hk hg => ?_)
  refine ok_iconst 0 rfl rfl (by decide) (ok_ist4 1 rfl rfl rfl ?_)
  refine lpO (fun i : Int => [some (vr 0), some (vi s), some (vi a), some (vi b), some (vi i)]) (fun _ => σ) (fun i => 0 ≤ i ∧ i ≤ 3) (fun i => (3 - i).toNat) ?_ 0 ⟨by omega, by omega⟩
  rintro i ⟨i1, i2⟩ ih
  refine ok_iload 2 rfl rfl rfl (ok_iconst 3 rfl rfl (by decide) (ok_icmp_ge 4 47 rfl rfl rfl (fun h6 => ?_) (fun h6 => ?_)))
  · refine ok_lconst (w := 0) 31 rfl rfl rfl (by decide) (ok_lret 32 rfl rfl rfl ?_)
    exact ⟨_, rfl, rfl, by omega, by omega⟩
  · refine ok_iload 5 rfl rfl rfl (ok_iload_n 6 rfl rfl rfl (ok_iadd 7 rfl rfl (by first | omega | (simp [up_if]; omega) | (simp [up_if] at *; omega)) (ok_iconst 8 rfl rfl (by decide) (ok_irem 9 rfl rfl (by first | omega | (simp [up_if]; omega) | (simp [up_if] at *; omega)) (by first | omega | (simp [up_if]; omega) | (simp [up_if] at *; omega)) (ok_iload_n 10 rfl rfl rfl (ok_iload 11 rfl rfl rfl (ok_isub 12 rfl rfl (by first | omega | (simp [up_if]; omega) | (simp [up_if] at *; omega)) (ok_iconst 13 rfl rfl (by decide) (ok_iadd 14 rfl rfl (by first | omega | (simp [up_if]; omega) | (simp [up_if] at *; omega)) (ok_iconst 15 rfl rfl (by decide) (ok_irem 16 rfl rfl (by first | omega | (simp [up_if]; omega) | (simp [up_if] at *; omega)) (by first | omega | (simp [up_if]; omega) | (simp [up_if] at *; omega)) (ok_icmp_ne 17 41 rfl rfl rfl (fun h23 => ?_) (fun h23 => ?_)))))))))))))
    · refine ok_inc4 29 rfl rfl rfl (by first | omega | (simp [up_if]; omega) | (simp [up_if] at *; omega)) (ok_goto 30 3 rfl rfl rfl ?_)
      exact ih (i + 1) ⟨by omega, by omega⟩ (by omega)
    · refine ok_aload_n 18 rfl rfl rfl (ok_iload_n 19 rfl rfl rfl (ok_iload 20 rfl rfl rfl (ok_iload 21 rfl rfl rfl (ok_iload_n 22 rfl rfl rfl (ok_iadd 23 rfl rfl (by first | omega | (simp [up_if]; omega) | (simp [up_if] at *; omega)) (ok_iconst 24 rfl rfl (by decide) (ok_irem 25 rfl rfl (by first | omega | (simp [up_if]; omega) | (simp [up_if] at *; omega)) (by first | omega | (simp [up_if]; omega) | (simp [up_if] at *; omega)) (ok_callVI (M' := M_Mo_at) (as := [_, _, _]) 26 rfl rfl ml_X12_107 (s_Mo_at hB hs ⟨by omega, by omega⟩ ⟨by omega, by omega⟩) rfl rfl (Nat.le_of_ble_eq_true rfl) ⟨Nat.le_of_ble_eq_true rfl, Nat.le_of_ble_eq_true rfl⟩ rfl (Nat.le_of_ble_eq_true rfl) (fun σ' z hz => ?_)))))))))
      rw [hz.1, hz.2]; clear hz z σ'
      have hc := cB_bd hB hs (i := i) (j := (i + a) % 3) ⟨by omega, by omega⟩ ⟨by omega, by omega⟩
      refine ok_i2l 27 rfl rfl (ok_lret 28 rfl rfl rfl ?_)
      exact ⟨_, rfl, rfl, hc.1, hc.2⟩
