theorem s_Mo_isRule {σ : eS} {r : Int} : MtI shB M_Mo_isRule [vi r] σ (fun σ' z => σ' = σ ∧ ((z = 1 ∧ 0 ≤ r ∧ r ≤ 3) ∨ (z = 0 ∧ ¬ (0 ≤ r ∧ r ≤ 3)))) := by
  refine Mt.of okM_Mo_isRule (Nat.le_of_ble_eq_true rfl) (fun hk hg => ?_)
  refine ok_iload_n 0 rfl rfl rfl (ok_i2l 1 rfl rfl (ok_lconst (w := 0) 2 rfl rfl rfl (by decide) (ok_ldc2 3 (3) rfl rfl kc_X12_97 (by decide) (ok_callSI (M' := M_Mo_isIn) (as := [_, _, _]) 4 rfl rfl ml_X12_99 (s_Mo_isIn_r) ⟨Nat.le_of_ble_eq_true rfl, Nat.le_of_ble_eq_true rfl⟩ rfl (Nat.le_of_ble_eq_true rfl) (fun σ' z hz => ?_)))))
  obtain ⟨hs_, hz⟩ := hz
  rw [hs_]; clear hs_ σ'
  refine ok_zret 5 rfl rfl rfl (by omega) ?_
  exact ⟨_, rfl, rfl, hz⟩
def iK (σ : eS) : Prop := 0 ≤ σ 0 27 ∧ σ 0 27 ≤ 64 ∧ 0 ≤ σ 0 28 ∧ σ 0 28 ≤ 8 ∧ 0 ≤ σ 0 29 ∧ σ 0 29 ≤ 799999992 ∧ wtK σ (σ 0 27) (σ 0 29) ∧ colK σ (σ 0 27) (σ 0 28) ∧ (σ 0 30 = 2 → 1 ≤ σ 0 27 ∧ 1 ≤ σ 0 31 ∧ σ 0 31 ≤ 4 ∧ σ 0 28 = 2 * σ 0 31)
theorem s_Mo_isPartThere {σ : eS} {k : Int} (h : iK σ) : MtI shB M_Mo_isPartThere [vr 0, vi k] σ (fun σ' z => σ' = σ ∧ ((z = 1 ∧ 0 ≤ k ∧ k < σ 0 27) ∨ (z = 0 ∧ ¬ (0 ≤ k ∧ k < σ 0 27)))) := by
  refine Mt.of okM_Mo_isPartThere (Nat.le_of_ble_eq_true rfl) (fun hk hg => ?_)
  have := h.1
  have := h.2.1
  refine ok_iload_n 0 rfl rfl rfl (ok_i2l 1 rfl rfl (ok_lconst (w := 0) 2 rfl rfl rfl (by decide) (ok_aload_n 3 rfl rfl rfl (ok_getI 4 rfl rfl fl_X12_273 rfl rfl (Or.inl rfl) (ok_iconst 5 rfl rfl (by decide) (ok_isub 6 rfl rfl (by first | omega | (simp [up_if]; omega) | (simp [up_if] at *; omega)) (ok_i2l 7 rfl rfl (ok_callSI (M' := M_Mo_isIn) (as := [_, _, _]) 8 rfl rfl ml_X12_99 (s_Mo_isIn_r) ⟨Nat.le_of_ble_eq_true rfl, Nat.le_of_ble_eq_true rfl⟩ rfl (Nat.le_of_ble_eq_true rfl) (fun σ' z hz => ?_)))))))))
  obtain ⟨hs_, hz⟩ := hz
  rw [hs_]; clear hs_ σ'
  refine ok_zret 9 rfl rfl rfl (by omega) ?_
  exact ⟨_, rfl, rfl, by omega⟩
theorem s_Mo_isKeptRow {σ : eS} {k : Int} (h : iK σ) : MtI shB M_Mo_isKeptRow [vr 0, vi k] σ (fun σ' z => σ' = σ ∧ ((z = 1 ∧ 0 ≤ k ∧ k < σ 0 28) ∨ (z = 0 ∧ ¬ (0 ≤ k ∧ k < σ 0 28)))) := by
  refine Mt.of okM_Mo_isKeptRow (Nat.le_of_ble_eq_true rfl) (fun hk hg => ?_)
  have := h.2.2.1
  have := h.2.2.2.1
  refine ok_iload_n 0 rfl rfl rfl (ok_i2l 1 rfl rfl (ok_lconst (w := 0) 2 rfl rfl rfl (by decide) (ok_aload_n 3 rfl rfl rfl (ok_getI 4 rfl rfl fl_X12_276 rfl rfl (Or.inl rfl) (ok_iconst 5 rfl rfl (by decide) (ok_isub 6 rfl rfl (by first | omega | (simp [up_if]; omega) | (simp [up_if] at *; omega)) (ok_i2l 7 rfl rfl (ok_callSI (M' := M_Mo_isIn) (as := [_, _, _]) 8 rfl rfl ml_X12_99 (s_Mo_isIn_r) ⟨Nat.le_of_ble_eq_true rfl, Nat.le_of_ble_eq_true rfl⟩ rfl (Nat.le_of_ble_eq_true rfl) (fun σ' z hz => ?_)))))))))
  obtain ⟨hs_, hz⟩ := hz
  rw [hs_]; clear hs_ σ'
  refine ok_zret 9 rfl rfl rfl (by omega) ?_
  exact ⟨_, rfl, rfl, by omega⟩
theorem s_Mo_part {σ : eS} {k r : Int} (h : iK σ) : MtI shB M_Mo_part [vr 0, vi k, vi r] σ (fun σ' z => σ' = σ ∧ ((z = σ 13 (8 * k + r) ∧ 0 ≤ k ∧ k < σ 0 27 ∧ 0 ≤ r ∧ r < σ 0 28) ∨ (z = -1 ∧ ¬ (0 ≤ k ∧ k < σ 0 27 ∧ 0 ≤ r ∧ r < σ 0 28)))) := by
  refine Mt.of okM_Mo_part (Nat.le_of_ble_eq_true rfl) (fun hk hg => ?_)
  obtain ⟨h1, h2, h3, h4, -⟩ := id h
  refine ok_aload_n 0 rfl rfl rfl (ok_iload_n 1 rfl rfl rfl (ok_callVI (M' := M_Mo_isPartThere) (as := [_]) 2 rfl rfl ml_X12_300 (s_Mo_isPartThere h) rfl rfl (Nat.le_of_ble_eq_true rfl) ⟨Nat.le_of_ble_eq_true rfl, Nat.le_of_ble_eq_true rfl⟩ rfl (Nat.le_of_ble_eq_true rfl) (fun σ' z1 a1 => ?_)))
  obtain ⟨hs_, a1⟩ := a1
  rw [hs_]; clear hs_ σ'
  refine ok_if_eq 3 30 rfl rfl rfl (fun h5 => ?_) (fun h5 => ?_)
  · refine ok_iconst 17 rfl rfl (by decide) (ok_iret 18 rfl rfl rfl ?_)
    refine ⟨_, rfl, rfl, ?_⟩
    first | exact Or.inl ⟨rfl, by omega, by omega, by omega, by omega⟩ | exact Or.inr ⟨rfl, by omega⟩
  · refine ok_aload_n 4 rfl rfl rfl (ok_iload_n 5 rfl rfl rfl (ok_callVI (M' := M_Mo_isKeptRow) (as := [_]) 6 rfl rfl ml_X12_303 (s_Mo_isKeptRow h) rfl rfl (Nat.le_of_ble_eq_true rfl) ⟨Nat.le_of_ble_eq_true rfl, Nat.le_of_ble_eq_true rfl⟩ rfl (Nat.le_of_ble_eq_true rfl) (fun σ' z2 a2 => ?_)))
    obtain ⟨hs_, a2⟩ := a2
    rw [hs_]; clear hs_ σ'
    refine ok_if_eq 7 30 rfl rfl rfl (fun h13 => ?_) (fun h13 => ?_)
    · refine ok_iconst 17 rfl rfl (by decide) (ok_iret 18 rfl rfl rfl ?_)
      refine ⟨_, rfl, rfl, ?_⟩
      first | exact Or.inl ⟨rfl, by omega, by omega, by omega, by omega⟩ | exact Or.inr ⟨rfl, by omega⟩
    · refine ok_aload_n 8 rfl rfl rfl (ok_getR 9 rfl rfl fl_X12_51 rfl rfl (ok_bipush 10 rfl rfl (by decide) (by decide) (ok_iload_n 11 rfl rfl rfl (ok_imul 12 rfl rfl (by first | omega | (simp [up_if]; omega) | (simp [up_if] at *; omega)) (ok_iload_n 13 rfl rfl rfl (ok_iadd 14 rfl rfl (by first | omega | (simp [up_if]; omega) | (simp [up_if] at *; omega)) (ok_iald 15 rfl rfl rfl (by first | omega | (simp [up_if]; omega) | (simp [up_if] at *; omega)) (ok_goto 16 31 rfl rfl rfl (ok_iret 18 rfl rfl rfl ?_)))))))))
      refine ⟨_, rfl, rfl, ?_⟩
      first | exact Or.inl ⟨rfl, by omega, by omega, by omega, by omega⟩ | exact Or.inr ⟨rfl, by omega⟩
theorem wt_sum {σ : eS} (h : iK σ) {k : Int} (h0 : 0 ≤ k) (h1 : k ≤ σ 0 27) : 0 ≤ sm (fun q => σ 12 q) k.toNat ∧ sm (fun q => σ 12 q) k.toNat ≤ σ 0 29 := by
  obtain ⟨-, -, -, -, -, -, hw, -⟩ := h
  have key : ∀ (d : Nat) (k : Int), 0 ≤ k → k + d ≤ σ 0 27 → sm (fun q => σ 12 q) k.toNat ≤ sm (fun q => σ 12 q) (k + d).toNat := by
    intro d
    induction d with
    | zero => intro k a b; rw [show k + ((0 : Nat) : Int) = k by omega]; exact Int.le_refl _
    | succ d ih =>
      intro k a b
      have e := ih k a (by omega)
      have e2 := sm_s (fun q => σ 12 q) (j := k + d) (by omega)
      have e3 := hw.1 (k + d) (by omega) (by omega)
      rw [show k + ((d + 1 : Nat) : Int) = k + d + 1 by omega, e2]
      omega
  have a := key k.toNat 0 (by omega) (by omega)
  have b := key (σ 0 27 - k).toNat k h0 (by omega)
  rw [show (0 : Int) + (k.toNat : Int) = k by omega] at a
  rw [show k + ((σ 0 27 - k).toNat : Int) = σ 0 27 by omega, hw.2] at b
  exact ⟨a, b⟩
theorem wt_le {σ : eS} (h : iK σ) {k : Int} (h0 : 0 ≤ k) (h1 : k < σ 0 27) : 1 ≤ σ 12 k ∧ σ 12 k ≤ σ 0 29 := by
  have a := (wt_sum h (k := k + 1) (by omega) (by omega)).2
  rw [sm_s _ h0] at a
  have b := (wt_sum h h0 (by omega)).1
  have c := h.2.2.2.2.2.2.1.1 k h0 h1
  exact ⟨c, by omega⟩
theorem s_Mo_weight {σ : eS} {k w : Int} (h : iK σ) : MtI shB M_Mo_weight [vr 0, vi k, vi w] σ (fun σ' z => σ' = σ) := by
  refine Mt.of okM_Mo_weight (Nat.le_of_ble_eq_true rfl) (fun hk hg => ?_)
  obtain ⟨h1, h2, h3, h4, h5, h6, -⟩ := id h
  refine ok_aload_n 0 rfl rfl rfl (ok_iload_n 1 rfl rfl rfl (ok_callVI (M' := M_Mo_isPartThere) (as := [_]) 2 rfl rfl ml_X12_300 (s_Mo_isPartThere h) rfl rfl (Nat.le_of_ble_eq_true rfl) ⟨Nat.le_of_ble_eq_true rfl, Nat.le_of_ble_eq_true rfl⟩ rfl (Nat.le_of_ble_eq_true rfl) (fun σ' z1 a1 => ?_)))
  obtain ⟨hs_, a1⟩ := a1
  rw [hs_]; clear hs_ σ'
  refine ok_if_eq 3 20 rfl rfl rfl (fun h5 => ?_) (fun h5 => ?_)
  · refine ok_iconst 10 rfl rfl (by decide) (ok_iret 11 rfl rfl rfl ?_)
    exact ⟨_, rfl, rfl⟩
  · refine ok_iload_n 4 rfl rfl rfl (ok_i2l 5 rfl rfl (ok_lconst (w := 0) 6 rfl rfl rfl (by decide) (ok_ldc2 7 (2) rfl rfl kc_X12_306 (by decide) (ok_callSI (M' := M_Mo_isIn) (as := [_, _, _]) 8 rfl rfl ml_X12_99 (s_Mo_isIn_r) ⟨Nat.le_of_ble_eq_true rfl, Nat.le_of_ble_eq_true rfl⟩ rfl (Nat.le_of_ble_eq_true rfl) (fun σ' z2 a2 => ?_)))))
    obtain ⟨hs_, a2⟩ := a2
    rw [hs_]; clear hs_ σ'
    refine ok_if_ne 9 22 rfl rfl rfl (fun h17 => ?_) (fun h17 => ?_)
    · have hk := yes1 a1 h5
      obtain ⟨w1, w2⟩ := wt_le h hk.1 hk.2
      obtain ⟨c1, c2⟩ := gcd_pos (a := σ 12 k) (b := σ 0 29) (by omega)
      refine ok_aload_n 12 rfl rfl rfl (ok_getR 13 rfl rfl fl_X12_48 rfl rfl (ok_iload_n 14 rfl rfl rfl (ok_iald 15 rfl rfl rfl (by first | omega | (simp [up_if]; omega) | (simp [up_if] at *; omega)) (ok_i2l 16 rfl rfl (ok_aload_n 17 rfl rfl rfl (ok_getI 18 rfl rfl fl_X12_279 rfl rfl (Or.inl rfl) (ok_i2l 19 rfl rfl (ok_callSL (M' := M_Mo_common) (as := [_, _]) 20 rfl rfl ml_X12_89 (s_Mo_common (by omega) (by omega)) ⟨Nat.le_of_ble_eq_true rfl, Nat.le_of_ble_eq_true rfl⟩ rfl (Nat.le_of_ble_eq_true rfl) (fun σ' z hz => ?_)))))))))
      rw [hz.1, hz.2]
      clear hz z σ'
      refine ok_l2i 21 rfl rfl (by first | omega | (simp [up_if]; omega) | (simp [up_if] at *; omega)) (ok_ist3 22 rfl rfl rfl (ok_iload_n 23 rfl rfl rfl (ok_if_ne 24 52 rfl rfl rfl (fun h40 => ?_) (fun h40 => ?_))))
      · refine ok_iload_n 30 rfl rfl rfl (ok_iconst 31 rfl rfl (by decide) (ok_icmp_ne 32 68 rfl rfl rfl (fun h54 => ?_) (fun h54 => ?_)))
        · refine ok_aload_n 40 rfl rfl rfl (ok_getI 41 rfl rfl fl_X12_279 rfl rfl (Or.inl rfl) (ok_iload_n 42 rfl rfl rfl (ok_idiv 43 rfl rfl (by omega) (by omega) (ok_iret 44 rfl rfl rfl ?_))))
          exact ⟨_, rfl, rfl⟩
        · refine ok_aload_n 33 rfl rfl rfl (ok_getR 34 rfl rfl fl_X12_48 rfl rfl (ok_iload_n 35 rfl rfl rfl (ok_iald 36 rfl rfl rfl (by first | omega | (simp [up_if]; omega) | (simp [up_if] at *; omega)) (ok_iload_n 37 rfl rfl rfl (ok_idiv 38 rfl rfl (by omega) (by omega) (ok_goto 39 74 rfl rfl rfl (ok_iret 44 rfl rfl rfl ?_)))))))
          exact ⟨_, rfl, rfl⟩
      · refine ok_aload_n 25 rfl rfl rfl (ok_getR 26 rfl rfl fl_X12_48 rfl rfl (ok_iload_n 27 rfl rfl rfl (ok_iald 28 rfl rfl rfl (by first | omega | (simp [up_if]; omega) | (simp [up_if] at *; omega)) (ok_goto 29 74 rfl rfl rfl (ok_iret 44 rfl rfl rfl ?_)))))
        exact ⟨_, rfl, rfl⟩
    · refine ok_iconst 10 rfl rfl (by decide) (ok_iret 11 rfl rfl rfl ?_)
      exact ⟨_, rfl, rfl⟩
theorem s_Mo_draw {σ : eS} {r : Int} (h : iK σ) : MtI shB M_Mo_draw [vr 0, vi r] σ (fun σ' z => σ' = σ ∧ ((z = -1 ∧ ¬ (1 ≤ σ 0 27 ∧ 0 ≤ r ∧ r < σ 0 29)) ∨ (1 ≤ σ 0 27 ∧ 0 ≤ r ∧ r < σ 0 29 ∧ 0 ≤ z ∧ z < σ 0 27))) := by
  refine Mt.of okM_Mo_draw (Nat.le_of_ble_eq_true rfl) (fun hk hg => ?_)
  obtain ⟨h1, h2, h3, h4, h5, h6, -⟩ := id h
  refine ok_aload_n 0 rfl rfl rfl (ok_getI 1 rfl rfl fl_X12_273 rfl rfl (Or.inl rfl) (ok_if_eq 2 23 rfl rfl rfl (fun h4 => ?_) (fun h4 => ?_)))
  · refine ok_iconst 13 rfl rfl (by decide) (ok_iret 14 rfl rfl rfl ?_)
    exact ⟨_, rfl, rfl, Or.inl ⟨rfl, by omega⟩⟩
  · refine ok_iload_n 3 rfl rfl rfl (ok_i2l 4 rfl rfl (ok_lconst (w := 0) 5 rfl rfl rfl (by decide) (ok_aload_n 6 rfl rfl rfl (ok_getI 7 rfl rfl fl_X12_279 rfl rfl (Or.inl rfl) (ok_iconst 8 rfl rfl (by decide) (ok_isub 9 rfl rfl (by first | omega | (simp [up_if]; omega) | (simp [up_if] at *; omega)) (ok_i2l 10 rfl rfl (ok_callSI (M' := M_Mo_isIn) (as := [_, _, _]) 11 rfl rfl ml_X12_99 (s_Mo_isIn_r) ⟨Nat.le_of_ble_eq_true rfl, Nat.le_of_ble_eq_true rfl⟩ rfl (Nat.le_of_ble_eq_true rfl) (fun σ' z1 a1 => ?_)))))))))
    obtain ⟨hs_, a1⟩ := a1
    rw [hs_]; clear hs_ σ'
    refine ok_if_ne 12 25 rfl rfl rfl (fun h20 => ?_) (fun h20 => ?_)
    · refine ok_iconst 15 rfl rfl (by decide) (ok_ist2 16 rfl rfl rfl (ok_iload_n 17 rfl rfl rfl (ok_ist3 18 rfl rfl rfl ?_)))
      have hr := yes1 a1 h20
      refine lpO2 (fun k l : Int => [some (vr 0), some (vi r), some (vi k), some (vi l)]) (fun _ _ => σ) (fun k l => 0 ≤ k ∧ k < σ 0 27 ∧ 0 ≤ l ∧ l < σ 0 29 - sm (fun q => σ 12 q) k.toNat) (fun k _ => (64 - k).toNat) ?_ 0 r ⟨by omega, by omega, by omega, by show r < σ 0 29 - 0; omega⟩
      rintro k l ⟨k1, k2, k3, k4⟩ ih
      obtain ⟨w1, w2⟩ := wt_le h k1 k2
      obtain ⟨w3, w4⟩ := wt_sum h k1 (by omega)
      have e := sm_s (fun q => σ 12 q) k1
      have w5 := (wt_sum h (k := k + 1) (by omega) (by omega)).2
      have last : k + 1 = σ 0 27 → sm (fun q => σ 12 q) (k + 1).toNat = σ 0 29 := fun q => by rw [q]; exact h.2.2.2.2.2.2.1.2
      refine ok_iload_n 19 rfl rfl rfl (ok_aload_n 20 rfl rfl rfl (ok_getR 21 rfl rfl fl_X12_48 rfl rfl (ok_iload_n 22 rfl rfl rfl (ok_iald 23 rfl rfl rfl (by first | omega | (simp [up_if]; omega) | (simp [up_if] at *; omega)) (ok_icmp_lt 24 54 rfl rfl rfl (fun h36 => ?_) (fun h36 => ?_))))))
      · refine ok_iload_n 34 rfl rfl rfl (ok_iret 35 rfl rfl rfl ?_)
        exact ⟨_, rfl, rfl, Or.inr ⟨by omega, hr.1, by omega, k1, k2⟩⟩
      · refine ok_iload_n 25 rfl rfl rfl (ok_aload_n 26 rfl rfl rfl (ok_getR 27 rfl rfl fl_X12_48 rfl rfl (ok_iload_n 28 rfl rfl rfl (ok_iald 29 rfl rfl rfl (by first | omega | (simp [up_if]; omega) | (simp [up_if] at *; omega)) (ok_isub 30 rfl rfl (by first | omega | (simp [up_if]; omega) | (simp [up_if] at *; omega)) (ok_ist3 31 rfl rfl rfl (ok_inc2 32 rfl rfl rfl (by first | omega | (simp [up_if]; omega) | (simp [up_if] at *; omega)) (ok_goto 33 29 rfl rfl rfl ?_))))))))
        exact ih (k + 1) _ ⟨by omega, by rcases (show k + 1 = σ 0 27 ∨ k + 1 < σ 0 27 by omega) with q | q; have := last q; omega; exact q, by omega, by omega⟩ (by omega)
    · refine ok_iconst 13 rfl rfl (by decide) (ok_iret 14 rfl rfl rfl ?_)
      exact ⟨_, rfl, rfl, Or.inl ⟨rfl, by omega⟩⟩
theorem s_Mo_together {σ : eS} {r j : Int} (h : iK σ) (hr : 0 ≤ r ∧ r < σ 0 28) : MtI shB M_Mo_together [vr 0, vi r, vi j] σ (fun σ' z => σ' = σ ∧ 0 ≤ z ∧ z ≤ σ 0 29) := by
  refine Mt.of okM_Mo_together (Nat.le_of_ble_eq_true rfl) (fun hk hg => ?_)
  obtain ⟨h1, h2, h3, h4, h5, h6, -⟩ := id h
  refine ok_iconst 0 rfl rfl (by decide) (ok_ist3 1 rfl rfl rfl (ok_iconst 2 rfl rfl (by decide) (ok_ist4 3 rfl rfl rfl ?_)))
  refine lpO2 (fun v p : Int => [some (vr 0), some (vi r), some (vi j), some (vi v), some (vi p)]) (fun _ _ => σ) (fun v p => 0 ≤ p ∧ p ≤ σ 0 27 ∧ 0 ≤ v ∧ v ≤ sm (fun q => σ 12 q) p.toNat) (fun _ p => (64 - p).toNat) ?_ 0 0 ⟨by omega, by omega, by omega, by show (0 : Int) ≤ 0; omega⟩
  rintro v p ⟨k1, k2, k3, k4⟩ ih
  obtain ⟨w3, w4⟩ := wt_sum h k1 (by omega)
  refine ok_iload 4 rfl rfl rfl (ok_aload_n 5 rfl rfl rfl (ok_getI 6 rfl rfl fl_X12_273 rfl rfl (Or.inl rfl) (ok_icmp_ge 7 50 rfl rfl rfl (fun h11 => ?_) (fun h11 => ?_))))
  · refine ok_iload_n 29 rfl rfl rfl (ok_iret 30 rfl rfl rfl ?_)
    exact ⟨_, rfl, rfl, k3, by omega⟩
  · obtain ⟨w1, w2⟩ := wt_le h k1 (by omega)
    have e := sm_s (fun q => σ 12 q) k1
    have w5 := (wt_sum h (k := p + 1) (by omega) (by omega)).2
    refine ok_iload_n 8 rfl rfl rfl (ok_aload_n 9 rfl rfl rfl (ok_getR 10 rfl rfl fl_X12_51 rfl rfl (ok_bipush 11 rfl rfl (by decide) (by decide) (ok_iload 12 rfl rfl rfl (ok_imul 13 rfl rfl (by first | omega | (simp [up_if]; omega) | (simp [up_if] at *; omega)) (ok_iload_n 14 rfl rfl rfl (ok_iadd 15 rfl rfl (by first | omega | (simp [up_if]; omega) | (simp [up_if] at *; omega)) (ok_iald 16 rfl rfl rfl (by first | omega | (simp [up_if]; omega) | (simp [up_if] at *; omega)) (ok_iload_n 17 rfl rfl rfl (ok_icmp_ne 18 41 rfl rfl rfl (fun h28 => ?_) (fun h28 => ?_)))))))))))
    · refine ok_iconst 24 rfl rfl (by decide) (ok_iadd 25 rfl rfl (by first | omega | (simp [up_if]; omega) | (simp [up_if] at *; omega)) (ok_ist3 26 rfl rfl rfl (ok_inc4 27 rfl rfl rfl (by first | omega | (simp [up_if]; omega) | (simp [up_if] at *; omega)) (ok_goto 28 5 rfl rfl rfl ?_))))
      exact ih _ (p + 1) ⟨by omega, by omega, by omega, by omega⟩ (by omega)
    · refine ok_aload_n 19 rfl rfl rfl (ok_getR 20 rfl rfl fl_X12_48 rfl rfl (ok_iload 21 rfl rfl rfl (ok_iald 22 rfl rfl rfl (by first | omega | (simp [up_if]; omega) | (simp [up_if] at *; omega)) (ok_goto 23 42 rfl rfl rfl (ok_iadd 25 rfl rfl (by first | omega | (simp [up_if]; omega) | (simp [up_if] at *; omega)) (ok_ist3 26 rfl rfl rfl (ok_inc4 27 rfl rfl rfl (by first | omega | (simp [up_if]; omega) | (simp [up_if] at *; omega)) (ok_goto 28 5 rfl rfl rfl ?_))))))))
      exact ih _ (p + 1) ⟨by omega, by omega, by omega, by omega⟩ (by omega)
theorem s_Mo_most {σ : eS} {r w : Int} (h : iK σ) : MtI shB M_Mo_most [vr 0, vi r, vi w] σ (fun σ' z => σ' = σ) := by
  refine Mt.of okM_Mo_most (Nat.le_of_ble_eq_true rfl) (fun hk hg => ?_)
  obtain ⟨h1, h2, h3, h4, h5, h6, -⟩ := id h
  refine ok_aload_n 0 rfl rfl rfl (ok_getI 1 rfl rfl fl_X12_273 rfl rfl (Or.inl rfl) (ok_if_eq 2 27 rfl rfl rfl (fun h4 => ?_) (fun h4 => ?_)))
  · refine ok_iconst 13 rfl rfl (by decide) (ok_iret 14 rfl rfl rfl ?_)
    exact ⟨_, rfl, rfl⟩
  · refine ok_aload_n 3 rfl rfl rfl (ok_iload_n 4 rfl rfl rfl (ok_callVI (M' := M_Mo_isKeptRow) (as := [_]) 5 rfl rfl ml_X12_303 (s_Mo_isKeptRow h) rfl rfl (Nat.le_of_ble_eq_true rfl) ⟨Nat.le_of_ble_eq_true rfl, Nat.le_of_ble_eq_true rfl⟩ rfl (Nat.le_of_ble_eq_true rfl) (fun σ' z1 a1 => ?_)))
    obtain ⟨hs_, a1⟩ := a1
    rw [hs_]; clear hs_ σ'
    refine ok_if_eq 6 27 rfl rfl rfl (fun h12 => ?_) (fun h12 => ?_)
    · refine ok_iconst 13 rfl rfl (by decide) (ok_iret 14 rfl rfl rfl ?_)
      exact ⟨_, rfl, rfl⟩
    · refine ok_iload_n 7 rfl rfl rfl (ok_i2l 8 rfl rfl (ok_lconst (w := 0) 9 rfl rfl rfl (by decide) (ok_ldc2 10 (2) rfl rfl kc_X12_306 (by decide) (ok_callSI (M' := M_Mo_isIn) (as := [_, _, _]) 11 rfl rfl ml_X12_99 (s_Mo_isIn_r) ⟨Nat.le_of_ble_eq_true rfl, Nat.le_of_ble_eq_true rfl⟩ rfl (Nat.le_of_ble_eq_true rfl) (fun σ' z2 a2 => ?_)))))
      obtain ⟨hs_, a2⟩ := a2
      rw [hs_]; clear hs_ σ'
      refine ok_if_ne 12 29 rfl rfl rfl (fun h24 => ?_) (fun h24 => ?_)
      · refine ok_iconst 15 rfl rfl (by decide) (ok_ist3 16 rfl rfl rfl (ok_iconst 17 rfl rfl (by decide) (ok_ist4 18 rfl rfl rfl (ok_iconst 19 rfl rfl (by decide) (ok_ist5 20 rfl rfl rfl ?_)))))
        have hr := yes1 a1 h12
        refine lpO3 (fun b c j : Int => [some (vr 0), some (vi r), some (vi w), some (vi b), some (vi c), some (vi j)]) (fun _ _ _ => σ) (fun b c j => 0 ≤ j ∧ j ≤ σ 0 28 ∧ 0 ≤ c ∧ c ≤ j) (fun _ _ j => (8 - j).toNat) ?_ 0 0 0 ⟨by omega, by omega, by omega, by omega⟩
        rintro b c j ⟨j1, j2, j3, j4⟩ ih
        refine ok_iload 21 rfl rfl rfl (ok_aload_n 22 rfl rfl rfl (ok_getI 23 rfl rfl fl_X12_276 rfl rfl (Or.inl rfl) (ok_icmp_ge 24 94 rfl rfl rfl (fun h43 => ?_) (fun h43 => ?_))))
        · refine ok_iload_n 50 rfl rfl rfl (ok_if_ne 51 102 rfl rfl rfl (fun h95 => ?_) (fun h95 => ?_))
          · refine ok_iload_n 54 rfl rfl rfl (ok_iconst 55 rfl rfl (by decide) (ok_icmp_ne 56 116 rfl rfl rfl (fun h104 => ?_) (fun h104 => ?_)))
            · refine ok_iload 62 rfl rfl rfl (ok_iret 63 rfl rfl rfl ?_)
              exact ⟨_, rfl, rfl⟩
            · refine ok_aload_n 57 rfl rfl rfl (ok_iload_n 58 rfl rfl rfl (ok_iload_n 59 rfl rfl rfl (ok_callVI (M' := M_Mo_together) (as := [_, _]) 60 rfl rfl ml_X12_308 (s_Mo_together h hr) rfl rfl (Nat.le_of_ble_eq_true rfl) ⟨Nat.le_of_ble_eq_true rfl, Nat.le_of_ble_eq_true rfl⟩ rfl (Nat.le_of_ble_eq_true rfl) (fun σ' t4 b4 => ?_))))
              obtain ⟨hs_, b4⟩ := b4
              rw [hs_]; clear hs_ σ'
              refine ok_goto 61 118 rfl rfl rfl (ok_iret 63 rfl rfl rfl ?_)
              exact ⟨_, rfl, rfl⟩
          · refine ok_iload_n 52 rfl rfl rfl (ok_goto 53 118 rfl rfl rfl (ok_iret 63 rfl rfl rfl ?_))
            exact ⟨_, rfl, rfl⟩
        · refine ok_aload_n 25 rfl rfl rfl (ok_iload_n 26 rfl rfl rfl (ok_iload 27 rfl rfl rfl (ok_callVI (M' := M_Mo_together) (as := [_, _]) 28 rfl rfl ml_X12_308 (s_Mo_together h hr) rfl rfl (Nat.le_of_ble_eq_true rfl) ⟨Nat.le_of_ble_eq_true rfl, Nat.le_of_ble_eq_true rfl⟩ rfl (Nat.le_of_ble_eq_true rfl) (fun σ' t1 b1 => ?_))))
          obtain ⟨hs_, b1⟩ := b1
          rw [hs_]; clear hs_ σ'
          refine ok_aload_n 29 rfl rfl rfl (ok_iload_n 30 rfl rfl rfl (ok_iload_n 31 rfl rfl rfl (ok_callVI (M' := M_Mo_together) (as := [_, _]) 32 rfl rfl ml_X12_308 (s_Mo_together h hr) rfl rfl (Nat.le_of_ble_eq_true rfl) ⟨Nat.le_of_ble_eq_true rfl, Nat.le_of_ble_eq_true rfl⟩ rfl (Nat.le_of_ble_eq_true rfl) (fun σ' t2 b2 => ?_))))
          obtain ⟨hs_, b2⟩ := b2
          rw [hs_]; clear hs_ σ'
          refine ok_icmp_le 33 65 rfl rfl rfl (fun h59 => ?_) (fun h59 => ?_)
          · refine ok_iload 36 rfl rfl rfl (ok_aload_n 37 rfl rfl rfl (ok_iload_n 38 rfl rfl rfl (ok_iload 39 rfl rfl rfl (ok_callVI (M' := M_Mo_together) (as := [_, _]) 40 rfl rfl ml_X12_308 (s_Mo_together h hr) rfl rfl (Nat.le_of_ble_eq_true rfl) ⟨Nat.le_of_ble_eq_true rfl, Nat.le_of_ble_eq_true rfl⟩ rfl (Nat.le_of_ble_eq_true rfl) (fun σ' t3 b3 => ?_)))))
            obtain ⟨hs_, b3⟩ := b3
            rw [hs_]; clear hs_ σ'
            refine ok_if_le 41 81 rfl rfl rfl (fun h74 => ?_) (fun h74 => ?_)
            · refine ok_iconst 44 rfl rfl (by decide) (ok_callSI (M' := M_Mo_one) (as := [_]) 45 rfl rfl ml_X12_192 (s_Mo_one) ⟨Nat.le_of_ble_eq_true rfl, Nat.le_of_ble_eq_true rfl⟩ rfl (Nat.le_of_ble_eq_true rfl) (fun σ' z hz => ?_))
              obtain ⟨hs_, hz⟩ := hz
              rw [hs_]; clear hs_ σ'
              have q1 : 0 ≤ z ∧ z ≤ 1 := by rw [hz]; split <;> omega
              refine ok_iadd 46 rfl rfl (by first | omega | (simp [up_if]; omega) | (simp [up_if] at *; omega)) (ok_ist4 47 rfl rfl rfl (ok_inc5 48 rfl rfl rfl (by first | omega | (simp [up_if]; omega) | (simp [up_if] at *; omega)) (ok_goto 49 37 rfl rfl rfl ?_)))
              exact ih _ _ (j + 1) ⟨by omega, by omega, by omega, by omega⟩ (by omega)
            · refine ok_iconst 42 rfl rfl (by decide) (ok_goto 43 82 rfl rfl rfl (ok_callSI (M' := M_Mo_one) (as := [_]) 45 rfl rfl ml_X12_192 (s_Mo_one) ⟨Nat.le_of_ble_eq_true rfl, Nat.le_of_ble_eq_true rfl⟩ rfl (Nat.le_of_ble_eq_true rfl) (fun σ' z hz => ?_)))
              obtain ⟨hs_, hz⟩ := hz
              rw [hs_]; clear hs_ σ'
              have q1 : 0 ≤ z ∧ z ≤ 1 := by rw [hz]; split <;> omega
              refine ok_iadd 46 rfl rfl (by first | omega | (simp [up_if]; omega) | (simp [up_if] at *; omega)) (ok_ist4 47 rfl rfl rfl (ok_inc5 48 rfl rfl rfl (by first | omega | (simp [up_if]; omega) | (simp [up_if] at *; omega)) (ok_goto 49 37 rfl rfl rfl ?_)))
              exact ih _ _ (j + 1) ⟨by omega, by omega, by omega, by omega⟩ (by omega)
          · refine ok_iload 34 rfl rfl rfl (ok_ist3 35 rfl rfl rfl (ok_iload 36 rfl rfl rfl (ok_aload_n 37 rfl rfl rfl (ok_iload_n 38 rfl rfl rfl (ok_iload 39 rfl rfl rfl (ok_callVI (M' := M_Mo_together) (as := [_, _]) 40 rfl rfl ml_X12_308 (s_Mo_together h hr) rfl rfl (Nat.le_of_ble_eq_true rfl) ⟨Nat.le_of_ble_eq_true rfl, Nat.le_of_ble_eq_true rfl⟩ rfl (Nat.le_of_ble_eq_true rfl) (fun σ' t3 b3 => ?_)))))))
            obtain ⟨hs_, b3⟩ := b3
            rw [hs_]; clear hs_ σ'
            refine ok_if_le 41 81 rfl rfl rfl (fun h74 => ?_) (fun h74 => ?_)
            · refine ok_iconst 44 rfl rfl (by decide) (ok_callSI (M' := M_Mo_one) (as := [_]) 45 rfl rfl ml_X12_192 (s_Mo_one) ⟨Nat.le_of_ble_eq_true rfl, Nat.le_of_ble_eq_true rfl⟩ rfl (Nat.le_of_ble_eq_true rfl) (fun σ' z hz => ?_))
              obtain ⟨hs_, hz⟩ := hz
              rw [hs_]; clear hs_ σ'
              have q1 : 0 ≤ z ∧ z ≤ 1 := by rw [hz]; split <;> omega
              refine ok_iadd 46 rfl rfl (by first | omega | (simp [up_if]; omega) | (simp [up_if] at *; omega)) (ok_ist4 47 rfl rfl rfl (ok_inc5 48 rfl rfl rfl (by first | omega | (simp [up_if]; omega) | (simp [up_if] at *; omega)) (ok_goto 49 37 rfl rfl rfl ?_)))
              exact ih _ _ (j + 1) ⟨by omega, by omega, by omega, by omega⟩ (by omega)
            · refine ok_iconst 42 rfl rfl (by decide) (ok_goto 43 82 rfl rfl rfl (ok_callSI (M' := M_Mo_one) (as := [_]) 45 rfl rfl ml_X12_192 (s_Mo_one) ⟨Nat.le_of_ble_eq_true rfl, Nat.le_of_ble_eq_true rfl⟩ rfl (Nat.le_of_ble_eq_true rfl) (fun σ' z hz => ?_)))
              obtain ⟨hs_, hz⟩ := hz
              rw [hs_]; clear hs_ σ'
              have q1 : 0 ≤ z ∧ z ≤ 1 := by rw [hz]; split <;> omega
              refine ok_iadd 46 rfl rfl (by first | omega | (simp [up_if]; omega) | (simp [up_if] at *; omega)) (ok_ist4 47 rfl rfl rfl (ok_inc5 48 rfl rfl rfl (by first | omega | (simp [up_if]; omega) | (simp [up_if] at *; omega)) (ok_goto 49 37 rfl rfl rfl ?_)))
              exact ih _ _ (j + 1) ⟨by omega, by omega, by omega, by omega⟩ (by omega)
      · refine ok_iconst 13 rfl rfl (by decide) (ok_iret 14 rfl rfl rfl ?_)
        exact ⟨_, rfl, rfl⟩
theorem s_Mo_joint {σ : eS} {i j k l w : Int} (h : iK σ) : MtI shB M_Mo_joint [vr 0, vi i, vi j, vi k, vi l, vi w] σ (fun σ' z => σ' = σ) := by
  refine Mt.of okM_Mo_joint (Nat.le_of_ble_eq_true rfl) (fun hk hg => ?_)
  obtain ⟨h1, h2, h3, h4, h5, h6, -⟩ := id h
  refine ok_aload_n 0 rfl rfl rfl (ok_getI 1 rfl rfl fl_X12_273 rfl rfl (Or.inl rfl) (ok_if_eq 2 51 rfl rfl rfl (fun h4 => ?_) (fun h4 => ?_)))
  · refine ok_iconst 25 rfl rfl (by decide) (ok_iret 26 rfl rfl rfl ?_)
    exact ⟨_, rfl, rfl⟩
  · refine ok_aload_n 3 rfl rfl rfl (ok_iload_n 4 rfl rfl rfl (ok_callVI (M' := M_Mo_isKeptRow) (as := [_]) 5 rfl rfl ml_X12_303 (s_Mo_isKeptRow h) rfl rfl (Nat.le_of_ble_eq_true rfl) ⟨Nat.le_of_ble_eq_true rfl, Nat.le_of_ble_eq_true rfl⟩ rfl (Nat.le_of_ble_eq_true rfl) (fun σ' z1 a1 => ?_)))
    obtain ⟨hs_, a1⟩ := a1
    rw [hs_]; clear hs_ σ'
    refine ok_if_eq 6 51 rfl rfl rfl (fun h12 => ?_) (fun h12 => ?_)
    · refine ok_iconst 25 rfl rfl (by decide) (ok_iret 26 rfl rfl rfl ?_)
      exact ⟨_, rfl, rfl⟩
    · refine ok_aload_n 7 rfl rfl rfl (ok_iload_n 8 rfl rfl rfl (ok_callVI (M' := M_Mo_isKeptRow) (as := [_]) 9 rfl rfl ml_X12_303 (s_Mo_isKeptRow h) rfl rfl (Nat.le_of_ble_eq_true rfl) ⟨Nat.le_of_ble_eq_true rfl, Nat.le_of_ble_eq_true rfl⟩ rfl (Nat.le_of_ble_eq_true rfl) (fun σ' z2 a2 => ?_)))
      obtain ⟨hs_, a2⟩ := a2
      rw [hs_]; clear hs_ σ'
      refine ok_if_eq 10 51 rfl rfl rfl (fun h20 => ?_) (fun h20 => ?_)
      · refine ok_iconst 25 rfl rfl (by decide) (ok_iret 26 rfl rfl rfl ?_)
        exact ⟨_, rfl, rfl⟩
      · refine ok_aload_n 11 rfl rfl rfl (ok_iload_n 12 rfl rfl rfl (ok_callVI (M' := M_Mo_isKeptRow) (as := [_]) 13 rfl rfl ml_X12_303 (s_Mo_isKeptRow h) rfl rfl (Nat.le_of_ble_eq_true rfl) ⟨Nat.le_of_ble_eq_true rfl, Nat.le_of_ble_eq_true rfl⟩ rfl (Nat.le_of_ble_eq_true rfl) (fun σ' z3 a3 => ?_)))
        obtain ⟨hs_, a3⟩ := a3
        rw [hs_]; clear hs_ σ'
        refine ok_if_eq 14 51 rfl rfl rfl (fun h28 => ?_) (fun h28 => ?_)
        · refine ok_iconst 25 rfl rfl (by decide) (ok_iret 26 rfl rfl rfl ?_)
          exact ⟨_, rfl, rfl⟩
        · refine ok_aload_n 15 rfl rfl rfl (ok_iload 16 rfl rfl rfl (ok_callVI (M' := M_Mo_isKeptRow) (as := [_]) 17 rfl rfl ml_X12_303 (s_Mo_isKeptRow h) rfl rfl (Nat.le_of_ble_eq_true rfl) ⟨Nat.le_of_ble_eq_true rfl, Nat.le_of_ble_eq_true rfl⟩ rfl (Nat.le_of_ble_eq_true rfl) (fun σ' z4 a4 => ?_)))
          obtain ⟨hs_, a4⟩ := a4
          rw [hs_]; clear hs_ σ'
          refine ok_if_eq 18 51 rfl rfl rfl (fun h37 => ?_) (fun h37 => ?_)
          · refine ok_iconst 25 rfl rfl (by decide) (ok_iret 26 rfl rfl rfl ?_)
            exact ⟨_, rfl, rfl⟩
          · refine ok_iload 19 rfl rfl rfl (ok_i2l 20 rfl rfl (ok_lconst (w := 0) 21 rfl rfl rfl (by decide) (ok_lconst (w := 1) 22 rfl rfl rfl (by decide) (ok_callSI (M' := M_Mo_isIn) (as := [_, _, _]) 23 rfl rfl ml_X12_99 (s_Mo_isIn_r) ⟨Nat.le_of_ble_eq_true rfl, Nat.le_of_ble_eq_true rfl⟩ rfl (Nat.le_of_ble_eq_true rfl) (fun σ' z5 a5 => ?_)))))
            obtain ⟨hs_, a5⟩ := a5
            rw [hs_]; clear hs_ σ'
            refine ok_if_ne 24 53 rfl rfl rfl (fun h48 => ?_) (fun h48 => ?_)
            · refine ok_iconst 27 rfl rfl (by decide) (ok_ist6 28 rfl rfl rfl (ok_iconst 29 rfl rfl (by decide) (ok_ist7 30 rfl rfl rfl ?_)))
              have r1 := yes1 a1 h12
              have r3 := yes1 a3 h28
              refine lpO2 (fun v p : Int => [some (vr 0), some (vi i), some (vi j), some (vi k), some (vi l), some (vi w), some (vi v), some (vi p)]) (fun _ _ => σ) (fun v p => 0 ≤ p ∧ p ≤ σ 0 27 ∧ 0 ≤ v ∧ v ≤ sm (fun q => σ 12 q) p.toNat) (fun _ p => (64 - p).toNat) ?_ 0 0 ⟨by omega, by omega, by omega, by show (0 : Int) ≤ 0; omega⟩
              rintro v p ⟨k1, k2, k3, k4⟩ ih
              obtain ⟨w3, w4⟩ := wt_sum h k1 (by omega)
              obtain ⟨w6, w7⟩ := wt_le h (k := 0) (by omega) (by omega)
              refine ok_iload 31 rfl rfl rfl (ok_aload_n 32 rfl rfl rfl (ok_getI 33 rfl rfl fl_X12_273 rfl rfl (Or.inl rfl) (ok_icmp_ge 34 123 rfl rfl rfl (fun h65 => ?_) (fun h65 => ?_))))
              · obtain ⟨c1, c2⟩ := gcd_pos (a := σ 0 29) (b := v) (by omega)
                refine ok_aload_n 66 rfl rfl rfl (ok_getI 67 rfl rfl fl_X12_279 rfl rfl (Or.inl rfl) (ok_i2l 68 rfl rfl (ok_iload 69 rfl rfl rfl (ok_i2l 70 rfl rfl (ok_callSL (M' := M_Mo_common) (as := [_, _]) 71 rfl rfl ml_X12_89 (s_Mo_common (by omega) (by omega)) ⟨Nat.le_of_ble_eq_true rfl, Nat.le_of_ble_eq_true rfl⟩ rfl (Nat.le_of_ble_eq_true rfl) (fun σ' z hz => ?_))))))
                rw [hz.1, hz.2]
                clear hz z σ'
                refine ok_l2i 72 rfl rfl (by first | omega | (simp [up_if]; omega) | (simp [up_if] at *; omega)) (ok_ist7 73 rfl rfl rfl (ok_iload 74 rfl rfl rfl (ok_if_ne 75 150 rfl rfl rfl (fun h139 => ?_) (fun h139 => ?_))))
                · refine ok_aload_n 80 rfl rfl rfl (ok_getI 81 rfl rfl fl_X12_279 rfl rfl (Or.inl rfl) (ok_iload 82 rfl rfl rfl (ok_idiv 83 rfl rfl (by omega) (by omega) (ok_iret 84 rfl rfl rfl ?_))))
                  exact ⟨_, rfl, rfl⟩
                · refine ok_iload 76 rfl rfl rfl (ok_iload 77 rfl rfl rfl (ok_idiv 78 rfl rfl (by omega) (by omega) (ok_goto 79 157 rfl rfl rfl (ok_iret 84 rfl rfl rfl ?_))))
                  exact ⟨_, rfl, rfl⟩
              · obtain ⟨w1, w2⟩ := wt_le h k1 (by omega)
                have e := sm_s (fun q => σ 12 q) k1
                have w5 := (wt_sum h (k := p + 1) (by omega) (by omega)).2
                refine ok_iload 35 rfl rfl rfl (ok_aload_n 36 rfl rfl rfl (ok_getR 37 rfl rfl fl_X12_51 rfl rfl (ok_bipush 38 rfl rfl (by decide) (by decide) (ok_iload 39 rfl rfl rfl (ok_imul 40 rfl rfl (by first | omega | (simp [up_if]; omega) | (simp [up_if] at *; omega)) (ok_iload_n 41 rfl rfl rfl (ok_iadd 42 rfl rfl (by first | omega | (simp [up_if]; omega) | (simp [up_if] at *; omega)) (ok_iald 43 rfl rfl rfl (by first | omega | (simp [up_if]; omega) | (simp [up_if] at *; omega)) (ok_iload_n 44 rfl rfl rfl (ok_icmp_ne 45 113 rfl rfl rfl (fun h83 => ?_) (fun h83 => ?_)))))))))))
                · refine ok_iconst 61 rfl rfl (by decide) (ok_iadd 62 rfl rfl (by first | omega | (simp [up_if]; omega) | (simp [up_if] at *; omega)) (ok_ist6 63 rfl rfl rfl (ok_inc7 64 rfl rfl rfl (by first | omega | (simp [up_if]; omega) | (simp [up_if] at *; omega)) (ok_goto 65 59 rfl rfl rfl ?_))))
                  exact ih _ (p + 1) ⟨by omega, by omega, by omega, by omega⟩ (by omega)
                · refine ok_aload_n 46 rfl rfl rfl (ok_getR 47 rfl rfl fl_X12_51 rfl rfl (ok_bipush 48 rfl rfl (by decide) (by decide) (ok_iload 49 rfl rfl rfl (ok_imul 50 rfl rfl (by first | omega | (simp [up_if]; omega) | (simp [up_if] at *; omega)) (ok_iload_n 51 rfl rfl rfl (ok_iadd 52 rfl rfl (by first | omega | (simp [up_if]; omega) | (simp [up_if] at *; omega)) (ok_iald 53 rfl rfl rfl (by first | omega | (simp [up_if]; omega) | (simp [up_if] at *; omega)) (ok_iload 54 rfl rfl rfl (ok_icmp_ne 55 113 rfl rfl rfl (fun h100 => ?_) (fun h100 => ?_))))))))))
                  · refine ok_iconst 61 rfl rfl (by decide) (ok_iadd 62 rfl rfl (by first | omega | (simp [up_if]; omega) | (simp [up_if] at *; omega)) (ok_ist6 63 rfl rfl rfl (ok_inc7 64 rfl rfl rfl (by first | omega | (simp [up_if]; omega) | (simp [up_if] at *; omega)) (ok_goto 65 59 rfl rfl rfl ?_))))
                    exact ih _ (p + 1) ⟨by omega, by omega, by omega, by omega⟩ (by omega)
                  · refine ok_aload_n 56 rfl rfl rfl (ok_getR 57 rfl rfl fl_X12_48 rfl rfl (ok_iload 58 rfl rfl rfl (ok_iald 59 rfl rfl rfl (by first | omega | (simp [up_if]; omega) | (simp [up_if] at *; omega)) (ok_goto 60 114 rfl rfl rfl (ok_iadd 62 rfl rfl (by first | omega | (simp [up_if]; omega) | (simp [up_if] at *; omega)) (ok_ist6 63 rfl rfl rfl (ok_inc7 64 rfl rfl rfl (by first | omega | (simp [up_if]; omega) | (simp [up_if] at *; omega)) (ok_goto 65 59 rfl rfl rfl ?_))))))))
                    exact ih _ (p + 1) ⟨by omega, by omega, by omega, by omega⟩ (by omega)
            · refine ok_iconst 25 rfl rfl (by decide) (ok_iret 26 rfl rfl rfl ?_)
              exact ⟨_, rfl, rfl⟩
theorem s_Mo_ruleOf {σ : eS} {w k : Int} (hk : 0 ≤ k ∧ k ≤ 3) : MtI shB M_Mo_ruleOf [vi w, vi k] σ (fun σ' z => σ' = σ ∧ z = iand (ishr w (6 - 2 * k)) 3) := by
  refine Mt.of okM_Mo_ruleOf (Nat.le_of_ble_eq_true rfl) (fun hk hg => ?_)
  refine ok_iload_n 0 rfl rfl rfl (ok_bipush 1 rfl rfl (by decide) (by decide) (ok_iconst 2 rfl rfl (by decide) (ok_iload_n 3 rfl rfl rfl (ok_imul 4 rfl rfl (by first | omega | (simp [up_if]; omega) | (simp [up_if] at *; omega)) (ok_isub 5 rfl rfl (by first | omega | (simp [up_if]; omega) | (simp [up_if] at *; omega)) (ok_ishr 6 rfl rfl (ok_iconst 7 rfl rfl (by decide) (ok_iand 8 rfl rfl (ok_iret 9 rfl rfl rfl ?_)))))))))
  exact ⟨_, rfl, rfl, rfl⟩
theorem s_Mo_lies {σ : eS} {s a b : Int} (hB : iB1 σ) (hs : 0 ≤ s ∧ s < 4) (h3 : σ 1 s = 3) (ha : 0 ≤ a ∧ a ≤ 2) (hb : 0 ≤ b ∧ b ≤ 2) : MtL shB M_Mo_lies [vr 0, vi s, vi a, vi b] σ (fun σ' z => σ' = σ ∧ 0 ≤ z ∧ z ≤ 99999999) := by
  refine Mt.of okM_Mo_lies (Nat.le_of_ble_eq_true rfl) (fun hk hg => ?_)
  refine ok_iconst 0 rfl rfl (by decide) (ok_ist4 1 rfl rfl rfl ?_)
  refine lpO (fun i : Int => [some (vr 0), some (vi s), some (vi a), some (vi b), some (vi i)]) (fun _ => σ) (fun i => 0 ≤ i ∧ i ≤ 3) (fun i => (3 - i).toNat) ?_ 0 ⟨by omega, by omega⟩
  rintro i ⟨i1, i2⟩ ih
  refine ok_iload 2 rfl rfl rfl (ok_iconst 3 rfl rfl (by decide) (ok_icmp_ge 4 47 rfl rfl rfl (fun h6 => ?_) (fun h6 => ?_)))
  · refine ok_lconst (w := 0) 31 rfl rfl rfl (by decide) (ok_lret 32 rfl rfl rfl ?_)
    exact ⟨_, rfl, rfl, by omega, by omega⟩
  · refine ok_iload 5 rfl rfl rfl (ok_iload_n 6 rfl rfl rfl (ok_iadd 7 rfl rfl (by first | omega | (simp [up_if]; omega) | (simp [up_if] at *; omega)) (ok_iconst 8 rfl rfl (by decide) (ok_irem 9 rfl rfl (by first | omega | (simp [up_if]; omega) | (simp [up_if] at *; omega)) (by first | omega | (simp [up_if]; omega) | (simp [up_if] at *; omega)) (ok_iload_n 10 rfl rfl rfl (ok_iload 11 rfl rfl rfl (ok_isub 12 rfl rfl (by first | omega | (simp [up_if]; omega) | (simp [up_if] at *; omega)) (ok_iconst 13 rfl rfl (by decide) (ok_iadd 14 rfl rfl (by first | omega | (simp [up_if]; omega) | (simp [up_if] at *; omega)) (ok_iconst 15 rfl rfl (by decide) (ok_irem 16 rfl rfl (by first | omega | (simp [up_if]; omega) | (simp [up_if] at *; omega)) (by first | omega | (simp [up_if]; omega) | (simp [up_if] at *; omega)) (ok_icmp_ne 17 41 rfl rfl rfl (fun h23 => ?_) (fun h23 => ?_)))))))))))))
    · refine ok_inc4 29 rfl rfl rfl (by first | omega | (simp [up_if]; omega) | (simp [up_if] at *; omega)) (ok_goto 30 3 rfl rfl rfl ?_)
      exact ih (i + 1) ⟨by omega, by omega⟩ (by omega)
    · refine ok_aload_n 18 rfl rfl rfl (ok_iload_n 19 rfl rfl rfl (ok_iload 20 rfl rfl rfl (ok_iload 21 rfl rfl rfl (ok_iload_n 22 rfl rfl rfl (ok_iadd 23 rfl rfl (by first | omega | (simp [up_if]; omega) | (simp [up_if] at *; omega)) (ok_iconst 24 rfl rfl (by decide) (ok_irem 25 rfl rfl (by first | omega | (simp [up_if]; omega) | (simp [up_if] at *; omega)) (by first | omega | (simp [up_if]; omega) | (simp [up_if] at *; omega)) (ok_callVI (M' := M_Mo_at) (as := [_, _, _]) 26 rfl rfl ml_X12_107 (s_Mo_at hB hs ⟨by omega, by omega⟩ ⟨by omega, by omega⟩) rfl rfl (Nat.le_of_ble_eq_true rfl) ⟨Nat.le_of_ble_eq_true rfl, Nat.le_of_ble_eq_true rfl⟩ rfl (Nat.le_of_ble_eq_true rfl) (fun σ' z hz => ?_)))))))))
      rw [hz.1, hz.2]; clear hz z σ'
      have hc := cB_bd hB hs (i := i) (j := (i + a) % 3) ⟨by omega, by omega⟩ ⟨by omega, by omega⟩
      refine ok_i2l 27 rfl rfl (ok_lret 28 rfl rfl rfl ?_)
      exact ⟨_, rfl, rfl, hc.1, hc.2⟩
