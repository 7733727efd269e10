abbrev rgM : Nat → Int → Prop := fun c k => (c = 0 ∧ k = 4) ∨ c = 1 ∨ c = 2 ∨ c = 3 ∨ c = 4
def QM (σ : eS) (σ' : eS) (z : Int) : Prop := fr rgM σ σ' ∧ iB1 σ' ∧ (z = 0 ∨ z = 1)
theorem Qtk.M {τ σ' : eS} {s n z : Int} (hB : iB1 τ) (hs : 0 ≤ s ∧ s < 4) (hn : 0 ≤ n ∧ n ≤ 8) (hb : 1 ≤ τ 0 4) (hf : ∀ k, 0 ≤ k → k < n * n → 0 ≤ τ 4 k) (h : Qtk τ s n σ' z) : QM τ σ' z := by
  rcases h with ⟨hz, rfl, -⟩ | ⟨hz, rfl, hft⟩
  · exact ⟨fr.rf, hB, Or.inl hz⟩
  · refine ⟨fun c k q => ?_, ?_, Or.inr hz⟩
    · simp only [rgM] at q
      simp only [tw]
      rw [if_neg (by omega), if_neg (by omega), if_neg (by omega)]
    · obtain ⟨gp, gl⟩ := gF_bd hb (n * n).toNat
      refine tw_B hB hs hn (fun q => ?_) (fun k a b => ?_)
      · rw [if_neg (by omega)]
        exact ⟨(gcd_div hb gp gl).1, hft.1⟩
      · exact ⟨Int.ediv_nonneg (hf k a b) (by omega), hft.2 k a b⟩
theorem QM.tr {σ τ σ' : eS} {z : Int} (f : fr rgM σ τ) (h : QM τ σ' z) : QM σ σ' z := ⟨f.tr h.1, h.2⟩
theorem s_Mo_isPart {σ : eS} {x y : Int} : MtI shB M_Mo_isPart [vi x, vi y] σ (fun σ' z => σ' = σ ∧ ((z = 1 ∧ 0 ≤ x ∧ x ≤ 9999 ∧ 1 ≤ y ∧ y ≤ 9999) ∨ (z = 0 ∧ ¬ (0 ≤ x ∧ x ≤ 9999 ∧ 1 ≤ y ∧ y ≤ 9999)))) := by
  refine Mt.of okM_Mo_isPart (Nat.le_of_ble_eq_true rfl) (fun hk hg => ?_)
  refine ok_iload_n 0 rfl rfl rfl (ok_i2l 1 rfl rfl (ok_lconst (w := 0) 2 rfl rfl rfl (by decide) (ok_ldc2 3 (9999) rfl rfl kc_X12_215 (by decide) (ok_callSI (M' := M_Mo_isIn) (as := [_, _, _]) 4 rfl rfl ml_X12_99 (s_Mo_isIn) ⟨Nat.le_of_ble_eq_true rfl, Nat.le_of_ble_eq_true rfl⟩ rfl (Nat.le_of_ble_eq_true rfl) (fun σ' z1 h1 => ?_)))))
  obtain ⟨hs_, h1⟩ := h1
  rw [hs_]; clear hs_ σ'
  refine ok_if_eq 5 28 rfl rfl rfl (fun h9 => ?_) (fun h9 => ?_)
  · refine ok_iconst 14 rfl rfl (by decide) (ok_zret 15 rfl rfl rfl (by first | omega | (simp [up_if]; omega) | (simp [up_if] at *; omega)) ?_)
    refine ⟨_, rfl, rfl, ?_⟩
    first | (split at h1 <;> split at h2 <;> omega) | (split at h1 <;> omega)
  · refine ok_iload_n 6 rfl rfl rfl (ok_i2l 7 rfl rfl (ok_lconst (w := 1) 8 rfl rfl rfl (by decide) (ok_ldc2 9 (9999) rfl rfl kc_X12_215 (by decide) (ok_callSI (M' := M_Mo_isIn) (as := [_, _, _]) 10 rfl rfl ml_X12_99 (s_Mo_isIn) ⟨Nat.le_of_ble_eq_true rfl, Nat.le_of_ble_eq_true rfl⟩ rfl (Nat.le_of_ble_eq_true rfl) (fun σ' z2 h2 => ?_)))))
    obtain ⟨hs_, h2⟩ := h2
    rw [hs_]; clear hs_ σ'
    refine ok_if_eq 11 28 rfl rfl rfl (fun h21 => ?_) (fun h21 => ?_)
    · refine ok_iconst 14 rfl rfl (by decide) (ok_zret 15 rfl rfl rfl (by first | omega | (simp [up_if]; omega) | (simp [up_if] at *; omega)) ?_)
      refine ⟨_, rfl, rfl, ?_⟩
      first | (split at h1 <;> split at h2 <;> omega) | (split at h1 <;> omega)
    · refine ok_iconst 12 rfl rfl (by decide) (ok_goto 13 29 rfl rfl rfl (ok_zret 15 rfl rfl rfl (by first | omega | (simp [up_if]; omega) | (simp [up_if] at *; omega)) ?_))
      refine ⟨_, rfl, rfl, ?_⟩
      first | (split at h1 <;> split at h2 <;> omega) | (split at h1 <;> omega)
theorem s_Mo_grown {σ : eS} {b c : Int} (hb : 0 ≤ b ∧ b ≤ 99999999999999) (hc : 0 ≤ c ∧ c ≤ 99999999) : MtL shB M_Mo_grown [vl b, vl c] σ (fun σ' z => σ' = σ ∧ ((z = -1 ∧ 1000000000000000 < b * c) ∨ (z = b * c ∧ b * c ≤ 1000000000000000 ∧ 0 ≤ b * c))) := by
  refine Mt.of okM_Mo_grown (Nat.le_of_ble_eq_true rfl) (fun hk hg => ?_)
  obtain ⟨m1, m2⟩ := mul_bd hb hc
  refine ok_lload_n 0 rfl rfl rfl (ok_lconst (w := 0) 1 rfl rfl rfl (by decide) (ok_lcmp_le 2 3 22 rfl rfl rfl rfl rfl (fun h2 => ?_) (fun h2 => ?_)))
  · refine ok_lload_n 12 rfl rfl rfl (ok_lload_n 13 rfl rfl rfl (ok_lmul 14 rfl rfl (by rw [show c = 0 by omega]; omega) (ok_lret 15 rfl rfl rfl ?_)))
    exact ⟨_, rfl, rfl, Or.inr ⟨rfl, by rw [show c = 0 by omega]; omega, by omega⟩⟩
  · refine ok_lload_n 4 rfl rfl rfl (ok_ldc2 5 (1000000000000000) rfl rfl kc_X12_217 (by decide) (ok_lload_n 6 rfl rfl rfl (ok_ldiv 7 rfl rfl (by omega) (by omega) (ok_lcmp_le 8 9 22 rfl rfl rfl rfl rfl (fun h12 => ?_) (fun h12 => ?_)))))
    · have hm : b * c ≤ 1000000000000000 := by
        have := (Int.le_ediv_iff_mul_le (by omega : 0 < c)).mp h12
        omega
      refine ok_lload_n 12 rfl rfl rfl (ok_lload_n 13 rfl rfl rfl (ok_lmul 14 rfl rfl (by first | omega | (simp [up_if]; omega) | (simp [up_if] at *; omega)) (ok_lret 15 rfl rfl rfl ?_)))
      exact ⟨_, rfl, rfl, Or.inr ⟨rfl, hm, by omega⟩⟩
    · refine ok_ldc2 10 (-1) rfl rfl kc_X12_219 (by decide) (ok_goto 11 25 rfl rfl rfl (ok_lret 15 rfl rfl rfl ?_))
      exact ⟨_, rfl, rfl, Or.inl ⟨rfl, Int.not_le.mp (fun q => by
        have := (Int.le_ediv_iff_mul_le (by omega : 0 < c)).mpr q
        omega)⟩⟩
theorem s_Mo_behind {σ : eS} {k r n : Int} (h : 0 ≤ k ∧ k < n ∧ n ≤ 8 ∧ 0 ≤ r ∧ r < n) : MtI shB M_Mo_behind [vi k, vi r, vi n] σ (fun σ' z => σ' = σ ∧ z = if k < r then k else if k = r then n - 1 else k - 1) := by
  refine Mt.of okM_Mo_behind (Nat.le_of_ble_eq_true rfl) (fun hk hg => ?_)
  refine ok_iload_n 0 rfl rfl rfl (ok_iload_n 1 rfl rfl rfl (ok_icmp_ge 2 9 rfl rfl rfl (fun h2 => ?_) (fun h2 => ?_)))
  · refine ok_iload_n 5 rfl rfl rfl (ok_iload_n 6 rfl rfl rfl (ok_icmp_ne 7 20 rfl rfl rfl (fun h11 => ?_) (fun h11 => ?_)))
    · refine ok_iload_n 12 rfl rfl rfl (ok_iconst 13 rfl rfl (by decide) (ok_isub 14 rfl rfl (by first | omega | (simp [up_if]; omega) | (simp [up_if] at *; omega)) (ok_iret 15 rfl rfl rfl ?_)))
      refine ⟨_, rfl, rfl, ?_⟩
      first | rw [if_pos (by omega)] | rw [if_neg (by omega), if_pos (by omega)] | rw [if_neg (by omega), if_neg (by omega)]
    · refine ok_iload_n 8 rfl rfl rfl (ok_iconst 9 rfl rfl (by decide) (ok_isub 10 rfl rfl (by first | omega | (simp [up_if]; omega) | (simp [up_if] at *; omega)) (ok_goto 11 23 rfl rfl rfl (ok_iret 15 rfl rfl rfl ?_))))
      refine ⟨_, rfl, rfl, ?_⟩
      first | rw [if_pos (by omega)] | rw [if_neg (by omega), if_pos (by omega)] | rw [if_neg (by omega), if_neg (by omega)]
  · refine ok_iload_n 3 rfl rfl rfl (ok_goto 4 23 rfl rfl rfl (ok_iret 15 rfl rfl rfl ?_))
    refine ⟨_, rfl, rfl, ?_⟩
    first | rw [if_pos (by omega)] | rw [if_neg (by omega), if_pos (by omega)] | rw [if_neg (by omega), if_neg (by omega)]
theorem iB1_M {σ τ : eS} (h : iB1 σ) (f : fr (fun c k => (c = 0 ∧ k = 4) ∨ c = 4) σ τ) (g : ∀ k : Int, 0 ≤ k → k < 64 → 0 ≤ τ 4 k) : iB1 τ ∧ ∀ t, τ 1 t = σ 1 t ∧ τ 2 t = σ 2 t :=
  ⟨⟨fun t a b => by rw [f 1 t (by omega), f 2 t (by omega)]; exact h.1 t a b, fun k a b => by rw [f 3 k (by omega)]; exact h.2.1 k a b, g⟩, fun t => ⟨f 1 t (by omega), f 2 t (by omega)⟩⟩
