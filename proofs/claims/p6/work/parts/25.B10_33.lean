section
abbrev rgM : Nat → Int → Prop := fun c k => (c = 0 ∧ k = 4) ∨ c = 1 ∨ c = 2 ∨ c = 3 ∨ c = 4
def QM (σ : eS) (σ' : eS) (z : Int) : Prop := fr rgM σ σ' ∧ iB1 σ' ∧ (z = 0 ∨ z = 1)
theorem Qtk.M {τ σ' : eS} {s n z : Int} (hB : iB1 τ) (hs : 0 ≤ s ∧ s < 4) (hn : 0 ≤ n ∧ n ≤ 8) (hb : 1 ≤ τ 0 4) (hf : ∀ k, 0 ≤ k → k < n * n → 0 ≤ τ 4 k) (h : Qtk τ s n σ' z) : QM τ σ' z := by
  rcases h with ⟨hz, rfl, -⟩ | ⟨hz, rfl, hft⟩
  · exact ⟨fr.rf, hB, Or.inl hz⟩
  · refine ⟨fun c k q => ?_, ?_, Or.inr hz⟩
    · simp only [rgM] at q
      simp only [tw]
      rw [if_neg (by omega), if_neg (by omega), if_neg (by omega)]
    · obtain ⟨gp, gl⟩ := gF_bd hb (n * n).toNat
      refine tw_B hB hs hn (fun q => ?_) (fun k a b => ?_)
      · rw [if_neg (by omega)]
        exact ⟨(gcd_div hb gp gl).1, hft.1⟩
      · exact ⟨Int.ediv_nonneg (hf k a b) (by omega), hft.2 k a b⟩
theorem QM.tr {σ τ σ' : eS} {z : Int} (f : fr rgM σ τ) (h : QM τ σ' z) : QM σ σ' z := ⟨f.tr h.1, h.2⟩
theorem s_Mo_isPart {σ : eS} {x y : Int} : MtI shB M_Mo_isPart [vi x, vi y] σ (fun σ' z => σ' = σ ∧ ((z = 1 ∧ 0 ≤ x ∧ x ≤ 9999 ∧ 1 ≤ y ∧ y ≤ 9999) ∨ (z = 0 ∧ ¬ (0 ≤ x ∧ x ≤ 9999 ∧ 1 ≤ y ∧ y ≤ 9999)))) := by
  refine Mt.of okM_Mo_isPart (Nat.le_of_ble_eq_true rfl) (fun hk hg => ?_)
  refine ok_iload_n 0 rfl rfl rfl (ok_i2l 1 rfl rfl (ok_lconst (w := 0) 2 rfl rfl rfl (by decide) (ok_ldc2 3 (9999) rfl rfl kc_X12_215 (by decide) (ok_callSI (M' := M_Mo_isIn) (as := [_, _, _]) 4 rfl rfl ml_X12_99 (s_Mo_isIn) ⟨Nat.le_of_ble_eq_true rfl, Nat.le_of_ble_eq_true rfl⟩ rfl (Nat.le_of_ble_eq_true rfl) (fun σ' z1 h1 => ?_)))))
  obtain ⟨hs_, h1⟩ := h1
  rw [hs_]; clear hs_ σ'
  refine ok_if_eq 5 28 rfl rfl rfl (fun h9 => ?_) (fun h9 => ?_)
  · refine ok_iconst 14 rfl rfl (by decide) (ok_zret 15 rfl rfl rfl (by first | omega | (simp [up_if]; omega) | (simp [up_if] at *; omega)) ?_)
    refine ⟨_, rfl, rfl, ?_⟩
    first | (split at h1 <;> split at h2 <;> omega) | (split at h1 <;> omega)
  · refine ok_iload_n 6 rfl rfl rfl (ok_i2l 7 rfl rfl (ok_lconst (w := 1) 8 rfl rfl rfl (by decide) (ok_ldc2 9 (9999) rfl rfl kc_X12_215 (by decide) (ok_callSI (M' := M_Mo_isIn) (as := [_, _, _]) 10 rfl rfl ml_X12_99 (s_Mo_isIn) ⟨Nat.le_of_ble_eq_true rfl, Nat.le_of_ble_eq_true rfl⟩ rfl (Nat.le_of_ble_eq_true rfl) (fun σ' z2 h2 => ?_)))))
    obtain ⟨hs_, h2⟩ := h2
    rw [hs_]; clear hs_ σ'
    refine ok_if_eq 11 28 rfl rfl rfl (fun h21 => ?_) (fun h21 => ?_)
    · refine ok_iconst 14 rfl rfl (by decide) (ok_zret 15 rfl rfl rfl (by first | omega | (simp [up_if]; omega) | (simp [up_if] at *; omega)) ?_)
      refine ⟨_, rfl, rfl, ?_⟩
      first | (split at h1 <;> split at h2 <;> omega) | (split at h1 <;> omega)
    · refine ok_iconst 12 rfl rfl (by decide) (ok_goto 13 29 rfl rfl rfl (ok_zret 15 rfl rfl rfl (by first | omega | (simp [up_if]; omega) | (simp [up_if] at *; omega)) ?_))
      refine ⟨_, rfl, rfl, ?_⟩
      first | (split at h1 <;> split at h2 <;> omega) | (split at h1 <;> omega)
theorem s_Mo_grown {σ : eS} {b c : Int} (hb : 0 ≤ b ∧ b ≤ 99999999999999) (hc : 0 ≤ c ∧ c ≤ 99999999) : MtL shB M_Mo_grown [vl b, vl c] σ (fun σ' z => σ' = σ ∧ ((z = -1 ∧ 1000000000000000 < b * c) ∨ (z = b * c ∧ b * c ≤ 1000000000000000 ∧ 0 ≤ b * c))) := by
  refine Mt.of okM_Mo_grown (Nat.le_of_ble_eq_true rfl) (fun hk hg => ?_)
  obtain ⟨m1, m2⟩ := mul_bd hb hc
  refine ok_lload_n 0 rfl rfl rfl (ok_lconst (w := 0) 1 rfl rfl rfl (by decide) (ok_lcmp_le 2 3 22 rfl rfl rfl rfl rfl (fun h2 => ?_) (fun h2 => ?_)))
  · refine ok_lload_n 12 rfl rfl rfl (ok_lload_n 13 rfl rfl rfl (ok_lmul 14 rfl rfl (by rw [show c = 0 by omega]; omega) (ok_lret 15 rfl rfl rfl ?_)))
    exact ⟨_, rfl, rfl, Or.inr ⟨rfl, by rw [show c = 0 by omega]; omega, by omega⟩⟩
  · refine ok_lload_n 4 rfl rfl rfl (ok_ldc2 5 (1000000000000000) rfl rfl kc_X12_217 (by decide) (ok_lload_n 6 rfl rfl rfl (ok_ldiv 7 rfl rfl (by omega) (by omega) (ok_lcmp_le 8 9 22 rfl rfl rfl rfl rfl (fun h12 => ?_) (fun h12 => ?_)))))
    · have hm : b * c ≤ 1000000000000000 := by
        have := (Int.le_ediv_iff_mul_le (by omega : 0 < c)).mp h12
        omega
      refine ok_lload_n 12 rfl rfl rfl (ok_lload_n 13 rfl rfl rfl (ok_lmul 14 rfl rfl (by first | omega | (simp [up_if]; omega) | (simp [up_if] at *; omega)) (ok_lret 15 rfl rfl rfl ?_)))
      exact ⟨_, rfl, rfl, Or.inr ⟨rfl, hm, by omega⟩⟩
    · refine ok_ldc2 10 (-1) rfl rfl kc_X12_219 (by decide) (ok_goto 11 25 rfl rfl rfl (ok_lret 15 rfl rfl rfl ?_))
      exact ⟨_, rfl, rfl, Or.inl ⟨rfl, Int.not_le.mp (fun q => by
        have := (Int.le_ediv_iff_mul_le (by omega : 0 < c)).mpr q
        omega)⟩⟩
theorem s_Mo_behind {σ : eS} {k r n : Int} (h : 0 ≤ k ∧ k < n ∧ n ≤ 8 ∧ 0 ≤ r ∧ r < n) : MtI shB M_Mo_behind [vi k, vi r, vi n] σ (fun σ' z => σ' = σ ∧ z = if k < r then k else if k = r then n - 1 else k - 1) := by
  refine Mt.of okM_Mo_behind (Nat.le_of_ble_eq_true rfl) (fun hk hg => ?_)
  refine ok_iload_n 0 rfl rfl rfl (ok_iload_n 1 rfl rfl rfl (ok_icmp_ge 2 9 rfl rfl rfl (fun h2 => ?_) (fun h2 => ?_)))
  · refine ok_iload_n 5 rfl rfl rfl (ok_iload_n 6 rfl rfl rfl (ok_icmp_ne 7 20 rfl rfl rfl (fun h11 => ?_) (fun h11 => ?_)))
    · refine ok_iload_n 12 rfl rfl rfl (ok_iconst 13 rfl rfl (by decide) (ok_isub 14 rfl rfl (by first | omega | (simp [up_if]; omega) | (simp [up_if] at *; omega)) (ok_iret 15 rfl rfl rfl ?_)))
      refine ⟨_, rfl, rfl, ?_⟩
      first | rw [if_pos (by omega)] | rw [if_neg (by omega), if_pos (by omega)] | rw [if_neg (by omega), if_neg (by omega)]
    · refine ok_iload_n 8 rfl rfl rfl (ok_iconst 9 rfl rfl (by decide) (ok_isub 10 rfl rfl (by first | omega | (simp [up_if]; omega) | (simp [up_if] at *; omega)) (ok_goto 11 23 rfl rfl rfl (ok_iret 15 rfl rfl rfl ?_))))
      refine ⟨_, rfl, rfl, ?_⟩
      first | rw [if_pos (by omega)] | rw [if_neg (by omega), if_pos (by omega)] | rw [if_neg (by omega), if_neg (by omega)]
  · refine ok_iload_n 3 rfl rfl rfl (ok_goto 4 23 rfl rfl rfl (ok_iret 15 rfl rfl rfl ?_))
    refine ⟨_, rfl, rfl, ?_⟩
    first | rw [if_pos (by omega)] | rw [if_neg (by omega), if_pos (by omega)] | rw [if_neg (by omega), if_neg (by omega)]
theorem iB1_M {σ τ : eS} (h : iB1 σ) (f : fr (fun c k => (c = 0 ∧ k = 4) ∨ c = 4) σ τ) (g : ∀ k : Int, 0 ≤ k → k < 64 → 0 ≤ τ 4 k) : iB1 τ ∧ ∀ t, τ 1 t = σ 1 t ∧ τ 2 t = σ 2 t :=
  ⟨⟨fun t a b => by rw [f 1 t (by omega), f 2 t (by omega)]; exact h.1 t a b, fun k a b => by rw [f 3 k (by omega)]; exact h.2.1 k a b, g⟩, fun t => ⟨f 1 t (by omega), f 2 t (by omega)⟩⟩
theorem s_Mo_times {σ : eS} {s o t : Int} (hB : iB1 σ) : MtI shB M_Mo_times [vr 0, vi s, vi o, vi t] σ (QM σ) := by
  refine Mt.of okM_Mo_times (Nat.le_of_ble_eq_true rfl) (fun hk hg => ?_)
  by_cases hs : tabB σ s
  rotate_left
  · refine ok_aload_n 0 rfl rfl rfl (ok_iload_n 1 rfl rfl rfl (ok_callVI (M' := M_Mo_isTable) (as := [_]) 2 rfl rfl ml_X12_111 (s_Mo_isTable_n hs) rfl rfl (Nat.le_of_ble_eq_true rfl) ⟨Nat.le_of_ble_eq_true rfl, Nat.le_of_ble_eq_true rfl⟩ rfl (Nat.le_of_ble_eq_true rfl) (fun σ' z hz => ?_)))
    rw [hz.1, hz.2]
    clear hz z σ'
    refine ok_if_eq 3 38 rfl rfl rfl (fun h5 => ?_) (fun h5 => ?_)
    · refine ok_iconst 20 rfl rfl (by decide) (ok_zret 21 rfl rfl rfl (by first | omega | (simp [up_if]; omega) | (simp [up_if] at *; omega)) ?_)
      exact ⟨_, rfl, fr.rf, hB, Or.inl rfl⟩
    · omega
  by_cases ho : tabB σ o
  rotate_left
  · refine ok_aload_n 0 rfl rfl rfl (ok_iload_n 1 rfl rfl rfl (ok_callVI (M' := M_Mo_isTable) (as := [_]) 2 rfl rfl ml_X12_111 (s_Mo_isTable_y hs) rfl rfl (Nat.le_of_ble_eq_true rfl) ⟨Nat.le_of_ble_eq_true rfl, Nat.le_of_ble_eq_true rfl⟩ rfl (Nat.le_of_ble_eq_true rfl) (fun σ' z hz => ?_)))
    rw [hz.1, hz.2]
    clear hz z σ'
    refine ok_if_eq 3 38 rfl rfl rfl (fun h5 => ?_) (fun h5 => ?_)
    · omega
    · refine ok_aload_n 4 rfl rfl rfl (ok_iload_n 5 rfl rfl rfl (ok_callVI (M' := M_Mo_isTable) (as := [_]) 6 rfl rfl ml_X12_111 (s_Mo_isTable_n ho) rfl rfl (Nat.le_of_ble_eq_true rfl) ⟨Nat.le_of_ble_eq_true rfl, Nat.le_of_ble_eq_true rfl⟩ rfl (Nat.le_of_ble_eq_true rfl) (fun σ' z hz => ?_)))
      rw [hz.1, hz.2]
      clear hz z σ'
      refine ok_if_eq 7 38 rfl rfl rfl (fun h13 => ?_) (fun h13 => ?_)
      · refine ok_iconst 20 rfl rfl (by decide) (ok_zret 21 rfl rfl rfl (by first | omega | (simp [up_if]; omega) | (simp [up_if] at *; omega)) ?_)
        exact ⟨_, rfl, fr.rf, hB, Or.inl rfl⟩
      · omega
  by_cases ht : 0 ≤ t ∧ t < 4
  rotate_left
  · refine ok_aload_n 0 rfl rfl rfl (ok_iload_n 1 rfl rfl rfl (ok_callVI (M' := M_Mo_isTable) (as := [_]) 2 rfl rfl ml_X12_111 (s_Mo_isTable_y hs) rfl rfl (Nat.le_of_ble_eq_true rfl) ⟨Nat.le_of_ble_eq_true rfl, Nat.le_of_ble_eq_true rfl⟩ rfl (Nat.le_of_ble_eq_true rfl) (fun σ' z hz => ?_)))
    rw [hz.1, hz.2]
    clear hz z σ'
    refine ok_if_eq 3 38 rfl rfl rfl (fun h5 => ?_) (fun h5 => ?_)
    · omega
    · refine ok_aload_n 4 rfl rfl rfl (ok_iload_n 5 rfl rfl rfl (ok_callVI (M' := M_Mo_isTable) (as := [_]) 6 rfl rfl ml_X12_111 (s_Mo_isTable_y ho) rfl rfl (Nat.le_of_ble_eq_true rfl) ⟨Nat.le_of_ble_eq_true rfl, Nat.le_of_ble_eq_true rfl⟩ rfl (Nat.le_of_ble_eq_true rfl) (fun σ' z hz => ?_)))
      rw [hz.1, hz.2]
      clear hz z σ'
      refine ok_if_eq 7 38 rfl rfl rfl (fun h13 => ?_) (fun h13 => ?_)
      · omega
      · refine ok_iload_n 8 rfl rfl rfl (ok_callSI (M' := M_Mo_isSlot) (as := [_]) 9 rfl rfl ml_X12_103 (s_Mo_isSlot_n ht) ⟨Nat.le_of_ble_eq_true rfl, Nat.le_of_ble_eq_true rfl⟩ rfl (Nat.le_of_ble_eq_true rfl) (fun σ' z hz => ?_))
        rw [hz.1, hz.2]
        clear hz z σ'
        refine ok_if_eq 10 38 rfl rfl rfl (fun h20 => ?_) (fun h20 => ?_)
        · refine ok_iconst 20 rfl rfl (by decide) (ok_zret 21 rfl rfl rfl (by first | omega | (simp [up_if]; omega) | (simp [up_if] at *; omega)) ?_)
          exact ⟨_, rfl, fr.rf, hB, Or.inl rfl⟩
        · omega
  obtain ⟨s1, s2, s3⟩ := id hs
  obtain ⟨o1, o2, o3⟩ := id ho
  obtain ⟨n, en⟩ : ∃ x, x = σ 1 s := ⟨_, rfl⟩
  obtain ⟨g1, g2, g3⟩ := hB.1 s s1 s2
  obtain ⟨k1, k2, k3⟩ := hB.1 o o1 o2
  obtain ⟨x1, x2⟩ := sq8 (n := n) ⟨by omega, by omega⟩
  refine ok_aload_n 0 rfl rfl rfl (ok_iload_n 1 rfl rfl rfl (ok_callVI (M' := M_Mo_isTable) (as := [_]) 2 rfl rfl ml_X12_111 (s_Mo_isTable_y hs) rfl rfl (Nat.le_of_ble_eq_true rfl) ⟨Nat.le_of_ble_eq_true rfl, Nat.le_of_ble_eq_true rfl⟩ rfl (Nat.le_of_ble_eq_true rfl) (fun σ' z hz => ?_)))
  rw [hz.1, hz.2]
  clear hz z σ'
  refine ok_if_eq 3 38 rfl rfl rfl (fun h5 => ?_) (fun h5 => ?_)
  · omega
  · refine ok_aload_n 4 rfl rfl rfl (ok_iload_n 5 rfl rfl rfl (ok_callVI (M' := M_Mo_isTable) (as := [_]) 6 rfl rfl ml_X12_111 (s_Mo_isTable_y ho) rfl rfl (Nat.le_of_ble_eq_true rfl) ⟨Nat.le_of_ble_eq_true rfl, Nat.le_of_ble_eq_true rfl⟩ rfl (Nat.le_of_ble_eq_true rfl) (fun σ' z hz => ?_)))
    rw [hz.1, hz.2]
    clear hz z σ'
    refine ok_if_eq 7 38 rfl rfl rfl (fun h13 => ?_) (fun h13 => ?_)
    · omega
    · refine ok_iload_n 8 rfl rfl rfl (ok_callSI (M' := M_Mo_isSlot) (as := [_]) 9 rfl rfl ml_X12_103 (s_Mo_isSlot_y ht) ⟨Nat.le_of_ble_eq_true rfl, Nat.le_of_ble_eq_true rfl⟩ rfl (Nat.le_of_ble_eq_true rfl) (fun σ' z hz => ?_))
      rw [hz.1, hz.2]
      clear hz z σ'
      refine ok_if_eq 10 38 rfl rfl rfl (fun h20 => ?_) (fun h20 => ?_)
      · omega
      · refine ok_aload_n 11 rfl rfl rfl (ok_getR 12 rfl rfl fl_X12_7 rfl rfl (ok_iload_n 13 rfl rfl rfl (ok_iald 14 rfl rfl rfl (by first | omega | (simp [up_if]; omega) | (simp [up_if] at *; omega)) (ok_aload_n 15 rfl rfl rfl (ok_getR 16 rfl rfl fl_X12_7 rfl rfl (ok_iload_n 17 rfl rfl rfl (ok_iald 18 rfl rfl rfl (by first | omega | (simp [up_if]; omega) | (simp [up_if] at *; omega)) (ok_icmp_eq 19 40 rfl rfl rfl (fun h35 => ?_) (fun h35 => ?_)))))))))
        · refine ok_aload_n 22 rfl rfl rfl (ok_getR 23 rfl rfl fl_X12_7 rfl rfl (ok_iload_n 24 rfl rfl rfl (ok_iald 25 rfl rfl rfl (by first | omega | (simp [up_if]; omega) | (simp [up_if] at *; omega)) (ok_ist4 26 rfl rfl rfl (ok_iconst 27 rfl rfl (by decide) (ok_ist5 28 rfl rfl rfl ?_))))))
          rw [← en]
          refine lpO2 (fun (i : Int) (_ : eS) => [some (vr 0), some (vi s), some (vi o), some (vi t), some (vi n), some (vi i), none, none, none, none]) (fun _ τ => τ) (fun i τ => 0 ≤ i ∧ i ≤ n ∧ fr (fun c k => (c = 0 ∧ k = 4) ∨ c = 4) σ τ ∧ ∀ k, 0 ≤ k → k < 64 → 0 ≤ τ 4 k) (fun i _ => (n - i).toNat) ?_ 0 σ ⟨by omega, by omega, fr.rf, hB.2.2⟩
          rintro i τ ⟨i1, i2, i3, i4⟩ ih
          refine ok_iload 29 rfl rfl rfl (ok_iload 30 rfl rfl rfl (ok_icmp_ge 31 140 rfl rfl rfl (fun h55 => ?_) (fun h55 => ?_)))
          · obtain ⟨b1, b2⟩ := iB1_M hB i3 i4
            have bs := (b2 s)
            have bo := (b2 o)
            obtain ⟨m1, m2⟩ := mul_bd (a := τ 2 s) (b := τ 2 o) (A := 999999) (B := 999999) ⟨by omega, by omega⟩ ⟨by omega, by omega⟩
            have m3 := Int.mul_pos (by omega : 0 < τ 2 s) (by omega : 0 < τ 2 o)
            have hin : i = n := by omega
            refine ok_aload_n 75 rfl rfl rfl (ok_aload_n 76 rfl rfl rfl (ok_getR 77 rfl rfl fl_X12_13 rfl rfl (ok_iload_n 78 rfl rfl rfl (ok_iald 79 rfl rfl rfl (by first | omega | (simp [up_if]; omega) | (simp [up_if] at *; omega)) (ok_i2l 80 rfl rfl (ok_aload_n 81 rfl rfl rfl (ok_getR 82 rfl rfl fl_X12_13 rfl rfl (ok_iload_n 83 rfl rfl rfl (ok_iald 84 rfl rfl rfl (by first | omega | (simp [up_if]; omega) | (simp [up_if] at *; omega)) (ok_i2l 85 rfl rfl (ok_lmul 86 rfl rfl (by first | omega | (simp [up_if]; omega) | (simp [up_if] at *; omega)) (ok_putL 87 rfl rfl fl_X12_85 rfl rfl rfl rfl (ok_aload_n 88 rfl rfl rfl (ok_iload_n 89 rfl rfl rfl (ok_iload 90 rfl rfl rfl (ok_callVI (M' := M_Mo_takes) (as := [_, _]) 91 rfl rfl ml_X12_179 (s_Mo_takes ht ⟨by omega, by omega⟩ (by rw [up_same]; omega) (fun k a b => by rw [up_ne _ _ _ _ (by decide)]; exact i4 k a (by omega))) rfl rfl (Nat.le_of_ble_eq_true rfl) ⟨Nat.le_of_ble_eq_true rfl, Nat.le_of_ble_eq_true rfl⟩ rfl (Nat.le_of_ble_eq_true rfl) (fun σ' z hz => ?_)))))))))))))))))
            have hq := Qtk.M (b1.fr (fun c k q => by rw [up_ne _ _ _ _ (by omega)])) ht ⟨by omega, by omega⟩ (by rw [up_same]; omega) (fun k a b => by rw [up_ne _ _ _ _ (by decide)]; exact i4 k a (by omega)) hz
            refine ok_zret 92 rfl rfl rfl (by have := hq.2.2; omega) ?_
            exact ⟨_, rfl, hq.tr (fr_up (i3.mono (fun c k q => by simp only [rgM]; omega)) (by simp [rgM]))⟩
          · refine ok_iconst 32 rfl rfl (by decide) (ok_ist6 33 rfl rfl rfl ?_)
            refine lpO2 (fun (j : Int) (_ : eS) => [some (vr 0), some (vi s), some (vi o), some (vi t), some (vi n), some (vi i), some (vi j), none, none, none]) (fun _ τ => τ) (fun j τ => 0 ≤ j ∧ j ≤ n ∧ fr (fun c k => (c = 0 ∧ k = 4) ∨ c = 4) σ τ ∧ ∀ k, 0 ≤ k → k < 64 → 0 ≤ τ 4 k) (fun j _ => (n - j).toNat) ?_ 0 τ ⟨by omega, by omega, i3, i4⟩
            clear i3 i4 τ
            rintro j τ ⟨j1, j2, i3, i4⟩ ih2
            obtain ⟨b1, b2⟩ := iB1_M hB i3 i4
            have bs := (b2 s).1
            have bo := (b2 o).1
            refine ok_iload 34 rfl rfl rfl (ok_iload 35 rfl rfl rfl (ok_icmp_ge 36 134 rfl rfl rfl (fun h65 => ?_) (fun h65 => ?_)))
            · refine ok_inc5 73 rfl rfl rfl (by first | omega | (simp [up_if]; omega) | (simp [up_if] at *; omega)) (ok_goto 74 51 rfl rfl rfl ?_)
              exact ok_fg [some (vr 0), some (vi s), some (vi o), some (vi t), some (vi n), some (vi (i + 1)), none, none, none, none] ⟨rfl, rfl, rfl, rfl, rfl, rfl, trivial⟩ (ih (i + 1) τ ⟨by omega, by omega, i3, i4⟩ (by omega))
            · obtain ⟨y1, y2, y3, y4⟩ := ix8 (n := n) (i := i) (j := j) ⟨by omega, by omega⟩ ⟨by omega, by omega⟩ ⟨by omega, by omega⟩
              refine ok_lconst (w := 0) 37 rfl rfl rfl (by decide) (ok_lst7 38 rfl rfl rfl (ok_iconst 39 rfl rfl (by decide) (ok_ist9 40 rfl rfl rfl ?_)))
              refine lpO2 (fun (v k : Int) => [some (vr 0), some (vi s), some (vi o), some (vi t), some (vi n), some (vi i), some (vi j), some (vl v), none, some (vi k)]) (fun _ _ => τ) (fun v k => 0 ≤ k ∧ k ≤ n ∧ 0 ≤ v ∧ v ≤ 9999999800000001 * k) (fun _ k => (n - k).toNat) ?_ 0 0 ⟨by omega, by omega, by omega, by omega⟩
              rintro v k ⟨v1, v2, v3, v4⟩ ih3
              refine ok_iload 41 rfl rfl rfl (ok_iload 42 rfl rfl rfl (ok_icmp_ge 43 113 rfl rfl rfl (fun h78 => ?_) (fun h78 => ?_)))
              · refine ok_aload_n 62 rfl rfl rfl (ok_getR 63 rfl rfl fl_X12_19 rfl rfl (ok_iload 64 rfl rfl rfl (ok_iload 65 rfl rfl rfl (ok_imul 66 rfl rfl (by first | omega | (simp [up_if]; omega) | (simp [up_if] at *; omega)) (ok_iload 67 rfl rfl rfl (ok_iadd 68 rfl rfl (by first | omega | (simp [up_if]; omega) | (simp [up_if] at *; omega)) (ok_lload 69 rfl rfl rfl (ok_last 70 rfl rfl rfl (by first | omega | (simp [up_if]; omega) | (simp [up_if] at *; omega)) (ok_inc6 71 rfl rfl rfl (by first | omega | (simp [up_if]; omega) | (simp [up_if] at *; omega)) (ok_goto 72 61 rfl rfl rfl ?_))))))))))
                exact ok_fg [some (vr 0), some (vi s), some (vi o), some (vi t), some (vi n), some (vi i), some (vi (j + 1)), none, none, none] ⟨rfl, rfl, rfl, rfl, rfl, rfl, rfl, trivial⟩ (ih2 (j + 1) _ ⟨by omega, by omega, fr_up i3 (by simp), fun k a b => by
                  rw [up_if]
                  split
                  · exact v3
                  · exact i4 k a (by omega)⟩ (by omega))
              · refine ok_lload 44 rfl rfl rfl (ok_aload_n 45 rfl rfl rfl (ok_iload_n 46 rfl rfl rfl (ok_iload 47 rfl rfl rfl (ok_iload 48 rfl rfl rfl (ok_callVI (M' := M_Mo_at) (as := [_, _, _]) 49 rfl rfl ml_X12_107 (s_Mo_at b1 ⟨s1, s2⟩ ⟨by omega, by omega⟩ ⟨by omega, by omega⟩) rfl rfl (Nat.le_of_ble_eq_true rfl) ⟨Nat.le_of_ble_eq_true rfl, Nat.le_of_ble_eq_true rfl⟩ rfl (Nat.le_of_ble_eq_true rfl) (fun σ' z hz => ?_))))))
                rw [hz.1, hz.2]
                clear hz z σ'
                refine ok_i2l 50 rfl rfl (ok_aload_n 51 rfl rfl rfl (ok_iload_n 52 rfl rfl rfl (ok_iload 53 rfl rfl rfl (ok_iload 54 rfl rfl rfl (ok_callVI (M' := M_Mo_at) (as := [_, _, _]) 55 rfl rfl ml_X12_107 (s_Mo_at b1 ⟨o1, o2⟩ ⟨by omega, by omega⟩ ⟨by omega, by omega⟩) rfl rfl (Nat.le_of_ble_eq_true rfl) ⟨Nat.le_of_ble_eq_true rfl, Nat.le_of_ble_eq_true rfl⟩ rfl (Nat.le_of_ble_eq_true rfl) (fun σ' z hz => ?_))))))
                rw [hz.1, hz.2]; clear hz z σ'
                have p1 := cB_bd b1 ⟨s1, s2⟩ (i := i) (j := k) ⟨by omega, by omega⟩ ⟨by omega, by omega⟩
                have p2 := cB_bd b1 ⟨o1, o2⟩ (i := k) (j := j) ⟨by omega, by omega⟩ ⟨by omega, by omega⟩
                have p3 := mul_bd p1 p2
                refine ok_i2l 56 rfl rfl (ok_lmul 57 rfl rfl (by first | omega | (simp [up_if]; omega) | (simp [up_if] at *; omega)) (ok_ladd 58 rfl rfl (by first | omega | (simp [up_if]; omega) | (simp [up_if] at *; omega)) (ok_lst7 59 rfl rfl rfl (ok_inc9 60 rfl rfl rfl (by first | omega | (simp [up_if]; omega) | (simp [up_if] at *; omega)) (ok_goto 61 74 rfl rfl rfl ?_)))))
                exact ih3 _ (k + 1) ⟨by omega, by omega, by omega, by omega⟩ (by omega)
        · refine ok_iconst 20 rfl rfl (by decide) (ok_zret 21 rfl rfl rfl (by first | omega | (simp [up_if]; omega) | (simp [up_if] at *; omega)) ?_)
          exact ⟨_, rfl, fr.rf, hB, Or.inl rfl⟩
end
section
theorem s_Mo_isTable_r {σ : eS} {s : Int} : MtI shB M_Mo_isTable [vr 0, vi s] σ (fun σ' z => σ' = σ ∧ ((z = 1 ∧ tabB σ s) ∨ (z = 0 ∧ ¬ tabB σ s))) := by
  by_cases h : tabB σ s
  · exact (s_Mo_isTable_y h).weaken (fun σ' v q => by obtain ⟨z, h1, h2, h3⟩ := q; exact ⟨z, h1, h2, Or.inl ⟨h3, h⟩⟩)
  · exact (s_Mo_isTable_n h).weaken (fun σ' v q => by obtain ⟨z, h1, h2, h3⟩ := q; exact ⟨z, h1, h2, Or.inr ⟨h3, h⟩⟩)
theorem s_Mo_isSlot_r {σ : eS} {s : Int} : MtI shB M_Mo_isSlot [vi s] σ (fun σ' z => σ' = σ ∧ ((z = 1 ∧ 0 ≤ s ∧ s < 4) ∨ (z = 0 ∧ ¬ (0 ≤ s ∧ s < 4)))) := by
  by_cases h : 0 ≤ s ∧ s < 4
  · exact (s_Mo_isSlot_y h).weaken (fun σ' v q => by obtain ⟨z, h1, h2, h3⟩ := q; exact ⟨z, h1, h2, Or.inl ⟨h3, h⟩⟩)
  · exact (s_Mo_isSlot_n h).weaken (fun σ' v q => by obtain ⟨z, h1, h2, h3⟩ := q; exact ⟨z, h1, h2, Or.inr ⟨h3, h⟩⟩)
theorem s_Mo_isIn_r {σ : eS} {v a b : Int} : MtI shB M_Mo_isIn [vl v, vl a, vl b] σ (fun σ' z => σ' = σ ∧ ((z = 1 ∧ a ≤ v ∧ v ≤ b) ∨ (z = 0 ∧ ¬ (a ≤ v ∧ v ≤ b)))) := by
  by_cases h : a ≤ v ∧ v ≤ b
  · exact (s_Mo_isIn_y h).weaken (fun σ' v q => by obtain ⟨z, h1, h2, h3⟩ := q; exact ⟨z, h1, h2, Or.inl ⟨h3, h⟩⟩)
  · exact (s_Mo_isIn_n h).weaken (fun σ' v q => by obtain ⟨z, h1, h2, h3⟩ := q; exact ⟨z, h1, h2, Or.inr ⟨h3, h⟩⟩)
/-- what a test says, where it isn't 0 -/
theorem yes1 {z : Int} {P : Prop} (h : (z = 1 ∧ P) ∨ (z = 0 ∧ ¬ P)) (hz : ¬ z = 0) : P := by
  rcases h with q | q
  · exact q.2
  · exact absurd q.1 hz
theorem no1 {z : Int} {P : Prop} (h : (z = 1 ∧ P) ∨ (z = 0 ∧ ¬ P)) (hz : z = 0) : ¬ P := by
  rcases h with q | q
  · omega
  · exact q.2
theorem s_Mo_mix {σ : eS} {s x y o u v t : Int} (hB : iB1 σ) : MtI shB M_Mo_mix [vr 0, vi s, vi x, vi y, vi o, vi u, vi v, vi t] σ (QM σ) := by
  refine Mt.of okM_Mo_mix (Nat.le_of_ble_eq_true rfl) (fun hk hg => ?_)
  refine ok_aload_n 0 rfl rfl rfl (ok_iload_n 1 rfl rfl rfl (ok_callVI (M' := M_Mo_isTable) (as := [_]) 2 rfl rfl ml_X12_111 (s_Mo_isTable_r) rfl rfl (Nat.le_of_ble_eq_true rfl) ⟨Nat.le_of_ble_eq_true rfl, Nat.le_of_ble_eq_true rfl⟩ rfl (Nat.le_of_ble_eq_true rfl) (fun σ' z1 a1 => ?_)))
  obtain ⟨hs_, a1⟩ := a1
  rw [hs_]; clear hs_ σ'
  refine ok_if_eq 3 59 rfl rfl rfl (fun h5 => ?_) (fun h5 => ?_)
  · refine ok_iconst 28 rfl rfl (by decide) (ok_zret 29 rfl rfl rfl (by first | omega | (simp [up_if]; omega) | (simp [up_if] at *; omega)) ?_)
    exact ⟨_, rfl, fr.rf, hB, Or.inl rfl⟩
  · refine ok_aload_n 4 rfl rfl rfl (ok_iload 5 rfl rfl rfl (ok_callVI (M' := M_Mo_isTable) (as := [_]) 6 rfl rfl ml_X12_111 (s_Mo_isTable_r) rfl rfl (Nat.le_of_ble_eq_true rfl) ⟨Nat.le_of_ble_eq_true rfl, Nat.le_of_ble_eq_true rfl⟩ rfl (Nat.le_of_ble_eq_true rfl) (fun σ' z2 a2 => ?_)))
    obtain ⟨hs_, a2⟩ := a2
    rw [hs_]; clear hs_ σ'
    refine ok_if_eq 7 59 rfl rfl rfl (fun h14 => ?_) (fun h14 => ?_)
    · refine ok_iconst 28 rfl rfl (by decide) (ok_zret 29 rfl rfl rfl (by first | omega | (simp [up_if]; omega) | (simp [up_if] at *; omega)) ?_)
      exact ⟨_, rfl, fr.rf, hB, Or.inl rfl⟩
    · refine ok_iload 8 rfl rfl rfl (ok_callSI (M' := M_Mo_isSlot) (as := [_]) 9 rfl rfl ml_X12_103 (s_Mo_isSlot_r) ⟨Nat.le_of_ble_eq_true rfl, Nat.le_of_ble_eq_true rfl⟩ rfl (Nat.le_of_ble_eq_true rfl) (fun σ' z3 a3 => ?_))
      obtain ⟨hs_, a3⟩ := a3
      rw [hs_]; clear hs_ σ'
      refine ok_if_eq 10 59 rfl rfl rfl (fun h22 => ?_) (fun h22 => ?_)
      · refine ok_iconst 28 rfl rfl (by decide) (ok_zret 29 rfl rfl rfl (by first | omega | (simp [up_if]; omega) | (simp [up_if] at *; omega)) ?_)
        exact ⟨_, rfl, fr.rf, hB, Or.inl rfl⟩
      · have hs : tabB σ s := yes1 a1 h5
        have ho : tabB σ o := yes1 a2 h14
        have ht := yes1 a3 h22
        obtain ⟨s1, s2, s3⟩ := id hs
        obtain ⟨o1, o2, o3⟩ := id ho
        obtain ⟨g1, g2, g3⟩ := hB.1 s s1 s2
        obtain ⟨k1, k2, k3⟩ := hB.1 o o1 o2
        refine ok_aload_n 11 rfl rfl rfl (ok_getR 12 rfl rfl fl_X12_7 rfl rfl (ok_iload_n 13 rfl rfl rfl (ok_iald 14 rfl rfl rfl (by first | omega | (simp [up_if]; omega) | (simp [up_if] at *; omega)) (ok_aload_n 15 rfl rfl rfl (ok_getR 16 rfl rfl fl_X12_7 rfl rfl (ok_iload 17 rfl rfl rfl (ok_iald 18 rfl rfl rfl (by first | omega | (simp [up_if]; omega) | (simp [up_if] at *; omega)) (ok_icmp_ne 19 59 rfl rfl rfl (fun h38 => ?_) (fun h38 => ?_)))))))))
        · refine ok_iconst 28 rfl rfl (by decide) (ok_zret 29 rfl rfl rfl (by first | omega | (simp [up_if]; omega) | (simp [up_if] at *; omega)) ?_)
          exact ⟨_, rfl, fr.rf, hB, Or.inl rfl⟩
        · refine ok_iload_n 20 rfl rfl rfl (ok_iload_n 21 rfl rfl rfl (ok_callSI (M' := M_Mo_isPart) (as := [_, _]) 22 rfl rfl ml_X12_221 (s_Mo_isPart) ⟨Nat.le_of_ble_eq_true rfl, Nat.le_of_ble_eq_true rfl⟩ rfl (Nat.le_of_ble_eq_true rfl) (fun σ' z4 a4 => ?_)))
          obtain ⟨hs_, a4⟩ := a4
          rw [hs_]; clear hs_ σ'
          refine ok_if_eq 23 59 rfl rfl rfl (fun h46 => ?_) (fun h46 => ?_)
          · refine ok_iconst 28 rfl rfl (by decide) (ok_zret 29 rfl rfl rfl (by first | omega | (simp [up_if]; omega) | (simp [up_if] at *; omega)) ?_)
            exact ⟨_, rfl, fr.rf, hB, Or.inl rfl⟩
          · refine ok_iload 24 rfl rfl rfl (ok_iload 25 rfl rfl rfl (ok_callSI (M' := M_Mo_isPart) (as := [_, _]) 26 rfl rfl ml_X12_221 (s_Mo_isPart) ⟨Nat.le_of_ble_eq_true rfl, Nat.le_of_ble_eq_true rfl⟩ rfl (Nat.le_of_ble_eq_true rfl) (fun σ' z5 a5 => ?_)))
            obtain ⟨hs_, a5⟩ := a5
            rw [hs_]; clear hs_ σ'
            refine ok_if_ne 27 61 rfl rfl rfl (fun h56 => ?_) (fun h56 => ?_)
            · have p1 := yes1 a4 h46
              have p2 := yes1 a5 h56
              obtain ⟨n, en⟩ : ∃ x, x = σ 1 s := ⟨_, rfl⟩
              obtain ⟨x1, x2⟩ := sq8 (n := n) ⟨by omega, by omega⟩
              obtain ⟨A, eA⟩ : ∃ w, w = y * σ 2 s := ⟨_, rfl⟩
              obtain ⟨B, eB⟩ : ∃ w, w = v * σ 2 o := ⟨_, rfl⟩
              have bA := mul_bd (a := y) (b := σ 2 s) (A := 9999) (B := 999999) ⟨by omega, by omega⟩ ⟨by omega, by omega⟩
              have bA' := Int.mul_pos (by omega : 0 < y) (by omega : 0 < σ 2 s)
              have bB := mul_bd (a := v) (b := σ 2 o) (A := 9999) (B := 999999) ⟨by omega, by omega⟩ ⟨by omega, by omega⟩
              have bB' := Int.mul_pos (by omega : 0 < v) (by omega : 0 < σ 2 o)
              rw [← eA] at bA bA'
              rw [← eB] at bB bB'
              refine ok_iload_n 30 rfl rfl rfl (ok_i2l 31 rfl rfl (ok_aload_n 32 rfl rfl rfl (ok_getR 33 rfl rfl fl_X12_13 rfl rfl (ok_iload_n 34 rfl rfl rfl (ok_iald 35 rfl rfl rfl (by first | omega | (simp [up_if]; omega) | (simp [up_if] at *; omega)) (ok_i2l 36 rfl rfl (ok_lmul 37 rfl rfl (by rw [← eA]; omega) (ok_lst8 38 rfl rfl rfl (ok_iload 39 rfl rfl rfl (ok_i2l 40 rfl rfl (ok_aload_n 41 rfl rfl rfl (ok_getR 42 rfl rfl fl_X12_13 rfl rfl (ok_iload 43 rfl rfl rfl (ok_iald 44 rfl rfl rfl (by first | omega | (simp [up_if]; omega) | (simp [up_if] at *; omega)) (ok_i2l 45 rfl rfl (ok_lmul 46 rfl rfl (by rw [← eB]; omega) (ok_lst10 47 rfl rfl rfl ?_)))))))))))))))))
              rw [← eA, ← eB]
              refine ok_lload 48 rfl rfl rfl (ok_ldc2 49 (1000000000) rfl rfl kc_X12_224 (by decide) (ok_lcmp_gt 50 51 105 rfl rfl rfl rfl rfl (fun h92 => ?_) (fun h92 => ?_)))
              · refine ok_iconst 56 rfl rfl (by decide) (ok_zret 57 rfl rfl rfl (by first | omega | (simp [up_if]; omega) | (simp [up_if] at *; omega)) ?_)
                exact ⟨_, rfl, fr.rf, hB, Or.inl rfl⟩
              · refine ok_lload 52 rfl rfl rfl (ok_ldc2 53 (1000000000) rfl rfl kc_X12_224 (by decide) (ok_lcmp_le 54 55 107 rfl rfl rfl rfl rfl (fun h101 => ?_) (fun h101 => ?_)))
                · obtain ⟨c1, c2⟩ := gcd_pos (a := A) (b := B) (by omega)
                  obtain ⟨c3, c4⟩ := gcd_div (by omega : 1 ≤ A) c1 c2
                  obtain ⟨E, eE⟩ : ∃ w, w = A / (Int.gcd A B : Int) := ⟨_, rfl⟩
                  rw [← eE] at c3 c4
                  obtain ⟨F, eF⟩ : ∃ w, w = E * B := ⟨_, rfl⟩
                  have c5 := mul_bd (a := E) (b := B) (A := 1000000000) (B := 1000000000) ⟨by omega, by omega⟩ ⟨by omega, by omega⟩
                  have c6 := Int.mul_pos (by omega : 0 < E) (by omega : 0 < B)
                  rw [← eF] at c5 c6
                  refine ok_lload 58 rfl rfl rfl (ok_lload 59 rfl rfl rfl (ok_lload 60 rfl rfl rfl (ok_callSL (M' := M_Mo_common) (as := [_, _]) 61 rfl rfl ml_X12_89 (s_Mo_common (by omega) (by omega)) ⟨Nat.le_of_ble_eq_true rfl, Nat.le_of_ble_eq_true rfl⟩ rfl (Nat.le_of_ble_eq_true rfl) (fun σ' z hz => ?_))))
                  rw [hz.1, hz.2]; clear hz z σ'
                  refine ok_ldiv 62 rfl rfl (by omega) (by omega) (ok_lload 63 rfl rfl rfl (ok_lmul 64 rfl rfl (by rw [← eE, ← eF]; omega) (ok_lst12 65 rfl rfl rfl ?_)))
                  rw [← eE, ← eF]
                  refine ok_lload 66 rfl rfl rfl (ok_ldc2 67 (1000000000) rfl rfl kc_X12_224 (by decide) (ok_lcmp_le 68 69 133 rfl rfl rfl rfl rfl (fun h127 => ?_) (fun h127 => ?_)))
                  · refine ok_aload_n 72 rfl rfl rfl (ok_getR 73 rfl rfl fl_X12_7 rfl rfl (ok_iload_n 74 rfl rfl rfl (ok_iald 75 rfl rfl rfl (by first | omega | (simp [up_if]; omega) | (simp [up_if] at *; omega)) (ok_ist14 76 rfl rfl rfl (ok_iconst 77 rfl rfl (by decide) (ok_ist15 78 rfl rfl rfl ?_))))))
                    rw [← en]
                    obtain ⟨d1, d2⟩ := div_bd (u := F) (g := A) (B := 1000000000) ⟨by omega, by omega⟩ (by omega)
                    obtain ⟨d3, d4⟩ := div_bd (u := F) (g := B) (B := 1000000000) ⟨by omega, by omega⟩ (by omega)
                    obtain ⟨d5, d6⟩ := mul_bd (a := x) (b := F / A) (A := 9999) (B := 1000000000) ⟨by omega, by omega⟩ ⟨by omega, by omega⟩
                    obtain ⟨d7, d8⟩ := mul_bd (a := u) (b := F / B) (A := 9999) (B := 1000000000) ⟨by omega, by omega⟩ ⟨by omega, by omega⟩
                    refine lpO2 (fun (k : Int) (_ : eS) => [some (vr 0), some (vi s), some (vi x), some (vi y), some (vi o), some (vi u), some (vi v), some (vi t), some (vl A), none, some (vl B), none, some (vl F), none, some (vi n), some (vi k), none, none, none, none]) (fun _ τ => τ) (fun k τ => 0 ≤ k ∧ k ≤ n * n ∧ fr (fun c k => (c = 0 ∧ k = 4) ∨ c = 4) σ τ ∧ ∀ j, 0 ≤ j → j < 64 → 0 ≤ τ 4 j) (fun k _ => (n * n - k).toNat) ?_ 0 σ ⟨by omega, by omega, fr.rf, hB.2.2⟩
                    rintro k τ ⟨i1, i2, i3, i4⟩ ih
                    obtain ⟨b1, b2⟩ := iB1_M hB i3 i4
                    have fQ : fr rgM σ τ := i3.mono (fun c k q => by simp only [rgM]; omega)
                    refine ok_iload 79 rfl rfl rfl (ok_iload 80 rfl rfl rfl (ok_iload 81 rfl rfl rfl (ok_imul 82 rfl rfl (by first | omega | (simp [up_if]; omega) | (simp [up_if] at *; omega)) (ok_icmp_ge 83 254 rfl rfl rfl (fun h151 => ?_) (fun h151 => ?_)))))
                    · refine ok_aload_n 143 rfl rfl rfl (ok_lload 144 rfl rfl rfl (ok_putL 145 rfl rfl fl_X12_85 rfl rfl rfl rfl (ok_aload_n 146 rfl rfl rfl (ok_iload 147 rfl rfl rfl (ok_iload 148 rfl rfl rfl (ok_callVI (M' := M_Mo_takes) (as := [_, _]) 149 rfl rfl ml_X12_179 (s_Mo_takes ht ⟨by omega, by omega⟩ (by rw [up_same]; omega) (fun k a b => by rw [up_ne _ _ _ _ (by decide)]; exact i4 k a (by omega))) rfl rfl (Nat.le_of_ble_eq_true rfl) ⟨Nat.le_of_ble_eq_true rfl, Nat.le_of_ble_eq_true rfl⟩ rfl (Nat.le_of_ble_eq_true rfl) (fun σ' z hz => ?_)))))))
                      have hq := Qtk.M (b1.fr (fun c k q => by rw [up_ne _ _ _ _ (by omega)])) ht ⟨by omega, by omega⟩ (by rw [up_same]; omega) (fun k a b => by rw [up_ne _ _ _ _ (by decide)]; exact i4 k a (by omega)) hz
                      refine ok_zret 150 rfl rfl rfl (by have := hq.2.2; omega) ?_
                      exact ⟨_, rfl, hq.tr (fr_up fQ (by simp [rgM]))⟩
                    · have cs := b1.2.1 (64 * s + k) (by omega) (by omega)
                      have co := b1.2.1 (64 * o + k) (by omega) (by omega)
                      refine ok_iload_n 84 rfl rfl rfl (ok_i2l 85 rfl rfl (ok_lload 86 rfl rfl rfl (ok_lload 87 rfl rfl rfl (ok_ldiv 88 rfl rfl (by omega) (by omega) (ok_lmul 89 rfl rfl (by first | omega | (simp [up_if]; omega) | (simp [up_if] at *; omega)) (ok_aload_n 90 rfl rfl rfl (ok_getR 91 rfl rfl fl_X12_16 rfl rfl (ok_bipush 92 rfl rfl (by decide) (by decide) (ok_iload_n 93 rfl rfl rfl (ok_imul 94 rfl rfl (by first | omega | (simp [up_if]; omega) | (simp [up_if] at *; omega)) (ok_iload 95 rfl rfl rfl (ok_iadd 96 rfl rfl (by first | omega | (simp [up_if]; omega) | (simp [up_if] at *; omega)) (ok_iald 97 rfl rfl rfl (by first | omega | (simp [up_if]; omega) | (simp [up_if] at *; omega)) (ok_i2l 98 rfl rfl (ok_callSL (M' := M_Mo_grown) (as := [_, _]) 99 rfl rfl ml_X12_226 (s_Mo_grown ⟨by omega, by omega⟩ ⟨by omega, by omega⟩) ⟨Nat.le_of_ble_eq_true rfl, Nat.le_of_ble_eq_true rfl⟩ rfl (Nat.le_of_ble_eq_true rfl) (fun σ' p hp => ?_))))))))))))))))
                      obtain ⟨hs_, hp⟩ := hp
                      rw [hs_]; clear hs_ σ'
                      refine ok_lst16 100 rfl rfl rfl (ok_iload 101 rfl rfl rfl (ok_i2l 102 rfl rfl (ok_lload 103 rfl rfl rfl (ok_lload 104 rfl rfl rfl (ok_ldiv 105 rfl rfl (by omega) (by omega) (ok_lmul 106 rfl rfl (by first | omega | (simp [up_if]; omega) | (simp [up_if] at *; omega)) (ok_aload_n 107 rfl rfl rfl (ok_getR 108 rfl rfl fl_X12_16 rfl rfl (ok_bipush 109 rfl rfl (by decide) (by decide) (ok_iload 110 rfl rfl rfl (ok_imul 111 rfl rfl (by first | omega | (simp [up_if]; omega) | (simp [up_if] at *; omega)) (ok_iload 112 rfl rfl rfl (ok_iadd 113 rfl rfl (by first | omega | (simp [up_if]; omega) | (simp [up_if] at *; omega)) (ok_iald 114 rfl rfl rfl (by first | omega | (simp [up_if]; omega) | (simp [up_if] at *; omega)) (ok_i2l 115 rfl rfl (ok_callSL (M' := M_Mo_grown) (as := [_, _]) 116 rfl rfl ml_X12_226 (s_Mo_grown ⟨by omega, by omega⟩ ⟨by omega, by omega⟩) ⟨Nat.le_of_ble_eq_true rfl, Nat.le_of_ble_eq_true rfl⟩ rfl (Nat.le_of_ble_eq_true rfl) (fun σ' q hq => ?_)))))))))))))))))
                      obtain ⟨hs_, hq⟩ := hq
                      rw [hs_]; clear hs_ σ'
                      refine ok_lst18 117 rfl rfl rfl (ok_lload 118 rfl rfl rfl (ok_lconst (w := 0) 119 rfl rfl rfl (by decide) (ok_lcmp_lt 120 121 234 rfl rfl rfl rfl rfl (fun h211 => ?_) (fun h211 => ?_))))
                      · refine ok_iconst 132 rfl rfl (by decide) (ok_zret 133 rfl rfl rfl (by first | omega | (simp [up_if]; omega) | (simp [up_if] at *; omega)) ?_)
                        exact ⟨_, rfl, fQ, b1, Or.inl rfl⟩
                      · refine ok_lload 122 rfl rfl rfl (ok_lconst (w := 0) 123 rfl rfl rfl (by decide) (ok_lcmp_lt 124 125 234 rfl rfl rfl rfl rfl (fun h218 => ?_) (fun h218 => ?_)))
                        · refine ok_iconst 132 rfl rfl (by decide) (ok_zret 133 rfl rfl rfl (by first | omega | (simp [up_if]; omega) | (simp [up_if] at *; omega)) ?_)
                          exact ⟨_, rfl, fQ, b1, Or.inl rfl⟩
                        · refine ok_lload 126 rfl rfl rfl (ok_lload 127 rfl rfl rfl (ok_ladd 128 rfl rfl (by first | omega | (simp [up_if]; omega) | (simp [up_if] at *; omega)) (ok_ldc2 129 (1000000000000000) rfl rfl kc_X12_217 (by decide) (ok_lcmp_le 130 131 236 rfl rfl rfl rfl rfl (fun h230 => ?_) (fun h230 => ?_)))))
                          · refine ok_aload_n 134 rfl rfl rfl (ok_getR 135 rfl rfl fl_X12_19 rfl rfl (ok_iload 136 rfl rfl rfl (ok_lload 137 rfl rfl rfl (ok_lload 138 rfl rfl rfl (ok_ladd 139 rfl rfl (by first | omega | (simp [up_if]; omega) | (simp [up_if] at *; omega)) (ok_last 140 rfl rfl rfl (by first | omega | (simp [up_if]; omega) | (simp [up_if] at *; omega)) (ok_inc15 141 rfl rfl rfl (by first | omega | (simp [up_if]; omega) | (simp [up_if] at *; omega)) (ok_goto 142 144 rfl rfl rfl ?_))))))))
                            exact ok_fg [some (vr 0), some (vi s), some (vi x), some (vi y), some (vi o), some (vi u), some (vi v), some (vi t), some (vl A), none, some (vl B), none, some (vl F), none, some (vi n), some (vi (k + 1)), none, none, none, none] ⟨rfl, rfl, rfl, rfl, rfl, rfl, rfl, rfl, rfl, rfl, rfl, rfl, rfl, trivial⟩ (ih (k + 1) _ ⟨by omega, by omega, fr_up i3 (by simp), fun j a b => by
                              rw [up_if]
                              split
                              · omega
                              · exact i4 j a (by omega)⟩ (by omega))
                          · refine ok_iconst 132 rfl rfl (by decide) (ok_zret 133 rfl rfl rfl (by first | omega | (simp [up_if]; omega) | (simp [up_if] at *; omega)) ?_)
                            exact ⟨_, rfl, fQ, b1, Or.inl rfl⟩
                  · refine ok_iconst 70 rfl rfl (by decide) (ok_zret 71 rfl rfl rfl (by first | omega | (simp [up_if]; omega) | (simp [up_if] at *; omega)) ?_)
                    exact ⟨_, rfl, fr.rf, hB, Or.inl rfl⟩
                · refine ok_iconst 56 rfl rfl (by decide) (ok_zret 57 rfl rfl rfl (by first | omega | (simp [up_if]; omega) | (simp [up_if] at *; omega)) ?_)
                  exact ⟨_, rfl, fr.rf, hB, Or.inl rfl⟩
            · refine ok_iconst 28 rfl rfl (by decide) (ok_zret 29 rfl rfl rfl (by first | omega | (simp [up_if]; omega) | (simp [up_if] at *; omega)) ?_)
              exact ⟨_, rfl, fr.rf, hB, Or.inl rfl⟩
end
section
theorem s_Mo_turn {σ : eS} {s w r t : Int} (hB : iB1 σ) : MtI shB M_Mo_turn [vr 0, vi s, vi w, vi r, vi t] σ (QM σ) := by
  refine Mt.of okM_Mo_turn (Nat.le_of_ble_eq_true rfl) (fun hk hg => ?_)
  have main : tabB σ s → (0 ≤ t ∧ t < 4) → (0 ≤ w ∧ w ≤ 5) → (3 < w → 0 ≤ r ∧ r < σ 1 s) → Ok shB M_Mo_turn 53 [some (vr 0), some (vi s), some (vi w), some (vi r), some (vi t), none, none, none, none, none] [] σ (fun σ' v => ∃ z, v = some (vi z) ∧ QM σ σ' z) := by
    intro hs ht hw hr
    obtain ⟨s1, s2, s3⟩ := id hs
    obtain ⟨g1, g2, g3⟩ := hB.1 s s1 s2
    obtain ⟨n, en⟩ : ∃ x, x = σ 1 s := ⟨_, rfl⟩
    rw [← en] at hr g1 g2 g3 s3
    obtain ⟨x1, x2⟩ := sq8 (n := n) ⟨by omega, by omega⟩
    refine ok_aload_n 30 rfl rfl rfl (ok_getR 31 rfl rfl fl_X12_7 rfl rfl (ok_iload_n 32 rfl rfl rfl (ok_iald 33 rfl rfl rfl (by first | omega | (simp [up_if]; omega) | (simp [up_if] at *; omega)) (ok_ist5 34 rfl rfl rfl (ok_iconst 35 rfl rfl (by decide) (ok_ist6 36 rfl rfl rfl ?_))))))
    rw [← en]
    refine lpO2 (fun (i : Int) (_ : eS) => [some (vr 0), some (vi s), some (vi w), some (vi r), some (vi t), some (vi n), some (vi i), none, none, none]) (fun _ τ => τ) (fun i τ => 0 ≤ i ∧ i ≤ n ∧ fr (fun c k => (c = 0 ∧ k = 4) ∨ c = 4) σ τ ∧ ∀ k, 0 ≤ k → k < 64 → 0 ≤ τ 4 k) (fun i _ => (n - i).toNat) ?_ 0 σ ⟨by omega, by omega, fr.rf, hB.2.2⟩
    rintro i τ ⟨i1, i2, i3, i4⟩ ih
    refine ok_iload 37 rfl rfl rfl (ok_iload 38 rfl rfl rfl (ok_icmp_ge 39 206 rfl rfl rfl (fun h68 => ?_) (fun h68 => ?_)))
    · obtain ⟨b1, b2⟩ := iB1_M hB i3 i4
      have bs := (b2 s)
      refine ok_aload_n 111 rfl rfl rfl (ok_aload_n 112 rfl rfl rfl (ok_getR 113 rfl rfl fl_X12_13 rfl rfl (ok_iload_n 114 rfl rfl rfl (ok_iald 115 rfl rfl rfl (by first | omega | (simp [up_if]; omega) | (simp [up_if] at *; omega)) (ok_i2l 116 rfl rfl (ok_putL 117 rfl rfl fl_X12_85 rfl rfl rfl rfl (ok_aload_n 118 rfl rfl rfl (ok_iload 119 rfl rfl rfl (ok_iload 120 rfl rfl rfl (ok_callVI (M' := M_Mo_takes) (as := [_, _]) 121 rfl rfl ml_X12_179 (s_Mo_takes ht ⟨by omega, by omega⟩ (by rw [up_same]; omega) (fun k a b => by rw [up_ne _ _ _ _ (by decide)]; exact i4 k a (by omega))) rfl rfl (Nat.le_of_ble_eq_true rfl) ⟨Nat.le_of_ble_eq_true rfl, Nat.le_of_ble_eq_true rfl⟩ rfl (Nat.le_of_ble_eq_true rfl) (fun σ' z hz => ?_)))))))))))
      have hq := Qtk.M (b1.fr (fun c k q => by rw [up_ne _ _ _ _ (by omega)])) ht ⟨by omega, by omega⟩ (by rw [up_same]; omega) (fun k a b => by rw [up_ne _ _ _ _ (by decide)]; exact i4 k a (by omega)) hz
      refine ok_zret 122 rfl rfl rfl (by have := hq.2.2; omega) ?_
      exact ⟨_, rfl, hq.tr (fr_up (i3.mono (fun c k q => by simp only [rgM]; omega)) (by simp [rgM]))⟩
    · refine ok_iconst 40 rfl rfl (by decide) (ok_ist7 41 rfl rfl rfl ?_)
      refine lpO2 (fun (j : Int) (_ : eS) => [some (vr 0), some (vi s), some (vi w), some (vi r), some (vi t), some (vi n), some (vi i), some (vi j), none, none]) (fun _ τ => τ) (fun j τ => 0 ≤ j ∧ j ≤ n ∧ fr (fun c k => (c = 0 ∧ k = 4) ∨ c = 4) σ τ ∧ ∀ k, 0 ≤ k → k < 64 → 0 ≤ τ 4 k) (fun j _ => (n - j).toNat) ?_ 0 τ ⟨by omega, by omega, i3, i4⟩
      clear i3 i4 τ
      rintro j τ ⟨j1, j2, i3, i4⟩ ih2
      obtain ⟨b1, b2⟩ := iB1_M hB i3 i4
      have bs := (b2 s).1
      have inner : j < n → ∀ a b : Int, 0 ≤ a ∧ a < n → 0 ≤ b ∧ b < n → Ok shB M_Mo_turn 171 [some (vr 0), some (vi s), some (vi w), some (vi r), some (vi t), some (vi n), some (vi i), some (vi j), some (vi a), some (vi b)] [] τ (fun σ' v => ∃ z, v = some (vi z) ∧ QM σ σ' z) := by
        intro hj a b ha hb
        obtain ⟨y1, y2, y3, y4⟩ := ix8 (n := n) (i := a) (j := b) ⟨by omega, by omega⟩ ha hb
        have hc := cB_bd b1 ⟨s1, s2⟩ (i := i) (j := j) ⟨by omega, by omega⟩ ⟨by omega, by omega⟩
        refine ok_aload_n 93 rfl rfl rfl (ok_getR 94 rfl rfl fl_X12_19 rfl rfl (ok_iload 95 rfl rfl rfl (ok_iload 96 rfl rfl rfl (ok_imul 97 rfl rfl (by first | omega | (simp [up_if]; omega) | (simp [up_if] at *; omega)) (ok_iload 98 rfl rfl rfl (ok_iadd 99 rfl rfl (by first | omega | (simp [up_if]; omega) | (simp [up_if] at *; omega)) (ok_aload_n 100 rfl rfl rfl (ok_iload_n 101 rfl rfl rfl (ok_iload 102 rfl rfl rfl (ok_iload 103 rfl rfl rfl (ok_callVI (M' := M_Mo_at) (as := [_, _, _]) 104 rfl rfl ml_X12_107 (s_Mo_at b1 ⟨s1, s2⟩ ⟨by omega, by omega⟩ ⟨by omega, by omega⟩) rfl rfl (Nat.le_of_ble_eq_true rfl) ⟨Nat.le_of_ble_eq_true rfl, Nat.le_of_ble_eq_true rfl⟩ rfl (Nat.le_of_ble_eq_true rfl) (fun σ' z hz => ?_))))))))))))
        rw [hz.1, hz.2]
        clear hz z σ'
        refine ok_i2l 105 rfl rfl (ok_last 106 rfl rfl rfl (by first | omega | (simp [up_if]; omega) | (simp [up_if] at *; omega)) (ok_inc7 107 rfl rfl rfl (by first | omega | (simp [up_if]; omega) | (simp [up_if] at *; omega)) (ok_goto 108 74 rfl rfl rfl ?_)))
        exact ok_fg [some (vr 0), some (vi s), some (vi w), some (vi r), some (vi t), some (vi n), some (vi i), some (vi (j + 1)), none, none] ⟨rfl, rfl, rfl, rfl, rfl, rfl, rfl, rfl, trivial⟩ (ih2 (j + 1) _ ⟨by omega, by omega, fr_up i3 (by simp), fun k a b => by
          rw [up_if]
          split
          · omega
          · exact i4 k a b⟩ (by omega))
      refine ok_iload 42 rfl rfl rfl (ok_iload 43 rfl rfl rfl (ok_icmp_ge 44 200 rfl rfl rfl (fun h78 => ?_) (fun h78 => ?_)))
      · refine ok_inc6 109 rfl rfl rfl (by first | omega | (simp [up_if]; omega) | (simp [up_if] at *; omega)) (ok_goto 110 64 rfl rfl rfl ?_)
        exact ok_fg [some (vr 0), some (vi s), some (vi w), some (vi r), some (vi t), some (vi n), some (vi (i + 1)), none, none, none] ⟨rfl, rfl, rfl, rfl, rfl, rfl, rfl, trivial⟩ (ih (i + 1) τ ⟨by omega, by omega, i3, i4⟩ (by omega))
      · refine ok_iload_n 45 rfl rfl rfl (ok_iconst 46 rfl rfl (by decide) (ok_icmp_ne 47 91 rfl rfl rfl (fun h83 => ?_) (fun h83 => ?_)))
        · refine ok_iload_n 50 rfl rfl rfl (ok_iconst 51 rfl rfl (by decide) (ok_icmp_ne 52 106 rfl rfl rfl (fun h93 => ?_) (fun h93 => ?_)))
          · refine ok_iload_n 59 rfl rfl rfl (ok_iconst 60 rfl rfl (by decide) (ok_icmp_ne 61 122 rfl rfl rfl (fun h108 => ?_) (fun h108 => ?_)))
            · refine ok_iload 67 rfl rfl rfl (ok_ist8 68 rfl rfl rfl (ok_iload_n 69 rfl rfl rfl (ok_iconst 70 rfl rfl (by decide) (ok_icmp_ne 71 136 rfl rfl rfl (fun h128 => ?_) (fun h128 => ?_)))))
              · refine ok_iload_n 74 rfl rfl rfl (ok_iconst 75 rfl rfl (by decide) (ok_icmp_ne 76 151 rfl rfl rfl (fun h138 => ?_) (fun h138 => ?_)))
                · refine ok_iload_n 83 rfl rfl rfl (ok_iconst 84 rfl rfl (by decide) (ok_icmp_ne 85 167 rfl rfl rfl (fun h153 => ?_) (fun h153 => ?_)))
                  · refine ok_iload 91 rfl rfl rfl (ok_ist9 92 rfl rfl rfl ?_)
                    exact inner (by omega) _ _ ⟨by omega, by omega⟩ ⟨by omega, by omega⟩
                  · refine ok_iload 86 rfl rfl rfl (ok_iload_n 87 rfl rfl rfl (ok_iload 88 rfl rfl rfl (ok_callSI (M' := M_Mo_behind) (as := [_, _, _]) 89 rfl rfl ml_X12_231 (s_Mo_behind ⟨by omega, by omega, by omega, by omega⟩) ⟨Nat.le_of_ble_eq_true rfl, Nat.le_of_ble_eq_true rfl⟩ rfl (Nat.le_of_ble_eq_true rfl) (fun σ' z2 q3 => ?_))))
                    obtain ⟨hs_, q3⟩ := q3
                    rw [hs_]; clear hs_ σ'
                    have q4 : 0 ≤ z2 ∧ z2 < n := by rw [q3]; split; omega; split <;> omega
                    refine ok_goto 90 169 rfl rfl rfl (ok_ist9 92 rfl rfl rfl ?_)
                    exact inner (by omega) _ _ ⟨by omega, by omega⟩ ⟨by omega, by omega⟩
                · refine ok_iload 77 rfl rfl rfl (ok_iconst 78 rfl rfl (by decide) (ok_isub 79 rfl rfl (by first | omega | (simp [up_if]; omega) | (simp [up_if] at *; omega)) (ok_iload 80 rfl rfl rfl (ok_isub 81 rfl rfl (by first | omega | (simp [up_if]; omega) | (simp [up_if] at *; omega)) (ok_goto 82 169 rfl rfl rfl (ok_ist9 92 rfl rfl rfl ?_))))))
                  exact inner (by omega) _ _ ⟨by omega, by omega⟩ ⟨by omega, by omega⟩
              · refine ok_iload 72 rfl rfl rfl (ok_goto 73 169 rfl rfl rfl (ok_ist9 92 rfl rfl rfl ?_))
                exact inner (by omega) _ _ ⟨by omega, by omega⟩ ⟨by omega, by omega⟩
            · refine ok_iload 62 rfl rfl rfl (ok_iload_n 63 rfl rfl rfl (ok_iload 64 rfl rfl rfl (ok_callSI (M' := M_Mo_behind) (as := [_, _, _]) 65 rfl rfl ml_X12_231 (s_Mo_behind ⟨by omega, by omega, by omega, by omega⟩) ⟨Nat.le_of_ble_eq_true rfl, Nat.le_of_ble_eq_true rfl⟩ rfl (Nat.le_of_ble_eq_true rfl) (fun σ' z1 q1 => ?_))))
              obtain ⟨hs_, q1⟩ := q1
              rw [hs_]; clear hs_ σ'
              have q2 : 0 ≤ z1 ∧ z1 < n := by rw [q1]; split; omega; split <;> omega
              refine ok_goto 66 124 rfl rfl rfl (ok_ist8 68 rfl rfl rfl (ok_iload_n 69 rfl rfl rfl (ok_iconst 70 rfl rfl (by decide) (ok_icmp_ne 71 136 rfl rfl rfl (fun h128 => ?_) (fun h128 => ?_)))))
              · refine ok_iload_n 74 rfl rfl rfl (ok_iconst 75 rfl rfl (by decide) (ok_icmp_ne 76 151 rfl rfl rfl (fun h138 => ?_) (fun h138 => ?_)))
                · refine ok_iload_n 83 rfl rfl rfl (ok_iconst 84 rfl rfl (by decide) (ok_icmp_ne 85 167 rfl rfl rfl (fun h153 => ?_) (fun h153 => ?_)))
                  · refine ok_iload 91 rfl rfl rfl (ok_ist9 92 rfl rfl rfl ?_)
                    exact inner (by omega) _ _ ⟨by omega, by omega⟩ ⟨by omega, by omega⟩
                  · refine ok_iload 86 rfl rfl rfl (ok_iload_n 87 rfl rfl rfl (ok_iload 88 rfl rfl rfl (ok_callSI (M' := M_Mo_behind) (as := [_, _, _]) 89 rfl rfl ml_X12_231 (s_Mo_behind ⟨by omega, by omega, by omega, by omega⟩) ⟨Nat.le_of_ble_eq_true rfl, Nat.le_of_ble_eq_true rfl⟩ rfl (Nat.le_of_ble_eq_true rfl) (fun σ' z2 q3 => ?_))))
                    obtain ⟨hs_, q3⟩ := q3
                    rw [hs_]; clear hs_ σ'
                    have q4 : 0 ≤ z2 ∧ z2 < n := by rw [q3]; split; omega; split <;> omega
                    refine ok_goto 90 169 rfl rfl rfl (ok_ist9 92 rfl rfl rfl ?_)
                    exact inner (by omega) _ _ ⟨by omega, by omega⟩ ⟨by omega, by omega⟩
                · refine ok_iload 77 rfl rfl rfl (ok_iconst 78 rfl rfl (by decide) (ok_isub 79 rfl rfl (by first | omega | (simp [up_if]; omega) | (simp [up_if] at *; omega)) (ok_iload 80 rfl rfl rfl (ok_isub 81 rfl rfl (by first | omega | (simp [up_if]; omega) | (simp [up_if] at *; omega)) (ok_goto 82 169 rfl rfl rfl (ok_ist9 92 rfl rfl rfl ?_))))))
                  exact inner (by omega) _ _ ⟨by omega, by omega⟩ ⟨by omega, by omega⟩
              · refine ok_iload 72 rfl rfl rfl (ok_goto 73 169 rfl rfl rfl (ok_ist9 92 rfl rfl rfl ?_))
                exact inner (by omega) _ _ ⟨by omega, by omega⟩ ⟨by omega, by omega⟩
          · refine ok_iload 53 rfl rfl rfl (ok_iconst 54 rfl rfl (by decide) (ok_isub 55 rfl rfl (by first | omega | (simp [up_if]; omega) | (simp [up_if] at *; omega)) (ok_iload 56 rfl rfl rfl (ok_isub 57 rfl rfl (by first | omega | (simp [up_if]; omega) | (simp [up_if] at *; omega)) (ok_goto 58 124 rfl rfl rfl (ok_ist8 68 rfl rfl rfl (ok_iload_n 69 rfl rfl rfl (ok_iconst 70 rfl rfl (by decide) (ok_icmp_ne 71 136 rfl rfl rfl (fun h128 => ?_) (fun h128 => ?_))))))))))
            · refine ok_iload_n 74 rfl rfl rfl (ok_iconst 75 rfl rfl (by decide) (ok_icmp_ne 76 151 rfl rfl rfl (fun h138 => ?_) (fun h138 => ?_)))
              · refine ok_iload_n 83 rfl rfl rfl (ok_iconst 84 rfl rfl (by decide) (ok_icmp_ne 85 167 rfl rfl rfl (fun h153 => ?_) (fun h153 => ?_)))
                · refine ok_iload 91 rfl rfl rfl (ok_ist9 92 rfl rfl rfl ?_)
                  exact inner (by omega) _ _ ⟨by omega, by omega⟩ ⟨by omega, by omega⟩
                · refine ok_iload 86 rfl rfl rfl (ok_iload_n 87 rfl rfl rfl (ok_iload 88 rfl rfl rfl (ok_callSI (M' := M_Mo_behind) (as := [_, _, _]) 89 rfl rfl ml_X12_231 (s_Mo_behind ⟨by omega, by omega, by omega, by omega⟩) ⟨Nat.le_of_ble_eq_true rfl, Nat.le_of_ble_eq_true rfl⟩ rfl (Nat.le_of_ble_eq_true rfl) (fun σ' z2 q3 => ?_))))
                  obtain ⟨hs_, q3⟩ := q3
                  rw [hs_]; clear hs_ σ'
                  have q4 : 0 ≤ z2 ∧ z2 < n := by rw [q3]; split; omega; split <;> omega
                  refine ok_goto 90 169 rfl rfl rfl (ok_ist9 92 rfl rfl rfl ?_)
                  exact inner (by omega) _ _ ⟨by omega, by omega⟩ ⟨by omega, by omega⟩
              · refine ok_iload 77 rfl rfl rfl (ok_iconst 78 rfl rfl (by decide) (ok_isub 79 rfl rfl (by first | omega | (simp [up_if]; omega) | (simp [up_if] at *; omega)) (ok_iload 80 rfl rfl rfl (ok_isub 81 rfl rfl (by first | omega | (simp [up_if]; omega) | (simp [up_if] at *; omega)) (ok_goto 82 169 rfl rfl rfl (ok_ist9 92 rfl rfl rfl ?_))))))
                exact inner (by omega) _ _ ⟨by omega, by omega⟩ ⟨by omega, by omega⟩
            · refine ok_iload 72 rfl rfl rfl (ok_goto 73 169 rfl rfl rfl (ok_ist9 92 rfl rfl rfl ?_))
              exact inner (by omega) _ _ ⟨by omega, by omega⟩ ⟨by omega, by omega⟩
        · refine ok_iload 48 rfl rfl rfl (ok_goto 49 124 rfl rfl rfl (ok_ist8 68 rfl rfl rfl (ok_iload_n 69 rfl rfl rfl (ok_iconst 70 rfl rfl (by decide) (ok_icmp_ne 71 136 rfl rfl rfl (fun h128 => ?_) (fun h128 => ?_))))))
          · refine ok_iload_n 74 rfl rfl rfl (ok_iconst 75 rfl rfl (by decide) (ok_icmp_ne 76 151 rfl rfl rfl (fun h138 => ?_) (fun h138 => ?_)))
            · refine ok_iload_n 83 rfl rfl rfl (ok_iconst 84 rfl rfl (by decide) (ok_icmp_ne 85 167 rfl rfl rfl (fun h153 => ?_) (fun h153 => ?_)))
              · refine ok_iload 91 rfl rfl rfl (ok_ist9 92 rfl rfl rfl ?_)
                exact inner (by omega) _ _ ⟨by omega, by omega⟩ ⟨by omega, by omega⟩
              · refine ok_iload 86 rfl rfl rfl (ok_iload_n 87 rfl rfl rfl (ok_iload 88 rfl rfl rfl (ok_callSI (M' := M_Mo_behind) (as := [_, _, _]) 89 rfl rfl ml_X12_231 (s_Mo_behind ⟨by omega, by omega, by omega, by omega⟩) ⟨Nat.le_of_ble_eq_true rfl, Nat.le_of_ble_eq_true rfl⟩ rfl (Nat.le_of_ble_eq_true rfl) (fun σ' z2 q3 => ?_))))
                obtain ⟨hs_, q3⟩ := q3
                rw [hs_]; clear hs_ σ'
                have q4 : 0 ≤ z2 ∧ z2 < n := by rw [q3]; split; omega; split <;> omega
                refine ok_goto 90 169 rfl rfl rfl (ok_ist9 92 rfl rfl rfl ?_)
                exact inner (by omega) _ _ ⟨by omega, by omega⟩ ⟨by omega, by omega⟩
            · refine ok_iload 77 rfl rfl rfl (ok_iconst 78 rfl rfl (by decide) (ok_isub 79 rfl rfl (by first | omega | (simp [up_if]; omega) | (simp [up_if] at *; omega)) (ok_iload 80 rfl rfl rfl (ok_isub 81 rfl rfl (by first | omega | (simp [up_if]; omega) | (simp [up_if] at *; omega)) (ok_goto 82 169 rfl rfl rfl (ok_ist9 92 rfl rfl rfl ?_))))))
              exact inner (by omega) _ _ ⟨by omega, by omega⟩ ⟨by omega, by omega⟩
          · refine ok_iload 72 rfl rfl rfl (ok_goto 73 169 rfl rfl rfl (ok_ist9 92 rfl rfl rfl ?_))
            exact inner (by omega) _ _ ⟨by omega, by omega⟩ ⟨by omega, by omega⟩
  refine ok_aload_n 0 rfl rfl rfl (ok_iload_n 1 rfl rfl rfl (ok_callVI (M' := M_Mo_isTable) (as := [_]) 2 rfl rfl ml_X12_111 (s_Mo_isTable_r) rfl rfl (Nat.le_of_ble_eq_true rfl) ⟨Nat.le_of_ble_eq_true rfl, Nat.le_of_ble_eq_true rfl⟩ rfl (Nat.le_of_ble_eq_true rfl) (fun σ' z1 a1 => ?_)))
  obtain ⟨hs_, a1⟩ := a1
  rw [hs_]; clear hs_ σ'
  refine ok_if_eq 3 51 rfl rfl rfl (fun h5 => ?_) (fun h5 => ?_)
  · refine ok_iconst 28 rfl rfl (by decide) (ok_zret 29 rfl rfl rfl (by first | omega | (simp [up_if]; omega) | (simp [up_if] at *; omega)) ?_)
    exact ⟨_, rfl, fr.rf, hB, Or.inl rfl⟩
  · have hs : tabB σ s := yes1 a1 h5
    obtain ⟨s1, s2, s3⟩ := id hs
    obtain ⟨g1, g2, g3⟩ := hB.1 s s1 s2
    refine ok_iload 4 rfl rfl rfl (ok_callSI (M' := M_Mo_isSlot) (as := [_]) 5 rfl rfl ml_X12_103 (s_Mo_isSlot_r) ⟨Nat.le_of_ble_eq_true rfl, Nat.le_of_ble_eq_true rfl⟩ rfl (Nat.le_of_ble_eq_true rfl) (fun σ' z2 a2 => ?_))
    obtain ⟨hs_, a2⟩ := a2
    rw [hs_]; clear hs_ σ'
    refine ok_if_eq 6 51 rfl rfl rfl (fun h13 => ?_) (fun h13 => ?_)
    · refine ok_iconst 28 rfl rfl (by decide) (ok_zret 29 rfl rfl rfl (by first | omega | (simp [up_if]; omega) | (simp [up_if] at *; omega)) ?_)
      exact ⟨_, rfl, fr.rf, hB, Or.inl rfl⟩
    · refine ok_iload_n 7 rfl rfl rfl (ok_i2l 8 rfl rfl (ok_lconst (w := 0) 9 rfl rfl rfl (by decide) (ok_ldc2 10 (5) rfl rfl kc_X12_229 (by decide) (ok_callSI (M' := M_Mo_isIn) (as := [_, _, _]) 11 rfl rfl ml_X12_99 (s_Mo_isIn_r) ⟨Nat.le_of_ble_eq_true rfl, Nat.le_of_ble_eq_true rfl⟩ rfl (Nat.le_of_ble_eq_true rfl) (fun σ' z3 a3 => ?_)))))
      obtain ⟨hs_, a3⟩ := a3
      rw [hs_]; clear hs_ σ'
      refine ok_if_eq 12 51 rfl rfl rfl (fun h25 => ?_) (fun h25 => ?_)
      · refine ok_iconst 28 rfl rfl (by decide) (ok_zret 29 rfl rfl rfl (by first | omega | (simp [up_if]; omega) | (simp [up_if] at *; omega)) ?_)
        exact ⟨_, rfl, fr.rf, hB, Or.inl rfl⟩
      · refine ok_iload_n 13 rfl rfl rfl (ok_iconst 14 rfl rfl (by decide) (ok_icmp_le 15 53 rfl rfl rfl (fun h30 => ?_) (fun h30 => ?_)))
        · have t2 := yes1 a2 h13
          have t3 := yes1 a3 h25
          first | exact main hs t2 t3 (fun q => by omega) | exact main hs t2 t3 (fun _ => by have := yes1 a4 h48; omega)
        · refine ok_iload_n 16 rfl rfl rfl (ok_i2l 17 rfl rfl (ok_lconst (w := 0) 18 rfl rfl rfl (by decide) (ok_aload_n 19 rfl rfl rfl (ok_getR 20 rfl rfl fl_X12_7 rfl rfl (ok_iload_n 21 rfl rfl rfl (ok_iald 22 rfl rfl rfl (by first | omega | (simp [up_if]; omega) | (simp [up_if] at *; omega)) (ok_iconst 23 rfl rfl (by decide) (ok_isub 24 rfl rfl (by first | omega | (simp [up_if]; omega) | (simp [up_if] at *; omega)) (ok_i2l 25 rfl rfl (ok_callSI (M' := M_Mo_isIn) (as := [_, _, _]) 26 rfl rfl ml_X12_99 (s_Mo_isIn_r) ⟨Nat.le_of_ble_eq_true rfl, Nat.le_of_ble_eq_true rfl⟩ rfl (Nat.le_of_ble_eq_true rfl) (fun σ' z4 a4 => ?_)))))))))))
          obtain ⟨hs_, a4⟩ := a4
          rw [hs_]; clear hs_ σ'
          refine ok_if_ne 27 53 rfl rfl rfl (fun h48 => ?_) (fun h48 => ?_)
          · have t2 := yes1 a2 h13
            have t3 := yes1 a3 h25
            first | exact main hs t2 t3 (fun q => by omega) | exact main hs t2 t3 (fun _ => by have := yes1 a4 h48; omega)
          · refine ok_iconst 28 rfl rfl (by decide) (ok_zret 29 rfl rfl rfl (by first | omega | (simp [up_if]; omega) | (simp [up_if] at *; omega)) ?_)
            exact ⟨_, rfl, fr.rf, hB, Or.inl rfl⟩
end
section
/-! small sets as numbers below 256 -/
theorem fin2 {P : Int → Int → Prop} (h : ∀ s : Fin 256, ∀ j : Fin 8, P (s.val : Int) (j.val : Int)) {s j : Int} (h1 : 0 ≤ s) (h2 : s < 256) (h3 : 0 ≤ j) (h4 : j < 8) : P s j := by
  obtain ⟨a, rfl⟩ := Int.eq_ofNat_of_zero_le h1
  obtain ⟨b, rfl⟩ := Int.eq_ofNat_of_zero_le h3
  exact h ⟨a, by omega⟩ ⟨b, by omega⟩
theorem fin1 {P : Int → Prop} (h : ∀ s : Fin 256, P (s.val : Int)) {s : Int} (h1 : 0 ≤ s) (h2 : s < 256) : P s := by
  obtain ⟨a, rfl⟩ := Int.eq_ofNat_of_zero_le h1
  exact h ⟨a, by omega⟩
theorem fin9 {P : Int → Int → Prop} (h : ∀ s : Fin 256, ∀ j : Fin 9, P (s.val : Int) (j.val : Int)) {s j : Int} (h1 : 0 ≤ s) (h2 : s < 256) (h3 : 0 ≤ j) (h4 : j ≤ 8) : P s j := by
  obtain ⟨a, rfl⟩ := Int.eq_ofNat_of_zero_le h1
  obtain ⟨b, rfl⟩ := Int.eq_ofNat_of_zero_le h3
  exact h ⟨a, by omega⟩ ⟨b, by omega⟩
def bt (s j : Int) : Bool := s.toNat.testBit j.toNat
def sB (s j : Int) : Int := ((s.toNat ||| 2 ^ j.toNat : Nat) : Int)
def pc (s : Int) : Int := s % 2 + s / 2 % 2 + s / 4 % 2 + s / 8 % 2 + s / 16 % 2 + s / 32 % 2 + s / 64 % 2 + s / 128 % 2
def p2 (n : Int) : Int := ((2 ^ n.toNat : Nat) : Int)
theorem bit_get : ∀ s : Fin 256, ∀ j : Fin 8, iand (ishr (s.val : Int) (j.val : Int)) 1 = if bt (s.val : Int) (j.val : Int) = true then 1 else 0 := by decide +kernel
theorem bit_put : ∀ s : Fin 256, ∀ j : Fin 8, ior (s.val : Int) (ishl 1 (j.val : Int)) = sB (s.val : Int) (j.val : Int) := by decide +kernel
theorem bit_pc : ∀ s : Fin 256, ∀ j : Fin 8, bt (s.val : Int) (j.val : Int) = false → pc (sB (s.val : Int) (j.val : Int)) = pc (s.val : Int) + 1 ∧ (s.val : Int) < sB (s.val : Int) (j.val : Int) := by decide +kernel
theorem bit_lt : ∀ s : Fin 256, ∀ n : Fin 9, ((s.val : Int) < p2 (n.val : Int) - 1 → pc (s.val : Int) < (n.val : Int)) ∧ ((s.val : Int) = p2 (n.val : Int) - 1 → pc (s.val : Int) = (n.val : Int)) ∧ 0 ≤ pc (s.val : Int) ∧ pc (s.val : Int) ≤ 8 := by decide +kernel
theorem bit_half : ∀ s : Fin 256, pc (s.val : Int) = (s.val : Int) % 2 + pc ((s.val : Int) / 2) := by decide +kernel
theorem p2_bd : ∀ n : Fin 9, ishl 1 (n.val : Int) = p2 (n.val : Int) ∧ 1 ≤ p2 (n.val : Int) ∧ p2 (n.val : Int) ≤ 256 ∧ (1 ≤ (n.val : Int) → 2 ≤ p2 (n.val : Int)) := by decide +kernel
theorem bitG {s j : Int} (h1 : 0 ≤ s ∧ s < 256) (h2 : 0 ≤ j ∧ j < 8) : iand (ishr s j) 1 = if bt s j = true then 1 else 0 := fin2 (P := fun s j => iand (ishr s j) 1 = if bt s j = true then 1 else 0) bit_get h1.1 h1.2 h2.1 h2.2
theorem bitP {s j : Int} (h1 : 0 ≤ s ∧ s < 256) (h2 : 0 ≤ j ∧ j < 8) : ior s (ishl 1 j) = sB s j := fin2 (P := fun s j => ior s (ishl 1 j) = sB s j) bit_put h1.1 h1.2 h2.1 h2.2
theorem bitC {s j : Int} (h1 : 0 ≤ s ∧ s < 256) (h2 : 0 ≤ j ∧ j < 8) (h : bt s j = false) : pc (sB s j) = pc s + 1 ∧ s < sB s j := fin2 (P := fun s j => bt s j = false → pc (sB s j) = pc s + 1 ∧ s < sB s j) bit_pc h1.1 h1.2 h2.1 h2.2 h
theorem bitL {s n : Int} (h1 : 0 ≤ s ∧ s < 256) (h2 : 0 ≤ n ∧ n ≤ 8) : (s < p2 n - 1 → pc s < n) ∧ (s = p2 n - 1 → pc s = n) ∧ 0 ≤ pc s ∧ pc s ≤ 8 := fin9 (P := fun s n => (s < p2 n - 1 → pc s < n) ∧ (s = p2 n - 1 → pc s = n) ∧ 0 ≤ pc s ∧ pc s ≤ 8) bit_lt h1.1 h1.2 h2.1 h2.2
theorem bitH {s : Int} (h1 : 0 ≤ s ∧ s < 256) : pc s = s % 2 + pc (s / 2) := fin1 (P := fun s => pc s = s % 2 + pc (s / 2)) bit_half h1.1 h1.2
theorem bit2 {n : Int} (h : 0 ≤ n ∧ n ≤ 8) : ishl 1 n = p2 n ∧ 1 ≤ p2 n ∧ p2 n ≤ 256 ∧ (1 ≤ n → 2 ≤ p2 n) := by
  obtain ⟨b, rfl⟩ := Int.eq_ofNat_of_zero_le h.1
  exact p2_bd ⟨b, by omega⟩
theorem bt_sB {s j k : Int} (hj : 0 ≤ j) (hk : 0 ≤ k) : bt (sB s j) k = (bt s k || decide (k = j)) := by
  unfold bt sB
  rw [Int.toNat_natCast, Nat.testBit_or, Nat.testBit_two_pow]
  congr 1
  by_cases h : k = j
  · subst h; simp
  · have : j.toNat ≠ k.toNat := by omega
    simp [h, this]
theorem sB_lt {s j n : Int} (h1 : 0 ≤ s ∧ s < p2 n) (h2 : 0 ≤ j ∧ j < n) : 0 ≤ sB s j ∧ sB s j < p2 n := by
  refine ⟨by unfold sB; omega, ?_⟩
  unfold sB p2 at *
  have a : s.toNat < 2 ^ n.toNat := by omega
  have b : 2 ^ j.toNat < 2 ^ n.toNat := Nat.pow_lt_pow_right (by decide) (by omega)
  have := Nat.or_lt_two_pow a b
  omega
theorem bt_0 (j : Int) : bt 0 j = false := by simp [bt]
/-! existence of a pairing by weights: rows of a set find different columns -/
def s2 (f : Nat → Int) : Nat → Int
  | 0 => 0
  | n + 1 => s2 f n + f n
theorem s2_cg {f g : Nat → Int} : ∀ {n : Nat}, (∀ k, k < n → f k = g k) → s2 f n = s2 g n
  | 0, _ => rfl
  | n + 1, h => by
    show s2 f n + f n = s2 g n + g n
    rw [s2_cg (fun k hk => h k (by omega)), h n (by omega)]
theorem s2_le {f g : Nat → Int} : ∀ {n : Nat}, (∀ k, k < n → f k ≤ g k) → s2 f n ≤ s2 g n
  | 0, _ => Int.le_refl _
  | n + 1, h => by
    have h1 := s2_le (n := n) (fun k hk => h k (by omega))
    have h2 := h n (by omega)
    show s2 f n + f n ≤ s2 g n + g n
    omega
theorem s2_add (f g : Nat → Int) : ∀ n, s2 (fun k => f k + g k) n = s2 f n + s2 g n
  | 0 => rfl
  | n + 1 => by
    have h := s2_add f g n
    show s2 (fun k => f k + g k) n + (f n + g n) = s2 f n + f n + (s2 g n + g n)
    omega
theorem s2_sub (f g : Nat → Int) : ∀ n, s2 (fun k => f k - g k) n = s2 f n - s2 g n
  | 0 => rfl
  | n + 1 => by
    have h := s2_sub f g n
    show s2 (fun k => f k - g k) n + (f n - g n) = s2 f n + f n - (s2 g n + g n)
    omega
theorem s2_mul (f : Nat → Int) (c : Int) : ∀ n, s2 (fun k => f k * c) n = s2 f n * c
  | 0 => by show (0 : Int) = 0 * c; omega
  | n + 1 => by
    have h := s2_mul f c n
    show s2 (fun k => f k * c) n + f n * c = (s2 f n + f n) * c
    rw [h, Int.add_mul]
theorem s2_0 : ∀ n, s2 (fun _ => 0) n = 0
  | 0 => rfl
  | n + 1 => by
    show s2 (fun _ => 0) n + 0 = 0
    rw [s2_0 n]; rfl
theorem s2_nn {f : Nat → Int} {n : Nat} (h : ∀ k, k < n → 0 ≤ f k) : 0 ≤ s2 f n := by
  have := s2_le (f := fun _ => 0) (g := f) (n := n) h
  rwa [s2_0] at this
theorem s2_swap (f : Nat → Nat → Int) (m : Nat) : ∀ n, s2 (fun i => s2 (f i) m) n = s2 (fun j => s2 (fun i => f i j) n) m
  | 0 => by
    show (0 : Int) = s2 (fun _ => 0) m
    rw [s2_0]
  | n + 1 => by
    have h := s2_swap f m n
    show s2 (fun i => s2 (f i) m) n + s2 (f n) m = s2 (fun j => s2 (fun i => f i j) n + f n j) m
    rw [h, s2_add]
/-- one place alone -/
theorem s2_one {x : Nat} (v : Nat → Int) : ∀ {n : Nat}, x < n → s2 (fun k => if k = x then v k else 0) n = v x
  | n + 1, h => by
    show s2 (fun k => if k = x then v k else 0) n + (if n = x then v n else 0) = v x
    by_cases q : n = x
    · subst q
      rw [if_pos rfl]
      have : s2 (fun k => if k = n then v k else 0) n = s2 (fun _ => 0) n := s2_cg (fun k hk => if_neg (by omega))
      rw [this, s2_0]
      omega
    · rw [if_neg q, s2_one v (by omega)]
      omega
theorem s2_part {f : Nat → Int} {x : Nat} : ∀ {n : Nat}, (∀ k, k < n → 0 ≤ f k) → x < n → f x ≤ s2 f n
  | n + 1, h, hx => by
    have h1 := s2_nn (f := f) (n := n) (fun k hk => h k (by omega))
    have h2 := h n (by omega)
    show f x ≤ s2 f n + f n
    by_cases q : x = n
    · subst q; omega
    · have := s2_part (n := n) (fun k hk => h k (by omega)) (by omega : x < n)
      omega
end
section
def anyN (p : Nat → Bool) : Nat → Bool
  | 0 => false
  | n + 1 => anyN p n || p n
theorem anyN_iff {p : Nat → Bool} : ∀ {n : Nat}, anyN p n = true ↔ ∃ k, k < n ∧ p k = true
  | 0 => by
    constructor
    · intro h; cases h
    · rintro ⟨k, h, -⟩; omega
  | n + 1 => by
    show (anyN p n || p n) = true ↔ _
    rw [Bool.or_eq_true, anyN_iff (n := n)]
    constructor
    · rintro (⟨k, h1, h2⟩ | h)
      · exact ⟨k, by omega, h2⟩
      · exact ⟨n, by omega, h⟩
    · rintro ⟨k, h1, h2⟩
      by_cases q : k = n
      · exact Or.inr (q ▸ h2)
      · exact Or.inl ⟨k, by omega, h2⟩
/-- the rows of X have different joined columns by f -/
def Mch (n : Nat) (op : Nat → Nat → Bool) (X : Nat → Bool) (f : Nat → Nat) : Prop := (∀ r, r < n → X r = true → f r < n ∧ op r (f r) = true) ∧ (∀ r r', r < n → r' < n → X r = true → X r' = true → f r = f r' → r = r')
/-- rows that an unpaired row x comes to, by changing pairs -/
def rch (n : Nat) (op : Nat → Nat → Bool) (X : Nat → Bool) (f : Nat → Nat) (x : Nat) : Nat → Nat → Bool
  | 0, r => decide (r = x)
  | d + 1, r => rch n op X f x d r || (X r && anyN (fun r1 => rch n op X f x d r1 && op r1 (f r)) n)
theorem rch_mono {n : Nat} {op : Nat → Nat → Bool} {X : Nat → Bool} {f : Nat → Nat} {x r : Nat} : ∀ {d' d : Nat}, d' ≤ d → rch n op X f x d' r = true → rch n op X f x d r = true := by
  intro d' d h
  induction d with
  | zero => intro q; rwa [show d' = 0 by omega] at q
  | succ d ih =>
    intro q
    by_cases e : d' = d + 1
    · rw [e] at q; exact q
    · show (rch n op X f x d r || _) = true
      rw [ih (by omega) q]; rfl
theorem rch_keep {n : Nat} {op : Nat → Nat → Bool} {X : Nat → Bool} {f : Nat → Nat} {x r c d : Nat} (hr : rch n op X f x d r = false) : ∀ d', d' ≤ d → ∀ r', rch n op X f x d' r' = true → rch n op X (fun k => if k = r then c else f k) x d' r' = true := by
  intro d'
  induction d' with
  | zero => intro _ r' h; exact h
  | succ d' ih =>
    intro hd r' h
    have hne : r' ≠ r := fun q => by
      have := rch_mono hd h
      rw [q, hr] at this
      cases this
    have h1 : (rch n op X f x d' r' || (X r' && anyN (fun r1 => rch n op X f x d' r1 && op r1 (f r')) n)) = true := h
    show (rch n op X (fun k => if k = r then c else f k) x d' r' || (X r' && anyN (fun r1 => rch n op X (fun k => if k = r then c else f k) x d' r1 && op r1 (if r' = r then c else f r')) n)) = true
    rw [if_neg hne]
    rw [Bool.or_eq_true] at h1 ⊢
    rcases h1 with h1 | h1
    · exact Or.inl (ih (by omega) r' h1)
    · refine Or.inr ?_
      rw [Bool.and_eq_true] at h1 ⊢
      refine ⟨h1.1, anyN_iff.mpr ?_⟩
      obtain ⟨r1, a, b⟩ := anyN_iff.mp h1.2
      rw [Bool.and_eq_true] at b
      exact ⟨r1, a, by rw [Bool.and_eq_true]; exact ⟨ih (by omega) r1 b.1, b.2⟩⟩
theorem aug {n : Nat} {op : Nat → Nat → Bool} {X : Nat → Bool} {x : Nat} (hx : x < n) (hX : X x = false) : ∀ (d : Nat) (f : Nat → Nat) (r c : Nat), Mch n op X f → r < n → c < n → rch n op X f x d r = true → op r c = true → (∀ r', r' < n → X r' = true → f r' ≠ c) → ∃ f', Mch n op (fun k => X k || decide (k = x)) f' := by
  intro d
  induction d with
  | zero =>
    intro f r c hm hr hc h ho hf
    have e : r = x := of_decide_eq_true h
    subst e
    refine ⟨fun k => if k = r then c else f k, fun k hk hX' => ?_, fun k k' hk hk' h1 h2 he => ?_⟩
    · dsimp only at hX' ⊢
      by_cases q : k = r
      · rw [if_pos q, q]; exact ⟨hc, ho⟩
      · rw [if_neg q]
        simp [q] at hX'
        exact hm.1 k hk hX'
    · dsimp only at h1 h2 he
      by_cases q : k = r
      · by_cases q' : k' = r
        · rw [q, q']
        · rw [if_pos q, if_neg q'] at he
          simp [q'] at h2
          exact absurd he.symm (hf k' hk' h2)
      · by_cases q' : k' = r
        · rw [if_neg q, if_pos q'] at he
          simp [q] at h1
          exact absurd he (hf k hk h1)
        · rw [if_neg q, if_neg q'] at he
          simp [q] at h1
          simp [q'] at h2
          exact hm.2 k k' hk hk' h1 h2 he
  | succ d ih =>
    intro f r c hm hr hc h ho hf
    cases hd : rch n op X f x d r with
    | true => exact ih f r c hm hr hc hd ho hf
    | false =>
      have h1 : (rch n op X f x d r || (X r && anyN (fun r1 => rch n op X f x d r1 && op r1 (f r)) n)) = true := h
      rw [hd, Bool.false_or, Bool.and_eq_true] at h1
      obtain ⟨r1, a1, a2⟩ := anyN_iff.mp h1.2
      rw [Bool.and_eq_true] at a2
      have hXr := h1.1
      have hfr := hm.1 r hr hXr
      refine ih (fun k => if k = r then c else f k) r1 (f r) ⟨fun k hk hk2 => ?_, fun k k' hk hk' b1 b2 he => ?_⟩ a1 hfr.1 (rch_keep hd d (Nat.le_refl _) r1 a2.1) a2.2 (fun r' hr' hXr' => ?_)
      · dsimp only
        by_cases q : k = r
        · rw [if_pos q, q]; exact ⟨hc, ho⟩
        · rw [if_neg q]; exact hm.1 k hk hk2
      · dsimp only at he
        by_cases q : k = r
        · by_cases q' : k' = r
          · rw [q, q']
          · rw [if_pos q, if_neg q'] at he
            exact absurd he.symm (hf k' hk' b2)
        · by_cases q' : k' = r
          · rw [if_neg q, if_pos q'] at he
            exact absurd he (hf k hk b1)
          · rw [if_neg q, if_neg q'] at he
            exact hm.2 k k' hk hk' b1 b2 he
      · by_cases q : r' = r
        · rw [if_pos q]
          exact fun z => hf r hr hXr z.symm
        · rw [if_neg q]
          exact fun z => q (hm.2 r' r hr' hr hXr' hXr z)
/-- weights: rows A, columns B; a row's columns of B have m less e, a column's rows m at most; e together below m -/
theorem grow {n : Nat} {w : Nat → Nat → Int} {A B X : Nat → Bool} {e : Nat → Int} {m : Int} {x : Nat} {f : Nat → Nat} (hw : ∀ r c, r < n → c < n → 0 ≤ w r c) (he : ∀ r, r < n → 0 ≤ e r)
    (h1 : ∀ r, r < n → A r = true → m - e r ≤ s2 (fun c => if B c = true then w r c else 0) n) (h2 : ∀ c, c < n → B c = true → s2 (fun r => if A r = true then w r c else 0) n ≤ m) (h3 : s2 (fun r => if A r = true then e r else 0) n < m)
    (hm : Mch n (fun r c => decide (0 < w r c) && B c) X f) (hXA : ∀ r, r < n → X r = true → A r = true) (hx : x < n) (hX : X x = false) (hA : A x = true) : ∃ f', Mch n (fun r c => decide (0 < w r c) && B c) (fun k => X k || decide (k = x)) f' := by
  obtain ⟨op, eop⟩ : ∃ op : Nat → Nat → Bool, op = fun r c => decide (0 < w r c) && B c := ⟨_, rfl⟩
  rw [← eop] at hm ⊢
  by_cases hfree : ∃ d r c, r < n ∧ c < n ∧ rch n op X f x d r = true ∧ op r c = true ∧ ∀ r', r' < n → X r' = true → f r' ≠ c
  · obtain ⟨d, r, c, a1, a2, a3, a4, a5⟩ := hfree
    exact aug hx hX d f r c hm a1 a2 a3 a4 a5
  · exfalso
    obtain ⟨R, hR⟩ : ∃ R : Nat → Bool, ∀ r, R r = true ↔ ∃ d, rch n op X f x d r = true := ⟨fun r => @decide (∃ d, rch n op X f x d r = true) (Classical.propDecidable _), fun r => by simp⟩
    have hRx : R x = true := (hR x).mpr ⟨0, by show decide (x = x) = true; simp⟩
    have hRX : ∀ r, r < n → R r = true → r ≠ x → X r = true := by
      intro r hr hrr hne
      obtain ⟨d, hd⟩ := (hR r).mp hrr
      induction d with
      | zero => exact absurd (of_decide_eq_true hd) hne
      | succ d ih =>
        have : (rch n op X f x d r || (X r && anyN (fun r1 => rch n op X f x d r1 && op r1 (f r)) n)) = true := hd
        rw [Bool.or_eq_true] at this
        rcases this with q | q
        · exact ih q
        · rw [Bool.and_eq_true] at q; exact q.1
    have hRA : ∀ r, r < n → R r = true → A r = true := fun r hr h => by
      by_cases q : r = x
      · rw [q]; exact hA
      · exact hXA r hr (hRX r hr h q)
    have close : ∀ r c, r < n → c < n → R r = true → op r c = true → ∃ r2, r2 < n ∧ R r2 = true ∧ X r2 = true ∧ f r2 = c := by
      intro r c hr hc hrr ho
      obtain ⟨d, hd⟩ := (hR r).mp hrr
      by_cases q : ∃ r2, r2 < n ∧ X r2 = true ∧ f r2 = c
      · obtain ⟨r2, b1, b2, b3⟩ := q
        refine ⟨r2, b1, (hR r2).mpr ⟨d + 1, ?_⟩, b2, b3⟩
        show (rch n op X f x d r2 || (X r2 && anyN (fun r1 => rch n op X f x d r1 && op r1 (f r2)) n)) = true
        rw [b2, Bool.true_and, Bool.or_eq_true]
        exact Or.inr (anyN_iff.mpr ⟨r, hr, by rw [Bool.and_eq_true, b3]; exact ⟨hd, ho⟩⟩)
      · exact absurd ⟨d, r, c, hr, hc, hd, ho, fun r' g1 g2 g3 => q ⟨r', g1, g2, g3⟩⟩ hfree
    -- what the rows of R have lies in columns of R and X
    have key : ∀ r, r < n → R r = true → s2 (fun c => if B c = true then w r c else 0) n ≤ s2 (fun r2 => if R r2 = true ∧ X r2 = true then w r (f r2) else 0) n := by
      intro r hr hrr
      have t1 : s2 (fun c => if B c = true then w r c else 0) n ≤ s2 (fun c => s2 (fun r2 => if R r2 = true ∧ X r2 = true ∧ f r2 = c then w r c else 0) n) n := by
        refine s2_le (fun c hc => ?_)
        have nn : ∀ k, k < n → 0 ≤ (if R k = true ∧ X k = true ∧ f k = c then w r c else 0) := fun k hk => by
          split
          · exact hw r c hr hc
          · exact Int.le_refl _
        by_cases hp : 0 < w r c ∧ B c = true
        · rw [if_pos hp.2]
          obtain ⟨r2, b1, b2, b3, b4⟩ := close r c hr hc hrr (by rw [eop]; simp [hp.1, hp.2])
          have := s2_part (f := fun k => if R k = true ∧ X k = true ∧ f k = c then w r c else 0) nn b1
          rw [if_pos ⟨b2, b3, b4⟩] at this
          exact this
        · have h0 := s2_nn nn
          have h00 := hw r c hr hc
          split
          · next q => have : ¬ 0 < w r c := fun z => hp ⟨z, q⟩; omega
          · exact h0
      refine Int.le_trans t1 ?_
      rw [s2_swap (fun c r2 => if R r2 = true ∧ X r2 = true ∧ f r2 = c then w r c else 0) n n]
      refine s2_le (fun r2 hr2 => ?_)
      by_cases q : R r2 = true ∧ X r2 = true
      · rw [if_pos q]
        have e1 : s2 (fun c => if R r2 = true ∧ X r2 = true ∧ f r2 = c then w r c else 0) n = s2 (fun c => if c = f r2 then w r c else 0) n := s2_cg (fun c hc => by
          by_cases z : c = f r2
          · rw [if_pos z, if_pos ⟨q.1, q.2, z.symm⟩]
          · rw [if_neg z, if_neg (fun y => z y.2.2.symm)])
        rw [e1, s2_one (fun c => w r c) (hm.1 r2 hr2 q.2).1]
        exact Int.le_refl _
      · rw [if_neg q]
        have e1 : s2 (fun c => if R r2 = true ∧ X r2 = true ∧ f r2 = c then w r c else 0) n = s2 (fun _ => 0) n := s2_cg (fun c hc => if_neg (fun y => q ⟨y.1, y.2.1⟩))
        rw [e1, s2_0]
        exact Int.le_refl _
    have c1 : s2 (fun r => if R r = true then m - e r else 0) n ≤ s2 (fun r => if R r = true then s2 (fun r2 => if R r2 = true ∧ X r2 = true then w r (f r2) else 0) n else 0) n := s2_le (fun r hr => by
      by_cases q : R r = true
      · rw [if_pos q, if_pos q]; exact Int.le_trans (h1 r hr (hRA r hr q)) (key r hr q)
      · rw [if_neg q, if_neg q]; exact Int.le_refl _)
    have c2 : s2 (fun r => if R r = true then s2 (fun r2 => if R r2 = true ∧ X r2 = true then w r (f r2) else 0) n else 0) n = s2 (fun r2 => s2 (fun r => if R r = true then (if R r2 = true ∧ X r2 = true then w r (f r2) else 0) else 0) n) n := by
      rw [← s2_swap (fun r r2 => if R r = true then (if R r2 = true ∧ X r2 = true then w r (f r2) else 0) else 0) n n]
      refine s2_cg (fun r hr => ?_)
      by_cases q : R r = true
      · rw [if_pos q]
        exact s2_cg (fun r2 _ => by rw [if_pos q])
      · rw [if_neg q]
        have : s2 (fun r2 => if R r = true then (if R r2 = true ∧ X r2 = true then w r (f r2) else 0) else 0) n = s2 (fun _ => 0) n := s2_cg (fun r2 _ => if_neg q)
        rw [this, s2_0]
    have c3 : s2 (fun r2 => s2 (fun r => if R r = true then (if R r2 = true ∧ X r2 = true then w r (f r2) else 0) else 0) n) n ≤ s2 (fun r2 => if R r2 = true ∧ X r2 = true then m else 0) n := s2_le (fun r2 hr2 => by
      by_cases q : R r2 = true ∧ X r2 = true
      · rw [if_pos q]
        have hf2 := hm.1 r2 hr2 q.2
        have hB2 : B (f r2) = true := by
          have := hf2.2
          rw [eop] at this
          simp at this
          exact this.2
        refine Int.le_trans (s2_le (fun r hr => ?_)) (h2 (f r2) hf2.1 hB2)
        by_cases z : R r = true
        · rw [if_pos z, if_pos q, if_pos (hRA r hr z)]; exact Int.le_refl _
        · rw [if_neg z]
          split
          · exact hw r (f r2) hr hf2.1
          · exact Int.le_refl _
      · rw [if_neg q]
        have : s2 (fun r => if R r = true then (if R r2 = true ∧ X r2 = true then w r (f r2) else 0) else 0) n = s2 (fun _ => 0) n := s2_cg (fun r _ => by rw [if_neg q]; split <;> rfl)
        rw [this, s2_0]
        exact Int.le_refl _)
    have c4 : s2 (fun r => if R r = true then m - e r else 0) n = s2 (fun r => if R r = true ∧ X r = true then m else 0) n + m - s2 (fun r => if R r = true then e r else 0) n := by
      have e1 : s2 (fun r => if R r = true then m - e r else 0) n = s2 (fun r => ((if R r = true ∧ X r = true then m else 0) + (if r = x then m else 0)) - (if R r = true then e r else 0)) n := s2_cg (fun r hr => by
        by_cases q : r = x
        · subst q
          rw [if_pos hRx, if_pos hRx, if_pos rfl, if_neg (by rw [hX]; simp)]
          omega
        · by_cases z : R r = true
          · rw [if_pos z, if_pos z, if_neg q, if_pos ⟨z, hRX r hr z q⟩]
            omega
          · rw [if_neg z, if_neg z, if_neg q, if_neg (fun y => z y.1)]
            omega)
      rw [e1, s2_sub, s2_add, s2_one (fun _ => m) hx]
    have c5 : s2 (fun r => if R r = true then e r else 0) n ≤ s2 (fun r => if A r = true then e r else 0) n := s2_le (fun r hr => by
      by_cases z : R r = true
      · rw [if_pos z, if_pos (hRA r hr z)]; exact Int.le_refl _
      · rw [if_neg z]
        split
        · exact he r hr
        · exact Int.le_refl _)
    omega
theorem hall {n : Nat} {w : Nat → Nat → Int} {A B : Nat → Bool} {e : Nat → Int} {m : Int} (hw : ∀ r c, r < n → c < n → 0 ≤ w r c) (he : ∀ r, r < n → 0 ≤ e r)
    (h1 : ∀ r, r < n → A r = true → m - e r ≤ s2 (fun c => if B c = true then w r c else 0) n) (h2 : ∀ c, c < n → B c = true → s2 (fun r => if A r = true then w r c else 0) n ≤ m) (h3 : s2 (fun r => if A r = true then e r else 0) n < m) : ∃ f, Mch n (fun r c => decide (0 < w r c) && B c) A f := by
  have key : ∀ k, k ≤ n → ∃ f, Mch n (fun r c => decide (0 < w r c) && B c) (fun r => A r && decide (r < k)) f := by
    intro k
    induction k with
    | zero =>
      intro _
      exact ⟨fun _ => 0, fun r hr h => by simp at h, fun r r' hr hr' h => by simp at h⟩
    | succ k ih =>
      intro hk
      obtain ⟨f, hf⟩ := ih (by omega)
      cases hA : A k with
      | false =>
        have cv : ∀ r, (A r && decide (r < k + 1)) = true → (A r && decide (r < k)) = true := fun r h => by
          rw [Bool.and_eq_true] at h ⊢
          refine ⟨h.1, decide_eq_true ?_⟩
          have h2 := of_decide_eq_true h.2
          have h3 : r ≠ k := fun q => by rw [q, hA] at h; cases h.1
          omega
        exact ⟨f, fun r hr h => hf.1 r hr (cv r h), fun r r' hr hr' g g' => hf.2 r r' hr hr' (cv r g) (cv r' g')⟩
      | true =>
        obtain ⟨f', hf'⟩ := grow (X := fun r => A r && decide (r < k)) (x := k) hw he h1 h2 h3 hf (fun r _ h => by rw [Bool.and_eq_true] at h; exact h.1) (by omega) (by simp) hA
        have cv : ∀ r, (A r && decide (r < k + 1)) = true → ((A r && decide (r < k)) || decide (r = k)) = true := fun r h => by
          rw [Bool.and_eq_true] at h
          have h2 := of_decide_eq_true h.2
          by_cases q : r = k
          · simp [q]
          · have : r < k := by omega
            simp [h.1, this]
        exact ⟨f', fun r hr h => hf'.1 r hr (cv r h), fun r r' hr hr' g g' => hf'.2 r r' hr hr' (cv r g) (cv r' g')⟩
  obtain ⟨f, hf⟩ := key n (Nat.le_refl _)
  exact ⟨f, fun r hr h => hf.1 r hr (by simp [h, hr]), fun r r' hr hr' g g' => hf.2 r r' hr hr' (by simp [g, hr]) (by simp [g', hr'])⟩
end
section
theorem b0 {b : Bool} : ((if b = true then (1 : Int) else 0) = 0 ↔ b = false) := by cases b <;> simp
theorem b1' {b : Bool} : ((if b = true then (1 : Int) else 0) = 1 ↔ b = true) := by cases b <;> simp
theorem s_Mo_bits {σ : eS} {s : Int} (h : 0 ≤ s ∧ s < 256) : MtI shB M_Mo_bits [vi s] σ (fun σ' z => σ' = σ ∧ z = pc s) := by
  refine Mt.of okM_Mo_bits (Nat.le_of_ble_eq_true rfl) (fun hk hg => ?_)
  have hb := bitL (n := 0) h (by omega)
  refine ok_iconst 0 rfl rfl (by decide) (ok_ist1 1 rfl rfl rfl (ok_iload_n 2 rfl rfl rfl (ok_ist2 3 rfl rfl rfl ?_)))
  refine lpO2 (fun a k : Int => [some (vi s), some (vi a), some (vi k)]) (fun _ _ => σ) (fun a k => 0 ≤ k ∧ k < 256 ∧ 0 ≤ a ∧ a + pc k = pc s) (fun _ k => k.toNat) ?_ 0 s ⟨by omega, by omega, by omega, by omega⟩
  rintro a k ⟨k1, k2, k3, k4⟩ ih
  have hk := bitH ⟨k1, k2⟩
  have hq := bitL (s := k / 2) (n := 0) (by omega) (by omega)
  refine ok_iload_n 4 rfl rfl rfl (ok_if_le 5 21 rfl rfl rfl (fun h5 => ?_) (fun h5 => ?_))
  · refine ok_iload_n 17 rfl rfl rfl (ok_iret 18 rfl rfl rfl ?_)
    exact ⟨_, rfl, rfl, by rw [← k4, show k = 0 by omega]; simp [pc]⟩
  · refine ok_iload_n 6 rfl rfl rfl (ok_iload_n 7 rfl rfl rfl (ok_iconst 8 rfl rfl (by decide) (ok_irem 9 rfl rfl (by first | omega | (simp [up_if]; omega) | (simp [up_if] at *; omega)) (by first | omega | (simp [up_if]; omega) | (simp [up_if] at *; omega)) (ok_iadd 10 rfl rfl (by first | omega | (simp [up_if]; omega) | (simp [up_if] at *; omega)) (ok_ist1 11 rfl rfl rfl (ok_iload_n 12 rfl rfl rfl (ok_iconst 13 rfl rfl (by decide) (ok_idiv 14 rfl rfl (by first | omega | (simp [up_if]; omega) | (simp [up_if] at *; omega)) (by first | omega | (simp [up_if]; omega) | (simp [up_if] at *; omega)) (ok_ist2 15 rfl rfl rfl (ok_goto 16 4 rfl rfl rfl ?_))))))))))
    exact ih _ _ ⟨by omega, by omega, by omega, by omega⟩ (by omega)
def wk (σ : eS) (i j : Int) : Int := σ 9 (σ 0 22 * i + j)
def nW (σ : eS) : Prop := 1 ≤ σ 0 22 ∧ σ 0 22 ≤ 8
theorem s_Mo_worked {σ : eS} {i j : Int} (h : nW σ) (hi : 0 ≤ i ∧ i < σ 0 22) (hj : 0 ≤ j ∧ j < σ 0 22) : MtI shB M_Mo_worked [vr 0, vi i, vi j] σ (fun σ' z => σ' = σ ∧ z = wk σ i j) := by
  refine Mt.of okM_Mo_worked (Nat.le_of_ble_eq_true rfl) (fun hk hg => ?_)
  obtain ⟨h3, h4, h5, h6⟩ := ix8 (n := σ 0 22) ⟨by have := h.1; omega, h.2⟩ hi hj
  refine ok_aload_n 0 rfl rfl rfl (ok_getR 1 rfl rfl fl_X12_39 rfl rfl (ok_aload_n 2 rfl rfl rfl (ok_getI 3 rfl rfl fl_X12_234 rfl rfl (Or.inl rfl) (ok_iload_n 4 rfl rfl rfl (ok_imul 5 rfl rfl (by first | omega | (simp [up_if]; omega) | (simp [up_if] at *; omega)) (ok_iload_n 6 rfl rfl rfl (ok_iadd 7 rfl rfl (by first | omega | (simp [up_if]; omega) | (simp [up_if] at *; omega)) (ok_iald 8 rfl rfl rfl (by first | omega | (simp [up_if]; omega) | (simp [up_if] at *; omega)) (ok_iret 9 rfl rfl rfl ?_)))))))))
  exact ⟨_, rfl, rfl, rfl⟩
def opB (σ : eS) (l r c i j : Int) : Prop := l ≤ wk σ i j ∧ (i = r ↔ j = c)
theorem s_Mo_isOpen {σ : eS} {i j l r c : Int} (h : nW σ) (hi : 0 ≤ i ∧ i < σ 0 22) (hj : 0 ≤ j ∧ j < σ 0 22) : MtI shB M_Mo_isOpen [vr 0, vi i, vi j, vi l, vi r, vi c] σ (fun σ' z => σ' = σ ∧ ((z = 1 ∧ opB σ l r c i j) ∨ (z = 0 ∧ ¬ opB σ l r c i j))) := by
  refine Mt.of okM_Mo_isOpen (Nat.le_of_ble_eq_true rfl) (fun hk hg => ?_)
  refine ok_aload_n 0 rfl rfl rfl (ok_iload_n 1 rfl rfl rfl (ok_iload_n 2 rfl rfl rfl (ok_callVI (M' := M_Mo_worked) (as := [_, _]) 3 rfl rfl ml_X12_244 (s_Mo_worked h hi hj) rfl rfl (Nat.le_of_ble_eq_true rfl) ⟨Nat.le_of_ble_eq_true rfl, Nat.le_of_ble_eq_true rfl⟩ rfl (Nat.le_of_ble_eq_true rfl) (fun σ' z hz => ?_))))
  rw [hz.1, hz.2]
  clear hz z σ'
  refine ok_iload_n 4 rfl rfl rfl (ok_icmp_lt 5 39 rfl rfl rfl (fun h7 => ?_) (fun h7 => ?_))
  · refine ok_iconst 21 rfl rfl (by decide) (ok_zret 22 rfl rfl rfl (by first | omega | (simp [up_if]; omega) | (simp [up_if] at *; omega)) ?_)
    exact ⟨_, rfl, rfl, by unfold opB; omega⟩
  · refine ok_iload_n 6 rfl rfl rfl (ok_iload 7 rfl rfl rfl (ok_icmp_ne 8 20 rfl rfl rfl (fun h13 => ?_) (fun h13 => ?_)))
    · refine ok_iconst 11 rfl rfl (by decide) (ok_iload_n 12 rfl rfl rfl (ok_iload 13 rfl rfl rfl (ok_icmp_ne 14 31 rfl rfl rfl (fun h24 => ?_) (fun h24 => ?_))))
      · refine ok_iconst 17 rfl rfl (by decide) (ok_icmp_ne 18 39 rfl rfl rfl (fun h32 => ?_) (fun h32 => ?_))
        · refine ok_iconst 21 rfl rfl (by decide) (ok_zret 22 rfl rfl rfl (by first | omega | (simp [up_if]; omega) | (simp [up_if] at *; omega)) ?_)
          exact ⟨_, rfl, rfl, by unfold opB; omega⟩
        · refine ok_iconst 19 rfl rfl (by decide) (ok_goto 20 40 rfl rfl rfl (ok_zret 22 rfl rfl rfl (by first | omega | (simp [up_if]; omega) | (simp [up_if] at *; omega)) ?_))
          exact ⟨_, rfl, rfl, by unfold opB; omega⟩
      · refine ok_iconst 15 rfl rfl (by decide) (ok_goto 16 32 rfl rfl rfl (ok_icmp_ne 18 39 rfl rfl rfl (fun h32 => ?_) (fun h32 => ?_)))
        · refine ok_iconst 21 rfl rfl (by decide) (ok_zret 22 rfl rfl rfl (by first | omega | (simp [up_if]; omega) | (simp [up_if] at *; omega)) ?_)
          exact ⟨_, rfl, rfl, by unfold opB; omega⟩
        · refine ok_iconst 19 rfl rfl (by decide) (ok_goto 20 40 rfl rfl rfl (ok_zret 22 rfl rfl rfl (by first | omega | (simp [up_if]; omega) | (simp [up_if] at *; omega)) ?_))
          exact ⟨_, rfl, rfl, by unfold opB; omega⟩
    · refine ok_iconst 9 rfl rfl (by decide) (ok_goto 10 21 rfl rfl rfl (ok_iload_n 12 rfl rfl rfl (ok_iload 13 rfl rfl rfl (ok_icmp_ne 14 31 rfl rfl rfl (fun h24 => ?_) (fun h24 => ?_)))))
      · refine ok_iconst 17 rfl rfl (by decide) (ok_icmp_ne 18 39 rfl rfl rfl (fun h32 => ?_) (fun h32 => ?_))
        · refine ok_iconst 21 rfl rfl (by decide) (ok_zret 22 rfl rfl rfl (by first | omega | (simp [up_if]; omega) | (simp [up_if] at *; omega)) ?_)
          exact ⟨_, rfl, rfl, by unfold opB; omega⟩
        · refine ok_iconst 19 rfl rfl (by decide) (ok_goto 20 40 rfl rfl rfl (ok_zret 22 rfl rfl rfl (by first | omega | (simp [up_if]; omega) | (simp [up_if] at *; omega)) ?_))
          exact ⟨_, rfl, rfl, by unfold opB; omega⟩
      · refine ok_iconst 15 rfl rfl (by decide) (ok_goto 16 32 rfl rfl rfl (ok_icmp_ne 18 39 rfl rfl rfl (fun h32 => ?_) (fun h32 => ?_)))
        · refine ok_iconst 21 rfl rfl (by decide) (ok_zret 22 rfl rfl rfl (by first | omega | (simp [up_if]; omega) | (simp [up_if] at *; omega)) ?_)
          exact ⟨_, rfl, rfl, by unfold opB; omega⟩
        · refine ok_iconst 19 rfl rfl (by decide) (ok_goto 20 40 rfl rfl rfl (ok_zret 22 rfl rfl rfl (by first | omega | (simp [up_if]; omega) | (simp [up_if] at *; omega)) ?_))
          exact ⟨_, rfl, rfl, by unfold opB; omega⟩
/-- what is left can be chosen: m rows from a set of used columns on -/
def cpl (n : Int) (op : Int → Int → Prop) : Nat → Int → Prop
  | 0, _ => True
  | m + 1, S => ∃ j, 0 ≤ j ∧ j < n ∧ bt S j = false ∧ op (n - ((m + 1 : Nat) : Int)) j ∧ cpl n op m (sB S j)
def cs (ch : Int → Int) : Nat → Int
  | 0 => 0
  | i + 1 => sB (cs ch i) (ch i)
/-- the j-th column may follow the set T -/
def okJ (n : Int) (op : Int → Int → Prop) (T j : Int) : Prop := bt T j = false ∧ op (pc T) j ∧ cpl n op (n - pc T - 1).toNat (sB T j)
theorem cpl_iff {n : Int} {op : Int → Int → Prop} {T : Int} (h : pc T < n) (h0 : 0 ≤ pc T) : cpl n op (n - pc T).toNat T ↔ ∃ j, 0 ≤ j ∧ j < n ∧ okJ n op T j := by
  have e : (n - pc T).toNat = (n - pc T - 1).toNat + 1 := by omega
  have e2 : n - (((n - pc T - 1).toNat + 1 : Nat) : Int) = pc T := by omega
  rw [e]
  show (∃ j, 0 ≤ j ∧ j < n ∧ bt T j = false ∧ op (n - (((n - pc T - 1).toNat + 1 : Nat) : Int)) j ∧ cpl n op (n - pc T - 1).toNat (sB T j)) ↔ _
  rw [e2]
  rfl
/-- the first choice -/
def lexCh (n : Int) (op : Int → Int → Prop) (ch : Int → Int) : Prop := ∀ i : Int, 0 ≤ i → i < n → 0 ≤ ch i ∧ ch i < n ∧ okJ n op (cs ch i.toNat) (ch i) ∧ ∀ j, 0 ≤ j → j < ch i → ¬ okJ n op (cs ch i.toNat) j
theorem cs_cg {f g : Int → Int} : ∀ {i : Nat}, (∀ k : Int, 0 ≤ k → k < i → f k = g k) → cs f i = cs g i
  | 0, _ => rfl
  | i + 1, h => by
    show sB (cs f i) (f i) = sB (cs g i) (g i)
    rw [cs_cg (fun k a b => h k a (by omega)), h i (by omega) (by omega)]
theorem cs_s (f : Int → Int) {i : Int} (h : 0 ≤ i) : cs f (i + 1).toNat = sB (cs f i.toNat) (f i) := by
  have : (i + 1).toNat = i.toNat + 1 := by omega
  rw [this]
  show sB (cs f i.toNat) (f ((i.toNat : Nat) : Int)) = _
  rw [Int.toNat_of_nonneg h]
def Qch (σ : eS) (n : Int) (op : Int → Int → Prop) (σ' : eS) (z : Int) : Prop := (z = 0 ∧ ¬ cpl n op n.toNat 0 ∧ fr (fun c _ => c = 10) σ σ') ∨ (z = 1 ∧ cpl n op n.toNat 0 ∧ fr (fun c _ => c = 10 ∨ c = 11) σ σ' ∧ lexCh n op (fun i => σ' 11 i))
def dpC (n : Int) (op : Int → Int → Prop) (τ : eS) (T : Int) : Prop := (τ 10 T = 1 ∧ cpl n op (n - pc T).toNat T) ∨ (τ 10 T = -1 ∧ ¬ cpl n op (n - pc T).toNat T)
theorem nW.fr' {σ τ : eS} (h : nW σ) (e : τ 0 22 = σ 0 22) : nW τ := by unfold nW; rw [e]; exact h
theorem s_Mo_isChosen {σ : eS} {l r c : Int} (h : nW σ) : MtI shB M_Mo_isChosen [vr 0, vi l, vi r, vi c] σ (Qch σ (σ 0 22) (opB σ l r c)) := by
  refine Mt.of okM_Mo_isChosen (Nat.le_of_ble_eq_true rfl) (fun hk hg => ?_)
  obtain ⟨n, en⟩ : ∃ x, x = σ 0 22 := ⟨_, rfl⟩
  obtain ⟨op, eop⟩ : ∃ x, x = opB σ l r c := ⟨_, rfl⟩
  have hn : 1 ≤ n ∧ n ≤ 8 := by rw [en]; exact h
  obtain ⟨z1, z2, z3, z4⟩ := bit2 (n := n) (by omega)
  have z4 := z4 hn.1
  rw [← en, ← eop]
  have hop : ∀ τ : eS, fr (fun c _ => c = 10 ∨ c = 11) σ τ → opB τ l r c = op ∧ τ 0 22 = n ∧ nW τ := fun τ f => by
    have e1 : τ 0 22 = n := by rw [f 0 22 (by omega), en]
    refine ⟨?_, e1, h.fr' (by rw [e1, en])⟩
    rw [eop]
    funext i j
    unfold opB wk
    rw [f 0 22 (by omega), f 9 _ (by omega)]
  refine ok_iconst 0 rfl rfl (by decide) (ok_aload_n 1 rfl rfl rfl (ok_getI 2 rfl rfl fl_X12_234 rfl rfl (Or.inl rfl) (ok_ishl 3 rfl rfl ?_)))
  rw [← en, z1]
  refine ok_iconst 4 rfl rfl (by decide) (ok_isub 5 rfl rfl (by first | omega | (simp [up_if]; omega) | (simp [up_if] at *; omega)) (ok_ist4 6 rfl rfl rfl (ok_aload_n 7 rfl rfl rfl (ok_getR 8 rfl rfl fl_X12_42 rfl rfl (ok_iload 9 rfl rfl rfl (ok_lconst (w := 1) 10 rfl rfl rfl (by decide) (ok_last 11 rfl rfl rfl (by first | omega | (simp [up_if]; omega) | (simp [up_if] at *; omega)) (ok_iload 12 rfl rfl rfl (ok_iconst 13 rfl rfl (by decide) (ok_isub 14 rfl rfl (by first | omega | (simp [up_if]; omega) | (simp [up_if] at *; omega)) (ok_ist5 15 rfl rfl rfl ?_)))))))))))
  refine lpO2 (fun (s : Int) (_ : eS) => [some (vr 0), some (vi l), some (vi r), some (vi c), some (vi (p2 n - 1)), some (vi s), none, none]) (fun _ τ => τ) (fun s τ => -1 ≤ s ∧ s < p2 n - 1 ∧ fr (fun c _ => c = 10) σ τ ∧ ∀ T, s < T → T < p2 n → dpC n op τ T) (fun s _ => (s + 1).toNat) ?_ (p2 n - 1 - 1) _ ⟨by omega, by omega, fr_up fr.rf rfl, fun T a b => ?_⟩
  rotate_left
  · have e : T = p2 n - 1 := by omega
    have := (bitL (s := T) (n := n) (by omega) (by omega)).2.1 e
    refine Or.inl ⟨by rw [e, up_same], ?_⟩
    rw [this, show (n - n).toNat = 0 by omega]
    trivial
  rintro s τ ⟨i1, i2, i3, i4⟩ ih
  obtain ⟨o1, o2, o3⟩ := hop τ (i3.mono (fun c k q => by omega))
  refine ok_iload 16 rfl rfl rfl (ok_if_lt 17 119 rfl rfl rfl (fun h26 => ?_) (fun h26 => ?_))
  · rw [show s = -1 by omega] at i4
    refine ok_aload_n 66 rfl rfl rfl (ok_getR 67 rfl rfl fl_X12_42 rfl rfl (ok_iconst 68 rfl rfl (by decide) (ok_lald 69 rfl rfl rfl (by first | omega | (simp [up_if]; omega) | (simp [up_if] at *; omega)) (ok_lconst (w := 0) 70 rfl rfl rfl (by decide) (ok_lcmp_ge 71 72 132 rfl rfl rfl rfl rfl (fun h126 => ?_) (fun h126 => ?_))))))
    · refine ok_iconst 75 rfl rfl (by decide) (ok_ist5 76 rfl rfl rfl (ok_iconst 77 rfl rfl (by decide) (ok_ist6 78 rfl rfl rfl ?_)))
      have hc0 : cpl n op n.toNat 0 := by
        rcases i4 0 (by omega) (by omega) with q | q
        · have := q.2
          rwa [show pc 0 = 0 by simp [pc], Int.sub_zero] at this
        · omega
      refine lpO2 (fun (i : Int) (ρ : eS) => [some (vr 0), some (vi l), some (vi r), some (vi c), some (vi (p2 n - 1)), some (vi (cs (fun i => ρ 11 i) i.toNat)), some (vi i), none]) (fun _ ρ => ρ) (fun i ρ => 0 ≤ i ∧ i ≤ n ∧ fr (fun c _ => c = 11) τ ρ ∧ 0 ≤ cs (fun i => ρ 11 i) i.toNat ∧ cs (fun i => ρ 11 i) i.toNat < p2 n ∧ pc (cs (fun i => ρ 11 i) i.toNat) = i ∧ cpl n op (n - i).toNat (cs (fun i => ρ 11 i) i.toNat) ∧ ∀ k : Int, 0 ≤ k → k < i → 0 ≤ ρ 11 k ∧ ρ 11 k < n ∧ okJ n op (cs (fun i => ρ 11 i) k.toNat) (ρ 11 k) ∧ ∀ j, 0 ≤ j → j < ρ 11 k → ¬ okJ n op (cs (fun i => ρ 11 i) k.toNat) j) (fun i _ => (n - i).toNat) ?_ 0 τ ⟨by omega, by omega, fr.rf, Int.le_refl _, by show (0 : Int) < p2 n; omega, by show pc 0 = 0; simp [pc], by rw [Int.sub_zero]; exact hc0, fun k a b => by omega⟩
      clear ih
      rintro i ρ ⟨k1, k2, k3, k4, k5, k6, k7, k8⟩ ih
      obtain ⟨S, eS⟩ : ∃ x, x = cs (fun i => ρ 11 i) i.toNat := ⟨_, rfl⟩
      rw [← eS] at k4 k5 k6 k7 ⊢
      obtain ⟨u1, u2, u3⟩ := hop ρ (fun c k q => by rw [k3 c k (by omega), i3 c k (by omega)])
      refine ok_iload 79 rfl rfl rfl (ok_aload_n 80 rfl rfl rfl (ok_getI 81 rfl rfl fl_X12_234 rfl rfl (Or.inl rfl) (ok_icmp_ge 82 222 rfl rfl rfl (fun h144 => ?_) (fun h144 => ?_))))
      · refine ok_iconst 126 rfl rfl (by decide) (ok_zret 127 rfl rfl rfl (by first | omega | (simp [up_if]; omega) | (simp [up_if] at *; omega)) ?_)
        refine ⟨_, rfl, Or.inr ⟨rfl, hc0, fun c k q => by rw [k3 c k (by omega), i3 c k (by omega)], fun k a b => ?_⟩⟩
        exact k8 k a (by omega)
      · refine ok_iconst 83 rfl rfl (by decide) (ok_ist7 84 rfl rfl rfl ?_)
        have hin : i < n := by omega
        have hex : ∃ j, 0 ≤ j ∧ j < n ∧ okJ n op S j := (cpl_iff (by omega) (by omega)).mp (by rw [k6]; exact k7)
        refine lpO (fun j : Int => [some (vr 0), some (vi l), some (vi r), some (vi c), some (vi (p2 n - 1)), some (vi S), some (vi i), some (vi j)]) (fun _ => ρ) (fun j => 0 ≤ j ∧ j < n ∧ ∀ j', 0 ≤ j' → j' < j → ¬ okJ n op S j') (fun j => (n - j).toNat) ?_ 0 ⟨by omega, by omega, fun j' a b => by omega⟩
        rintro j ⟨j1, j2, j3⟩ ih2
        have e1 := bitG (s := S) (j := j) (by omega) (by omega)
        have e2 := bitP (s := S) (j := j) (by omega) (by omega)
        obtain ⟨l1, l2⟩ := sB_lt (s := S) (j := j) (n := n) ⟨k4, k5⟩ ⟨j1, j2⟩
        have nxt : ¬ okJ n op S j → Ok shB M_Mo_isChosen 192 [some (vr 0), some (vi l), some (vi r), some (vi c), some (vi (p2 n - 1)), some (vi S), some (vi i), some (vi j)] [] ρ (fun σ' v => ∃ z, v = some (vi z) ∧ Qch σ n op σ' z) := by
          intro hno
          have hj : j + 1 < n := by
            obtain ⟨j', a1, a2, a3⟩ := hex
            by_cases q : j' < j
            · exact absurd a3 (j3 j' a1 q)
            · by_cases q' : j' = j
              · rw [q'] at a3; exact absurd a3 hno
              · omega
          refine ok_inc7 111 rfl rfl rfl (by first | omega | (simp [up_if]; omega) | (simp [up_if] at *; omega)) (ok_goto 112 150 rfl rfl rfl ?_)
          exact ih2 (j + 1) ⟨by omega, hj, lt_ext j3 hno⟩ (by omega)
        refine ok_iload 85 rfl rfl rfl (ok_iload 86 rfl rfl rfl (ok_ishr 87 rfl rfl (ok_iconst 88 rfl rfl (by decide) (ok_iand 89 rfl rfl ?_))))
        rw [e1]
        refine ok_iconst 90 rfl rfl (by decide) (ok_icmp_eq 91 192 rfl rfl rfl (fun h158 => ?_) (fun h158 => ?_))
        · exact nxt (fun q => by have q1 := q.1; rw [b1'.mp h158] at q1; cases q1)
        · have hb : bt S j = false := by
            cases hq : bt S j with
            | false => rfl
            | true => exact absurd (b1'.mpr hq) h158
          refine ok_aload_n 92 rfl rfl rfl (ok_iload 93 rfl rfl rfl (ok_iload 94 rfl rfl rfl (ok_iload_n 95 rfl rfl rfl (ok_iload_n 96 rfl rfl rfl (ok_iload_n 97 rfl rfl rfl (ok_callVI (M' := M_Mo_isOpen) (as := [_, _, _, _, _]) 98 rfl rfl ml_X12_252 (s_Mo_isOpen u3 (by omega) (by omega)) rfl rfl (Nat.le_of_ble_eq_true rfl) ⟨Nat.le_of_ble_eq_true rfl, Nat.le_of_ble_eq_true rfl⟩ rfl (Nat.le_of_ble_eq_true rfl) (fun σ' z hz => ?_)))))))
          obtain ⟨hs_, hz⟩ := hz
          rw [hs_]; clear hs_ σ'
          rw [u1] at hz
          refine ok_if_eq 99 192 rfl rfl rfl (fun h172 => ?_) (fun h172 => ?_)
          · exact nxt (fun q => no1 hz h172 (by have := q.2.1; rwa [k6] at this))
          · refine ok_aload_n 100 rfl rfl rfl (ok_getR 101 rfl rfl fl_X12_42 rfl rfl (ok_iload 102 rfl rfl rfl (ok_iconst 103 rfl rfl (by decide) (ok_iload 104 rfl rfl rfl (ok_ishl 105 rfl rfl (ok_ior 106 rfl rfl ?_))))))
            rw [e2]
            refine ok_lald 107 rfl rfl rfl (by omega) ?_
            have hd := i4 (sB S j) (by omega) l2
            have hcp := (bitC (s := S) (j := j) (by omega) (by omega) hb).1
            have er : ρ 10 (sB S j) = τ 10 (sB S j) := k3 10 _ (by omega)
            refine ok_lconst (w := 0) 108 rfl rfl rfl (by decide) (ok_lcmp_ge 109 110 198 rfl rfl rfl rfl rfl (fun h188 => ?_) (fun h188 => ?_))
            · have hok : okJ n op S j := by
                refine ⟨hb, by rw [k6]; exact yes1 hz h172, ?_⟩
                rcases hd with y | y
                · have := y.2
                  rwa [show n - pc (sB S j) = n - pc S - 1 by omega] at this
                · omega
              refine ok_aload_n 113 rfl rfl rfl (ok_getR 114 rfl rfl fl_X12_45 rfl rfl (ok_iload 115 rfl rfl rfl (ok_iload 116 rfl rfl rfl (ok_iast 117 rfl rfl rfl (by first | omega | (simp [up_if]; omega) | (simp [up_if] at *; omega)) (ok_iload 118 rfl rfl rfl (ok_iconst 119 rfl rfl (by decide) (ok_iload 120 rfl rfl rfl (ok_ishl 121 rfl rfl (ok_ior 122 rfl rfl (ok_ist5 123 rfl rfl rfl (ok_inc6 124 rfl rfl rfl (by first | omega | (simp [up_if]; omega) | (simp [up_if] at *; omega)) (ok_goto 125 138 rfl rfl rfl ?_))))))))))))
              rw [e2]
              have ecs : ∀ k : Int, 0 ≤ k → k ≤ i → cs (fun q => up ρ 11 i j 11 q) k.toNat = cs (fun q => ρ 11 q) k.toNat := fun k a b => cs_cg (fun q a' b' => by rw [up_nk _ _ _ _ (by omega)])
              have ec1 : cs (fun q => up ρ 11 i j 11 q) (i + 1).toNat = sB S j := by
                rw [cs_s _ k1, ecs i k1 (Int.le_refl _), ← eS, up_same]
              have hfin := ih (i + 1) (up ρ 11 i j) ⟨by omega, by omega, fr_up k3 rfl, by rw [ec1]; exact l1, by rw [ec1]; exact l2, by rw [ec1]; omega, by rw [ec1]; have := hok.2.2; rwa [k6, show n - i - 1 = n - (i + 1) by omega] at this, fun k a b => ?_⟩ (by omega)
              · rw [ec1] at hfin
                exact ok_fg [some (vr 0), some (vi l), some (vi r), some (vi c), some (vi (p2 n - 1)), some (vi (sB S j)), some (vi (i + 1)), none] ⟨rfl, rfl, rfl, rfl, rfl, rfl, rfl, trivial⟩ hfin
              · rw [ecs k a (by omega)]
                by_cases q : k = i
                · rw [q, up_same, ← eS]
                  exact ⟨j1, j2, hok, j3⟩
                · rw [up_nk _ _ _ _ q]
                  exact k8 k a (by omega)
            · exact nxt (fun q => by
                rcases hd with y | y
                · omega
                · refine y.2 ?_
                  have := q.2.2
                  rwa [show n - pc (sB S j) = n - pc S - 1 by omega])
    · refine ok_iconst 73 rfl rfl (by decide) (ok_zret 74 rfl rfl rfl (by first | omega | (simp [up_if]; omega) | (simp [up_if] at *; omega)) ?_)
      refine ⟨_, rfl, Or.inl ⟨rfl, ?_, i3⟩⟩
      rcases i4 0 (by omega) (by omega) with q | q
      · omega
      · have := q.2
        rwa [show pc 0 = 0 by simp [pc], Int.sub_zero] at this
  · refine ok_iload 18 rfl rfl rfl (ok_callSI (M' := M_Mo_bits) (as := [_]) 19 rfl rfl ml_X12_241 (s_Mo_bits (by omega)) ⟨Nat.le_of_ble_eq_true rfl, Nat.le_of_ble_eq_true rfl⟩ rfl (Nat.le_of_ble_eq_true rfl) (fun σ' z hz => ?_))
    rw [hz.1, hz.2]
    clear hz z σ'
    refine ok_ist6 20 rfl rfl rfl ?_
    have hp := (bitL (s := s) (n := n) (by omega) (by omega)).1 (by omega)
    have hp0 := (bitL (s := s) (n := n) (by omega) (by omega)).2.2.1
    refine ok_aload_n 21 rfl rfl rfl (ok_getR 22 rfl rfl fl_X12_42 rfl rfl (ok_iload 23 rfl rfl rfl (ok_ldc2 24 (-1) rfl rfl kc_X12_219 (by decide) (ok_last 25 rfl rfl rfl (by omega) (ok_iconst 26 rfl rfl (by decide) (ok_ist7 27 rfl rfl rfl ?_))))))
    refine lpO2 (fun (j : Int) (_ : eS) => [some (vr 0), some (vi l), some (vi r), some (vi c), some (vi (p2 n - 1)), some (vi s), some (vi (pc s)), some (vi j)]) (fun _ ρ => ρ) (fun j ρ => 0 ≤ j ∧ j ≤ n ∧ fr (fun c _ => c = 10) σ ρ ∧ (∀ T, s < T → T < p2 n → dpC n op ρ T) ∧ ((ρ 10 s = 1 ∧ ∃ j', 0 ≤ j' ∧ j' < n ∧ okJ n op s j') ∨ (ρ 10 s = -1 ∧ ∀ j', 0 ≤ j' → j' < j → ¬ okJ n op s j'))) (fun j _ => (n - j).toNat) ?_ 0 _ ⟨by omega, by omega, fr_up i3 rfl, fun T a b => ?_, Or.inr ⟨by rw [up_same], fun j' a b => by omega⟩⟩
    rotate_left
    · unfold dpC
      rw [up_nk _ _ _ _ (by omega)]
      exact i4 T a b
    rintro j ρ ⟨j1, j2, j3, j4, j5⟩ ih2
    obtain ⟨u1, u2, u3⟩ := hop ρ (j3.mono (fun c k q => by omega))
    have nxt : j < n → (¬ okJ n op s j ∨ ρ 10 s = 1) → Ok shB M_Mo_isChosen 107 [some (vr 0), some (vi l), some (vi r), some (vi c), some (vi (p2 n - 1)), some (vi s), some (vi (pc s)), some (vi j)] [] ρ (fun σ' v => ∃ z, v = some (vi z) ∧ Qch σ n op σ' z) := by
      intro hj hno
      refine ok_inc7 62 rfl rfl rfl (by first | omega | (simp [up_if]; omega) | (simp [up_if] at *; omega)) (ok_goto 63 49 rfl rfl rfl ?_)
      refine ih2 (j + 1) ρ ⟨by omega, by omega, j3, j4, ?_⟩ (by omega)
      rcases j5 with q | q
      · exact Or.inl q
      · rcases hno with y | y
        · exact Or.inr ⟨q.1, lt_ext q.2 y⟩
        · omega
    refine ok_iload 28 rfl rfl rfl (ok_aload_n 29 rfl rfl rfl (ok_getI 30 rfl rfl fl_X12_234 rfl rfl (Or.inl rfl) (ok_icmp_ge 31 113 rfl rfl rfl (fun h55 => ?_) (fun h55 => ?_))))
    · refine ok_inc5 64 rfl rfl rfl (by first | omega | (simp [up_if]; omega) | (simp [up_if] at *; omega)) (ok_goto 65 24 rfl rfl rfl ?_)
      refine ok_fg [some (vr 0), some (vi l), some (vi r), some (vi c), some (vi (p2 n - 1)), some (vi (s + -1)), none, none] ⟨rfl, rfl, rfl, rfl, rfl, rfl, trivial⟩ (ih (s + -1) ρ ⟨by omega, by omega, j3, fun T a b => ?_⟩ (by omega))
      by_cases q : T = s
      · rw [q]
        have hiff := cpl_iff (op := op) hp hp0
        rcases j5 with y | y
        · exact Or.inl ⟨y.1, hiff.mpr y.2⟩
        · exact Or.inr ⟨y.1, fun w => by obtain ⟨j', a1, a2, a3⟩ := hiff.mp w; exact y.2 j' a1 (by omega) a3⟩
      · exact j4 T (by omega) b
    · have e1 := bitG (s := s) (j := j) (by omega) (by omega)
      have e2 := bitP (s := s) (j := j) (by omega) (by omega)
      obtain ⟨l1, l2⟩ := sB_lt (s := s) (j := j) (n := n) ⟨by omega, by omega⟩ ⟨by omega, by omega⟩
      refine ok_iload 32 rfl rfl rfl (ok_iload 33 rfl rfl rfl (ok_ishr 34 rfl rfl (ok_iconst 35 rfl rfl (by decide) (ok_iand 36 rfl rfl ?_))))
      rw [e1]
      refine ok_if_ne 37 107 rfl rfl rfl (fun h65 => ?_) (fun h65 => ?_)
      · exact nxt (by omega) (Or.inl (fun q => h65 (b0.mpr q.1)))
      · refine ok_aload_n 38 rfl rfl rfl (ok_iload 39 rfl rfl rfl (ok_iload 40 rfl rfl rfl (ok_iload_n 41 rfl rfl rfl (ok_iload_n 42 rfl rfl rfl (ok_iload_n 43 rfl rfl rfl (ok_callVI (M' := M_Mo_isOpen) (as := [_, _, _, _, _]) 44 rfl rfl ml_X12_252 (s_Mo_isOpen u3 ⟨by omega, by omega⟩ ⟨by omega, by omega⟩) rfl rfl (Nat.le_of_ble_eq_true rfl) ⟨Nat.le_of_ble_eq_true rfl, Nat.le_of_ble_eq_true rfl⟩ rfl (Nat.le_of_ble_eq_true rfl) (fun σ' z hz => ?_)))))))
        obtain ⟨hs_, hz⟩ := hz
        rw [hs_]; clear hs_ σ'
        rw [u1] at hz
        have hb := b0.mp h65
        obtain ⟨hc1, hc2⟩ := bitC (s := s) (j := j) (by omega) (by omega) hb
        have hd := j4 (sB s j) hc2 l2
        refine ok_if_eq 45 107 rfl rfl rfl (fun h79 => ?_) (fun h79 => ?_)
        · exact nxt (by omega) (Or.inl (fun q => no1 hz h79 q.2.1))
        · refine ok_aload_n 46 rfl rfl rfl (ok_getR 47 rfl rfl fl_X12_42 rfl rfl (ok_iload 48 rfl rfl rfl (ok_iconst 49 rfl rfl (by decide) (ok_iload 50 rfl rfl rfl (ok_ishl 51 rfl rfl (ok_ior 52 rfl rfl ?_))))))
          rw [e2]
          refine ok_lald 53 rfl rfl rfl (by omega) (ok_lconst (w := 0) 54 rfl rfl rfl (by decide) (ok_lcmp_le 55 56 107 rfl rfl rfl rfl rfl (fun h95 => ?_) (fun h95 => ?_)))
          · refine nxt (by omega) (Or.inl (fun q => ?_))
            rcases hd with y | y
            · omega
            · exact y.2 (by have := q.2.2; rwa [show n - pc (sB s j) = n - pc s - 1 by omega])
          · refine ok_aload_n 57 rfl rfl rfl (ok_getR 58 rfl rfl fl_X12_42 rfl rfl (ok_iload 59 rfl rfl rfl (ok_lconst (w := 1) 60 rfl rfl rfl (by decide) (ok_last 61 rfl rfl rfl (by first | omega | (simp [up_if]; omega) | (simp [up_if] at *; omega)) ?_))))
            have hok : okJ n op s j := by
              refine ⟨hb, yes1 hz h79, ?_⟩
              rcases hd with y | y
              · have := y.2
                rwa [show n - pc (sB s j) = n - pc s - 1 by omega] at this
              · omega
            refine ok_inc7 62 rfl rfl rfl (by first | omega | (simp [up_if]; omega) | (simp [up_if] at *; omega)) (ok_goto 63 49 rfl rfl rfl ?_)
            refine ih2 (j + 1) _ ⟨by omega, by omega, fr_up j3 rfl, fun T a b => ?_, Or.inl ⟨by rw [up_same], j, j1, by omega, hok⟩⟩ (by omega)
            unfold dpC
            rw [up_nk _ _ _ _ (by omega)]
            exact j4 T a b
end
section
/-! the greatest: what is left of the rows, by sets of columns -/
/-- a column j that may follow the set T: free, great enough, and the rest has a choice -/
def okG (n l : Int) (w : Int → Int → Int) (v : Int → Int) (T j : Int) : Prop := bt T j = false ∧ l ≤ w (pc T) j ∧ 0 ≤ v (sB T j)
def cmbG (sums : Int) (a b : Int) : Int := if sums = 0 then min a b else a + b
def dpG (n l sums : Int) (w : Int → Int → Int) (v : Int → Int) (T : Int) : Prop := (∀ j, 0 ≤ j → j < n → okG n l w v T j → cmbG sums (w (pc T) j) (v (sB T j)) ≤ v T) ∧ ((v T = -1 ∧ ∀ j, 0 ≤ j → j < n → ¬ okG n l w v T j) ∨ ∃ j, 0 ≤ j ∧ j < n ∧ okG n l w v T j ∧ v T = cmbG sums (w (pc T) j) (v (sB T j)))
def dpP (n l sums : Int) (w : Int → Int → Int) (v : Int → Int) (T j : Int) : Prop := (v T = -1 ∧ ∀ j', 0 ≤ j' → j' < j → ¬ okG n l w v T j') ∨ ∃ j', 0 ≤ j' ∧ j' < n ∧ okG n l w v T j' ∧ v T = cmbG sums (w (pc T) j') (v (sB T j'))
def wBd (σ : eS) : Prop := ∀ i j, 0 ≤ i → i < σ 0 22 → 0 ≤ j → j < σ 0 22 → 0 ≤ wk σ i j ∧ wk σ i j ≤ 799999992
def Qlc (σ : eS) (n l sums : Int) (σ' : eS) : Prop := fr (fun c _ => c = 10) σ σ' ∧ σ' 10 (p2 n - 1) = (if sums = 0 then 9223372036854775807 else 0) ∧ ∀ T, 0 ≤ T → T < p2 n - 1 → dpG n l sums (wk σ) (fun k => σ' 10 k) T ∧ -1 ≤ σ' 10 T ∧ σ' 10 T ≤ 799999992 * 8
theorem s_Mo_laysCan {σ : eS} {l b : Int} (h : nW σ) (hw : wBd σ) (hl : 0 ≤ l) (hb : b = 0 ∨ b = 1) : MtV shB M_Mo_laysCan [vr 0, vi l, vi b] σ (Qlc σ (σ 0 22) l b) := by
  refine Mt.of okM_Mo_laysCan (Nat.le_of_ble_eq_true rfl) (fun hk hg => ?_)
  obtain ⟨n, en⟩ : ∃ x, x = σ 0 22 := ⟨_, rfl⟩
  have hn : 1 ≤ n ∧ n ≤ 8 := by rw [en]; exact h
  obtain ⟨z1, z2, z3, z4⟩ := bit2 (n := n) (by omega)
  have z4 := z4 hn.1
  rw [← en]
  have hop : ∀ τ : eS, fr (fun c _ => c = 10) σ τ → wk τ = wk σ ∧ τ 0 22 = n ∧ nW τ := fun τ f => by
    have e1 : τ 0 22 = n := by rw [f 0 22 (by omega), en]
    refine ⟨?_, e1, h.fr' (by rw [e1, en])⟩
    funext i j
    unfold wk
    rw [f 0 22 (by omega), f 9 _ (by omega)]
  have hwb : ∀ i j, 0 ≤ i → i < n → 0 ≤ j → j < n → 0 ≤ wk σ i j ∧ wk σ i j ≤ 799999992 := fun i j a1 a2 a3 a4 => hw i j a1 (by omega) a3 (by omega)
  have main : ∀ (τ : eS), fr (fun c _ => c = 10) σ τ → τ 10 (p2 n - 1) = (if b = 0 then 9223372036854775807 else 0) → Ok shB M_Mo_laysCan 26 [some (vr 0), some (vi l), some (vi b), some (vi (p2 n - 1)), none, none, none, none, none] [] τ (fun σ' v => v = none ∧ Qlc σ n l b σ') := by
    intro τ f0 v0
    refine ok_iload_n 16 rfl rfl rfl (ok_iconst 17 rfl rfl (by decide) (ok_isub 18 rfl rfl (by first | omega | (simp [up_if]; omega) | (simp [up_if] at *; omega)) (ok_ist4 19 rfl rfl rfl ?_)))
    refine lpO2 (fun (s : Int) (_ : eS) => [some (vr 0), some (vi l), some (vi b), some (vi (p2 n - 1)), some (vi s), none, none, none, none]) (fun _ τ => τ) (fun s τ => -1 ≤ s ∧ s < p2 n - 1 ∧ fr (fun c _ => c = 10) σ τ ∧ τ 10 (p2 n - 1) = (if b = 0 then 9223372036854775807 else 0) ∧ ∀ T, s < T → T < p2 n - 1 → dpG n l b (wk σ) (fun k => τ 10 k) T ∧ -1 ≤ τ 10 T ∧ τ 10 T ≤ 799999992 * (n - pc T)) (fun s _ => (s + 1).toNat) ?_ (p2 n - 1 - 1) _ ⟨by omega, by omega, f0, v0, fun T a b => by omega⟩
    clear f0 v0 τ
    rintro s τ ⟨i1, i2, i3, i5, i4⟩ ih
    refine ok_iload 20 rfl rfl rfl (ok_if_lt 21 194 rfl rfl rfl (fun h33 => ?_) (fun h33 => ?_))
    · refine ok_vret 107 rfl rfl rfl ?_
      refine ⟨rfl, i3, i5, fun T a b' => ?_⟩
      obtain ⟨y1, y2, y3⟩ := i4 T (by omega) b'
      have := (bitL (s := T) (n := n) (by omega) (by omega)).2.2.1
      exact ⟨y1, y2, by omega⟩
    · refine ok_iload 22 rfl rfl rfl (ok_callSI (M' := M_Mo_bits) (as := [_]) 23 rfl rfl ml_X12_241 (s_Mo_bits (by omega)) ⟨Nat.le_of_ble_eq_true rfl, Nat.le_of_ble_eq_true rfl⟩ rfl (Nat.le_of_ble_eq_true rfl) (fun σ' z hz => ?_))
      rw [hz.1, hz.2]
      clear hz z σ'
      refine ok_ist5 24 rfl rfl rfl ?_
      have hp := (bitL (s := s) (n := n) (by omega) (by omega)).1 (by omega)
      have hp0 := (bitL (s := s) (n := n) (by omega) (by omega)).2.2.1
      refine ok_aload_n 25 rfl rfl rfl (ok_getR 26 rfl rfl fl_X12_42 rfl rfl (ok_iload 27 rfl rfl rfl (ok_ldc2 28 (-1) rfl rfl kc_X12_219 (by decide) (ok_last 29 rfl rfl rfl (by omega) (ok_iconst 30 rfl rfl (by decide) (ok_ist6 31 rfl rfl rfl ?_))))))
      refine lpO2 (fun (j : Int) (_ : eS) => [some (vr 0), some (vi l), some (vi b), some (vi (p2 n - 1)), some (vi s), some (vi (pc s)), some (vi j), none, none]) (fun _ ρ => ρ) (fun j ρ => 0 ≤ j ∧ j ≤ n ∧ fr (fun c _ => c = 10) σ ρ ∧ ρ 10 (p2 n - 1) = (if b = 0 then 9223372036854775807 else 0) ∧ (∀ T, s < T → T < p2 n - 1 → dpG n l b (wk σ) (fun k => ρ 10 k) T ∧ -1 ≤ ρ 10 T ∧ ρ 10 T ≤ 799999992 * (n - pc T)) ∧ -1 ≤ ρ 10 s ∧ ρ 10 s ≤ 799999992 * (n - pc s) ∧ (∀ j', 0 ≤ j' → j' < j → okG n l (wk σ) (fun k => ρ 10 k) s j' → cmbG b (wk σ (pc s) j') (ρ 10 (sB s j')) ≤ ρ 10 s) ∧ dpP n l b (wk σ) (fun k => ρ 10 k) s j) (fun j _ => (n - j).toNat) ?_ 0 _ ⟨by omega, by omega, fr_up i3 rfl, by rw [up_nk _ _ _ _ (by omega)]; exact i5, fun T a b' => ?_, by rw [up_same]; omega, by rw [up_same]; omega, fun j' a b => by omega, Or.inl ⟨up_same _ _ _ _, fun j' a b => by omega⟩⟩
      rotate_left
      · obtain ⟨y1, y2, y3⟩ := i4 T a b'
        refine ⟨?_, by rw [up_nk _ _ _ _ (by omega)]; exact y2, by rw [up_nk _ _ _ _ (by omega)]; exact y3⟩
        have e : ∀ j, 0 ≤ j → j < n → bt T j = false → up τ 10 s (-1) 10 (sB T j) = τ 10 (sB T j) := fun j a1 a2 a3 => by
          have := (bitC (s := T) (j := j) (by omega) (by omega) a3).2
          rw [up_nk _ _ _ _ (by omega)]
        have eT : up τ 10 s (-1) 10 T = τ 10 T := up_nk _ _ _ _ (by omega)
        have eok : ∀ j, 0 ≤ j → j < n → (okG n l (wk σ) (fun k => up τ 10 s (-1) 10 k) T j ↔ okG n l (wk σ) (fun k => τ 10 k) T j) := fun j a1 a2 => by
          unfold okG
          constructor
          · rintro ⟨q1, q2, q3⟩; dsimp only at q3; rw [e j a1 a2 q1] at q3; exact ⟨q1, q2, q3⟩
          · rintro ⟨q1, q2, q3⟩; refine ⟨q1, q2, ?_⟩; dsimp only; rw [e j a1 a2 q1]; exact q3
        refine ⟨fun j a1 a2 a3 => ?_, ?_⟩
        · dsimp only
          rw [eT, e j a1 a2 a3.1]
          exact y1.1 j a1 a2 ((eok j a1 a2).mp a3)
        · dsimp only
          rw [eT]
          rcases y1.2 with q | ⟨j, q1, q2, q3, q4⟩
          · exact Or.inl ⟨q.1, fun j a1 a2 a3 => q.2 j a1 a2 ((eok j a1 a2).mp a3)⟩
          · exact Or.inr ⟨j, q1, q2, (eok j q1 q2).mpr q3, by rw [e j q1 q2 q3.1]; exact q4⟩
      rintro j ρ ⟨j1, j2, j3, jA, j4, j5, j6, j7, j8⟩ ih2
      obtain ⟨u1, u2, u3⟩ := hop ρ j3
      have nxt : j < n → ¬ okG n l (wk σ) (fun k => ρ 10 k) s j → Ok shB M_Mo_laysCan 182 [some (vr 0), some (vi l), some (vi b), some (vi (p2 n - 1)), some (vi s), some (vi (pc s)), some (vi j), none, none] [] ρ (fun σ' v => v = none ∧ Qlc σ n l b σ') := by
        intro hj hno
        refine ok_inc6 103 rfl rfl rfl (by first | omega | (simp [up_if]; omega) | (simp [up_if] at *; omega)) (ok_goto 104 56 rfl rfl rfl ?_)
        refine ih2 (j + 1) ρ ⟨by omega, by omega, j3, jA, j4, j5, j6, lt_ext j7 (fun q => absurd q hno), ?_⟩ (by omega)
        rcases j8 with q | q
        · exact Or.inl ⟨q.1, lt_ext q.2 hno⟩
        · exact Or.inr q
      refine ok_iload 32 rfl rfl rfl (ok_aload_n 33 rfl rfl rfl (ok_getI 34 rfl rfl fl_X12_234 rfl rfl (Or.inl rfl) (ok_icmp_ge 35 188 rfl rfl rfl (fun h62 => ?_) (fun h62 => ?_))))
      · refine ok_inc4 105 rfl rfl rfl (by first | omega | (simp [up_if]; omega) | (simp [up_if] at *; omega)) (ok_goto 106 31 rfl rfl rfl ?_)
        refine ok_fg [some (vr 0), some (vi l), some (vi b), some (vi (p2 n - 1)), some (vi (s + -1)), none, none, none, none] ⟨rfl, rfl, rfl, rfl, rfl, trivial⟩ (ih (s + -1) ρ ⟨by omega, by omega, j3, jA, fun T a b' => ?_⟩ (by omega))
        by_cases q : T = s
        · rw [q]
          refine ⟨⟨fun j' a1 a2 a3 => j7 j' a1 (by omega) a3, ?_⟩, j5, j6⟩
          rcases j8 with y | y
          · exact Or.inl ⟨y.1, fun j' a1 a2 => y.2 j' a1 (by omega)⟩
          · exact Or.inr y
        · exact j4 T (by omega) b'
      · have e1 := bitG (s := s) (j := j) (by omega) (by omega)
        have e2 := bitP (s := s) (j := j) (by omega) (by omega)
        obtain ⟨l1, l2⟩ := sB_lt (s := s) (j := j) (n := n) ⟨by omega, by omega⟩ ⟨by omega, by omega⟩
        have wb := hwb (pc s) j (by omega) (by omega) (by omega) (by omega)
        refine ok_iload 36 rfl rfl rfl (ok_iload 37 rfl rfl rfl (ok_ishr 38 rfl rfl (ok_iconst 39 rfl rfl (by decide) (ok_iand 40 rfl rfl ?_))))
        rw [e1]
        refine ok_iconst 41 rfl rfl (by decide) (ok_icmp_eq 42 182 rfl rfl rfl (fun h73 => ?_) (fun h73 => ?_))
        · exact nxt (by omega) (fun q => by have q1 := q.1; rw [b1'.mp h73] at q1; cases q1)
        · refine ok_aload_n 43 rfl rfl rfl (ok_iload 44 rfl rfl rfl (ok_iload 45 rfl rfl rfl (ok_callVI (M' := M_Mo_worked) (as := [_, _]) 46 rfl rfl ml_X12_244 (s_Mo_worked u3 ⟨by omega, by omega⟩ ⟨by omega, by omega⟩) rfl rfl (Nat.le_of_ble_eq_true rfl) ⟨Nat.le_of_ble_eq_true rfl, Nat.le_of_ble_eq_true rfl⟩ rfl (Nat.le_of_ble_eq_true rfl) (fun σ' z hz => ?_))))
          rw [hz.1, hz.2, u1]; clear hz z σ'
          have hb' : bt s j = false := by
            cases hq : bt s j with
            | false => rfl
            | true => exact absurd (b1'.mpr hq) h73
          obtain ⟨hc1, hc2⟩ := bitC (s := s) (j := j) (by omega) (by omega) hb'
          refine ok_iload_n 47 rfl rfl rfl (ok_icmp_lt 48 182 rfl rfl rfl (fun h85 => ?_) (fun h85 => ?_))
          · exact nxt (by omega) (fun q => by have := q.2.1; omega)
          · refine ok_aload_n 49 rfl rfl rfl (ok_getR 50 rfl rfl fl_X12_42 rfl rfl (ok_iload 51 rfl rfl rfl (ok_iconst 52 rfl rfl (by decide) (ok_iload 53 rfl rfl rfl (ok_ishl 54 rfl rfl (ok_ior 55 rfl rfl ?_))))))
            rw [e2]
            refine ok_lald 56 rfl rfl rfl (by omega) (ok_lconst (w := 0) 57 rfl rfl rfl (by decide) (ok_lcmp_ge 58 59 108 rfl rfl rfl rfl rfl (fun h101 => ?_) (fun h101 => ?_)))
            · have hok : okG n l (wk σ) (fun k => ρ 10 k) s j := ⟨hb', by omega, by omega⟩
              have vb : (b = 1 → ρ 10 (sB s j) ≤ 799999992 * (n - pc s - 1)) ∧ 0 ≤ ρ 10 (sB s j) := by
                refine ⟨fun hb1 => ?_, by omega⟩
                by_cases q : sB s j = p2 n - 1
                · rw [q, jA, if_neg (by omega)]; omega
                · have := (j4 (sB s j) hc2 (by omega)).2.2; omega
              refine ok_iload_n 61 rfl rfl rfl (ok_if_eq 62 137 rfl rfl rfl (fun h109 => ?_) (fun h109 => ?_))
              · refine ok_aload_n 78 rfl rfl rfl (ok_iload 79 rfl rfl rfl (ok_iload 80 rfl rfl rfl (ok_callVI (M' := M_Mo_worked) (as := [_, _]) 81 rfl rfl ml_X12_244 (s_Mo_worked u3 ⟨by omega, by omega⟩ ⟨by omega, by omega⟩) rfl rfl (Nat.le_of_ble_eq_true rfl) ⟨Nat.le_of_ble_eq_true rfl, Nat.le_of_ble_eq_true rfl⟩ rfl (Nat.le_of_ble_eq_true rfl) (fun σ' z hz => ?_))))
                rw [hz.1, hz.2, u1]; clear hz z σ'
                refine ok_i2l 82 rfl rfl (ok_aload_n 83 rfl rfl rfl (ok_getR 84 rfl rfl fl_X12_42 rfl rfl (ok_iload 85 rfl rfl rfl (ok_iconst 86 rfl rfl (by decide) (ok_iload 87 rfl rfl rfl (ok_ishl 88 rfl rfl (ok_ior 89 rfl rfl ?_)))))))
                rw [e2]
                refine ok_lald 90 rfl rfl rfl (by omega) (ok_mminL 91 rfl rfl ml_X12_247 ⟨Nat.le_of_ble_eq_true rfl, Nat.le_of_ble_eq_true rfl⟩ (ok_lst7 92 rfl rfl rfl (ok_aload_n 93 rfl rfl rfl (ok_getR 94 rfl rfl fl_X12_42 rfl rfl (ok_iload 95 rfl rfl rfl (ok_aload_n 96 rfl rfl rfl (ok_getR 97 rfl rfl fl_X12_42 rfl rfl (ok_iload 98 rfl rfl rfl (ok_lald 99 rfl rfl rfl (by omega) (ok_lload 100 rfl rfl rfl (ok_mmaxL 101 rfl rfl ml_X12_250 ⟨Nat.le_of_ble_eq_true rfl, Nat.le_of_ble_eq_true rfl⟩ (ok_last 102 rfl rfl rfl (by omega) (ok_inc6 103 rfl rfl rfl (by first | omega | (simp [up_if]; omega) | (simp [up_if] at *; omega)) (ok_goto 104 56 rfl rfl rfl ?_))))))))))))))
                obtain ⟨X, eX⟩ : ∃ x, x = cmbG b (wk σ (pc s) j) (ρ 10 (sB s j)) := ⟨_, rfl⟩
                have hX : 0 ≤ X ∧ X ≤ 799999992 * (n - pc s) := by
                  rw [eX]; unfold cmbG
                  split
                  · omega
                  · have := vb.1 (by omega); omega
                first | (have eX' : wk σ (pc s) j + ρ 10 (sB s j) = X := by
                           rw [eX]; unfold cmbG; rw [if_neg (by omega)]
                         rw [eX']) | (have eX' : min (wk σ (pc s) j) (ρ 10 (sB s j)) = X := by
                                       rw [eX]; unfold cmbG; rw [if_pos (by omega)]
                                      rw [eX'])
                have ev : ∀ k, s < k → up ρ 10 s (max (ρ 10 s) X) 10 k = ρ 10 k := fun k hk => up_nk _ _ _ _ (by omega)
                have eok : ∀ T j', s ≤ T → T < p2 n - 1 → 0 ≤ j' → j' < n → (okG n l (wk σ) (fun k => up ρ 10 s (max (ρ 10 s) X) 10 k) T j' ↔ okG n l (wk σ) (fun k => ρ 10 k) T j') := fun T j' a0 a1 a2 a3 => by
                  unfold okG
                  constructor
                  · rintro ⟨q1, q2, q3⟩; have := (bitC (s := T) (j := j') (by omega) (by omega) q1).2; dsimp only at q3; rw [ev _ (by omega)] at q3; exact ⟨q1, q2, q3⟩
                  · rintro ⟨q1, q2, q3⟩; have := (bitC (s := T) (j := j') (by omega) (by omega) q1).2; refine ⟨q1, q2, ?_⟩; dsimp only; rw [ev _ (by omega)]; exact q3
                refine ok_fg [some (vr 0), some (vi l), some (vi b), some (vi (p2 n - 1)), some (vi s), some (vi (pc s)), some (vi (j + 1)), none, none] ⟨rfl, rfl, rfl, rfl, rfl, rfl, rfl, trivial⟩ (ih2 (j + 1) _ ⟨by omega, by omega, fr_up j3 rfl, by rw [ev _ (by omega)]; exact jA, fun T a b' => ?_, by rw [up_same]; omega, by rw [up_same]; omega, ?_, ?_⟩ (by omega))
                · obtain ⟨y1, y2, y3⟩ := j4 T a b'
                  refine ⟨⟨fun j' a1 a2 a3 => ?_, ?_⟩, by rw [ev T a]; exact y2, by rw [ev T a]; exact y3⟩
                  · have hh := (eok T j' (by omega) b' a1 a2).mp a3
                    have := (bitC (s := T) (j := j') (by omega) (by omega) hh.1).2
                    dsimp only
                    rw [ev T a, ev _ (by omega)]
                    exact y1.1 j' a1 a2 hh
                  · dsimp only
                    rw [ev T a]
                    rcases y1.2 with q | ⟨j', q1, q2, q3, q4⟩
                    · exact Or.inl ⟨q.1, fun j' a1 a2 a3 => q.2 j' a1 a2 ((eok T j' (by omega) b' a1 a2).mp a3)⟩
                    · have := (bitC (s := T) (j := j') (by omega) (by omega) q3.1).2
                      exact Or.inr ⟨j', q1, q2, (eok T j' (by omega) b' q1 q2).mpr q3, by rw [ev _ (by omega)]; exact q4⟩
                · intro j' a1 a2 a3
                  have hh := (eok s j' (Int.le_refl _) (by omega) a1 (by omega)).mp a3
                  have h8 := (bitC (s := s) (j := j') (by omega) (by omega) hh.1).2
                  rw [up_same, ev _ h8]
                  by_cases q : j' = j
                  · rw [q, ← eX]; omega
                  · have := j7 j' a1 (by omega) hh; omega
                · unfold dpP
                  dsimp only
                  rw [up_same]
                  by_cases q : ρ 10 s < X
                  · refine Or.inr ⟨j, j1, by omega, (eok s j (Int.le_refl _) (by omega) j1 (by omega)).mpr hok, ?_⟩
                    rw [ev _ hc2, ← eX]; omega
                  · rcases j8 with y | ⟨j', q1, q2, q3, q4⟩
                    · have y1 : ρ 10 s = -1 := y.1
                      omega
                    · have h8 := (bitC (s := s) (j := j') (by omega) (by omega) q3.1).2
                      refine Or.inr ⟨j', q1, q2, (eok s j' (Int.le_refl _) (by omega) q1 q2).mpr q3, ?_⟩
                      have q5 : ρ 10 s = cmbG b (wk σ (pc s) j') (ρ 10 (sB s j')) := q4
                      rw [ev _ h8, ← q5]; omega
              · refine ok_aload_n 63 rfl rfl rfl (ok_iload 64 rfl rfl rfl (ok_iload 65 rfl rfl rfl (ok_callVI (M' := M_Mo_worked) (as := [_, _]) 66 rfl rfl ml_X12_244 (s_Mo_worked u3 ⟨by omega, by omega⟩ ⟨by omega, by omega⟩) rfl rfl (Nat.le_of_ble_eq_true rfl) ⟨Nat.le_of_ble_eq_true rfl, Nat.le_of_ble_eq_true rfl⟩ rfl (Nat.le_of_ble_eq_true rfl) (fun σ' z hz => ?_))))
                rw [hz.1, hz.2, u1]; clear hz z σ'
                refine ok_i2l 67 rfl rfl (ok_aload_n 68 rfl rfl rfl (ok_getR 69 rfl rfl fl_X12_42 rfl rfl (ok_iload 70 rfl rfl rfl (ok_iconst 71 rfl rfl (by decide) (ok_iload 72 rfl rfl rfl (ok_ishl 73 rfl rfl (ok_ior 74 rfl rfl ?_)))))))
                rw [e2]
                refine ok_lald 75 rfl rfl rfl (by omega) (ok_ladd 76 rfl rfl (by have := vb.1 (by omega); omega) (ok_goto 77 161 rfl rfl rfl (ok_lst7 92 rfl rfl rfl (ok_aload_n 93 rfl rfl rfl (ok_getR 94 rfl rfl fl_X12_42 rfl rfl (ok_iload 95 rfl rfl rfl (ok_aload_n 96 rfl rfl rfl (ok_getR 97 rfl rfl fl_X12_42 rfl rfl (ok_iload 98 rfl rfl rfl (ok_lald 99 rfl rfl rfl (by omega) (ok_lload 100 rfl rfl rfl (ok_mmaxL 101 rfl rfl ml_X12_250 ⟨Nat.le_of_ble_eq_true rfl, Nat.le_of_ble_eq_true rfl⟩ (ok_last 102 rfl rfl rfl (by omega) (ok_inc6 103 rfl rfl rfl (by first | omega | (simp [up_if]; omega) | (simp [up_if] at *; omega)) (ok_goto 104 56 rfl rfl rfl ?_)))))))))))))))
                obtain ⟨X, eX⟩ : ∃ x, x = cmbG b (wk σ (pc s) j) (ρ 10 (sB s j)) := ⟨_, rfl⟩
                have hX : 0 ≤ X ∧ X ≤ 799999992 * (n - pc s) := by
                  rw [eX]; unfold cmbG
                  split
                  · omega
                  · have := vb.1 (by omega); omega
                first | (have eX' : wk σ (pc s) j + ρ 10 (sB s j) = X := by
                           rw [eX]; unfold cmbG; rw [if_neg (by omega)]
                         rw [eX']) | (have eX' : min (wk σ (pc s) j) (ρ 10 (sB s j)) = X := by
                                       rw [eX]; unfold cmbG; rw [if_pos (by omega)]
                                      rw [eX'])
                have ev : ∀ k, s < k → up ρ 10 s (max (ρ 10 s) X) 10 k = ρ 10 k := fun k hk => up_nk _ _ _ _ (by omega)
                have eok : ∀ T j', s ≤ T → T < p2 n - 1 → 0 ≤ j' → j' < n → (okG n l (wk σ) (fun k => up ρ 10 s (max (ρ 10 s) X) 10 k) T j' ↔ okG n l (wk σ) (fun k => ρ 10 k) T j') := fun T j' a0 a1 a2 a3 => by
                  unfold okG
                  constructor
                  · rintro ⟨q1, q2, q3⟩; have := (bitC (s := T) (j := j') (by omega) (by omega) q1).2; dsimp only at q3; rw [ev _ (by omega)] at q3; exact ⟨q1, q2, q3⟩
                  · rintro ⟨q1, q2, q3⟩; have := (bitC (s := T) (j := j') (by omega) (by omega) q1).2; refine ⟨q1, q2, ?_⟩; dsimp only; rw [ev _ (by omega)]; exact q3
                refine ok_fg [some (vr 0), some (vi l), some (vi b), some (vi (p2 n - 1)), some (vi s), some (vi (pc s)), some (vi (j + 1)), none, none] ⟨rfl, rfl, rfl, rfl, rfl, rfl, rfl, trivial⟩ (ih2 (j + 1) _ ⟨by omega, by omega, fr_up j3 rfl, by rw [ev _ (by omega)]; exact jA, fun T a b' => ?_, by rw [up_same]; omega, by rw [up_same]; omega, ?_, ?_⟩ (by omega))
                · obtain ⟨y1, y2, y3⟩ := j4 T a b'
                  refine ⟨⟨fun j' a1 a2 a3 => ?_, ?_⟩, by rw [ev T a]; exact y2, by rw [ev T a]; exact y3⟩
                  · have hh := (eok T j' (by omega) b' a1 a2).mp a3
                    have := (bitC (s := T) (j := j') (by omega) (by omega) hh.1).2
                    dsimp only
                    rw [ev T a, ev _ (by omega)]
                    exact y1.1 j' a1 a2 hh
                  · dsimp only
                    rw [ev T a]
                    rcases y1.2 with q | ⟨j', q1, q2, q3, q4⟩
                    · exact Or.inl ⟨q.1, fun j' a1 a2 a3 => q.2 j' a1 a2 ((eok T j' (by omega) b' a1 a2).mp a3)⟩
                    · have := (bitC (s := T) (j := j') (by omega) (by omega) q3.1).2
                      exact Or.inr ⟨j', q1, q2, (eok T j' (by omega) b' q1 q2).mpr q3, by rw [ev _ (by omega)]; exact q4⟩
                · intro j' a1 a2 a3
                  have hh := (eok s j' (Int.le_refl _) (by omega) a1 (by omega)).mp a3
                  have h8 := (bitC (s := s) (j := j') (by omega) (by omega) hh.1).2
                  rw [up_same, ev _ h8]
                  by_cases q : j' = j
                  · rw [q, ← eX]; omega
                  · have := j7 j' a1 (by omega) hh; omega
                · unfold dpP
                  dsimp only
                  rw [up_same]
                  by_cases q : ρ 10 s < X
                  · refine Or.inr ⟨j, j1, by omega, (eok s j (Int.le_refl _) (by omega) j1 (by omega)).mpr hok, ?_⟩
                    rw [ev _ hc2, ← eX]; omega
                  · rcases j8 with y | ⟨j', q1, q2, q3, q4⟩
                    · have y1 : ρ 10 s = -1 := y.1
                      omega
                    · have h8 := (bitC (s := s) (j := j') (by omega) (by omega) q3.1).2
                      refine Or.inr ⟨j', q1, q2, (eok s j' (Int.le_refl _) (by omega) q1 q2).mpr q3, ?_⟩
                      have q5 : ρ 10 s = cmbG b (wk σ (pc s) j') (ρ 10 (sB s j')) := q4
                      rw [ev _ h8, ← q5]; omega
            · refine ok_goto 60 182 rfl rfl rfl ?_
              exact nxt (by omega) (fun q => by have q9 : 0 ≤ ρ 10 (sB s j) := q.2.2; omega)
  refine ok_iconst 0 rfl rfl (by decide) (ok_aload_n 1 rfl rfl rfl (ok_getI 2 rfl rfl fl_X12_234 rfl rfl (Or.inl rfl) (ok_ishl 3 rfl rfl ?_)))
  rw [← en, z1]
  refine ok_iconst 4 rfl rfl (by decide) (ok_isub 5 rfl rfl (by first | omega | (simp [up_if]; omega) | (simp [up_if] at *; omega)) (ok_ist3 6 rfl rfl rfl (ok_aload_n 7 rfl rfl rfl (ok_getR 8 rfl rfl fl_X12_42 rfl rfl (ok_iload_n 9 rfl rfl rfl (ok_iload_n 10 rfl rfl rfl (ok_if_eq 11 22 rfl rfl rfl (fun h15 => ?_) (fun h15 => ?_))))))))
  · refine ok_ldc2 14 (9223372036854775807) rfl rfl kc_X12_239 (by decide) (ok_last 15 rfl rfl rfl (by first | omega | (simp [up_if]; omega) | (simp [up_if] at *; omega)) ?_)
    first | exact main _ (fr_up fr.rf rfl) (by rw [up_same, if_neg (by omega)]) | exact main _ (fr_up fr.rf rfl) (by rw [up_same, if_pos (by omega)])
  · refine ok_lconst (w := 0) 12 rfl rfl rfl (by decide) (ok_goto 13 25 rfl rfl rfl (ok_last 15 rfl rfl rfl (by first | omega | (simp [up_if]; omega) | (simp [up_if] at *; omega)) ?_))
    first | exact main _ (fr_up fr.rf rfl) (by rw [up_same, if_neg (by omega)]) | exact main _ (fr_up fr.rf rfl) (by rw [up_same, if_pos (by omega)])
end
section
/-! from pairings to sets, and even tables -/
theorem bt_cs {f : Int → Int} : ∀ {k : Nat}, (∀ i : Int, 0 ≤ i → i < k → 0 ≤ f i) → ∀ {c : Int}, 0 ≤ c → (bt (cs f k) c = true ↔ ∃ i : Int, 0 ≤ i ∧ i < k ∧ f i = c)
  | 0, _, c, hc => by
    show bt 0 c = true ↔ _
    rw [bt_0]
    constructor
    · intro h; cases h
    · rintro ⟨i, h1, h2, -⟩; omega
  | k + 1, h, c, hc => by
    show bt (sB (cs f k) (f k)) c = true ↔ _
    rw [bt_sB (h k (by omega) (by omega)) hc, Bool.or_eq_true, bt_cs (k := k) (fun i a b => h i a (by omega)) hc, decide_eq_true_eq]
    constructor
    · rintro (⟨i, h1, h2, h3⟩ | h1)
      · exact ⟨i, h1, by omega, h3⟩
      · exact ⟨k, by omega, by omega, h1.symm⟩
    · rintro ⟨i, h1, h2, h3⟩
      by_cases q : i = k
      · exact Or.inr (by rw [← h3, q])
      · exact Or.inl ⟨i, h1, by omega, h3⟩
/-- columns that rows have, one each -/
def perm (n : Int) (f : Int → Int) : Prop := (∀ i, 0 ≤ i → i < n → 0 ≤ f i ∧ f i < n) ∧ ∀ i k, 0 ≤ i → i < k → k < n → f i ≠ f k
theorem cpl_of {n : Int} {op : Int → Int → Prop} {f : Int → Int} (hn : 0 ≤ n) (hf : perm n f) (ho : ∀ i, 0 ≤ i → i < n → op i (f i)) : cpl n op n.toNat 0 := by
  have key : ∀ m : Nat, (m : Int) ≤ n → cpl n op m (cs f (n - m).toNat) := by
    intro m
    induction m with
    | zero => intro _; trivial
    | succ m ih =>
      intro hm
      have e : (n - (m : Nat)).toNat = (n - ((m + 1 : Nat) : Int)).toNat + 1 := by omega
      have h1 := ih (by omega)
      have hk : (((n - ((m + 1 : Nat) : Int)).toNat : Nat) : Int) = n - ((m + 1 : Nat) : Int) := by omega
      rw [e] at h1
      have h2 : cpl n op m (sB (cs f (n - ((m + 1 : Nat) : Int)).toNat) (f (((n - ((m + 1 : Nat) : Int)).toNat : Nat) : Int))) := h1
      rw [hk] at h2
      have hb := hf.1 (n - ((m + 1 : Nat) : Int)) (by omega) (by omega)
      refine ⟨f (n - ((m + 1 : Nat) : Int)), hb.1, hb.2, ?_, ho _ (by omega) (by omega), h2⟩
      cases hq : bt (cs f (n - ((m + 1 : Nat) : Int)).toNat) (f (n - ((m + 1 : Nat) : Int))) with
      | false => rfl
      | true =>
        obtain ⟨i, a1, a2, a3⟩ := (bt_cs (fun i a b => (hf.1 i a (by omega)).1) hb.1).mp hq
        exact absurd a3 (hf.2 i _ a1 (by omega) (by omega))
  have := key n.toNat (by omega)
  rw [show (n - ((n.toNat : Nat) : Int)).toNat = 0 by omega] at this
  exact this
theorem lexCh_perm {n : Int} {op : Int → Int → Prop} {ch : Int → Int} (h : lexCh n op ch) : perm n ch ∧ ∀ i, 0 ≤ i → i < n → op (pc (cs ch i.toNat)) (ch i) := by
  refine ⟨⟨fun i a b => ⟨(h i a b).1, (h i a b).2.1⟩, fun i k a b c q => ?_⟩, fun i a b => (h i a b).2.2.1.2.1⟩
  have h1 := (h k (by omega) c).2.2.1.1
  have h2 : bt (cs ch k.toNat) (ch k) = true := (bt_cs (fun j x y => (h j x (by omega)).1) (h k (by omega) c).1).mpr ⟨i, a, by omega, q⟩
  rw [h1] at h2
  cases h2
theorem lexCh_pc {n : Int} {op : Int → Int → Prop} {ch : Int → Int} (hn : n ≤ 8) (h : lexCh n op ch) : ∀ i : Nat, (i : Int) ≤ n → 0 ≤ cs ch i ∧ cs ch i < p2 n ∧ pc (cs ch i) = i := by
  intro i
  induction i with
  | zero => intro h0; exact ⟨Int.le_refl _, by show (0 : Int) < p2 n; exact Int.lt_of_lt_of_le (by decide) (bit2 (n := n) (by omega)).2.1, by show pc 0 = 0; simp [pc]⟩
  | succ i ih =>
    intro hi
    obtain ⟨h1, h2, h3⟩ := ih (by omega)
    have hh := h i (by omega) (by omega)
    have h4 := (bit2 (n := n) (by omega)).2.2.1
    rw [Int.toNat_natCast] at hh
    obtain ⟨l1, l2⟩ := sB_lt (s := cs ch i) (j := ch i) (n := n) ⟨h1, h2⟩ ⟨hh.1, hh.2.1⟩
    have h5 := (bitC (s := cs ch i) (j := ch i) ⟨h1, by omega⟩ ⟨hh.1, by omega⟩ hh.2.2.1.1).1
    refine ⟨l1, l2, ?_⟩
    have h6 : cs ch (i + 1) = sB (cs ch i) (ch i) := rfl
    rw [h6]
    omega
theorem s2_sm (f : Int → Int) : ∀ n : Nat, s2 (fun k => f (k : Int)) n = sm f n
  | 0 => rfl
  | n + 1 => by
    show s2 (fun k => f (k : Int)) n + f n = sm f n + f n
    rw [s2_sm f n]
/-- an even table of numbers -/
def EvW (n : Int) (w : Int → Int → Int) (m : Int) : Prop := (∀ i j, 0 ≤ i → i < n → 0 ≤ j → j < n → 0 ≤ w i j) ∧ (∀ i, 0 ≤ i → i < n → sm (fun j => w i j) n.toNat = m) ∧ (∀ j, 0 ≤ j → j < n → sm (fun i => w i j) n.toNat = m)
/-- there is a choice of cells above 0, through a cell above 0 where one is told -/
theorem birk {n : Int} {w : Int → Int → Int} {m : Int} (h : EvW n w m) (hm : 0 < m) (hn : 0 ≤ n) : ∃ f, perm n f ∧ ∀ i, 0 ≤ i → i < n → 0 < w i (f i) := by
  obtain ⟨h1, h2, h3⟩ := h
  obtain ⟨f, hf⟩ := hall (n := n.toNat) (w := fun r c => w r c) (A := fun _ => true) (B := fun _ => true) (e := fun _ => 0) (m := m) (fun r c a b => h1 r c (by omega) (by omega) (by omega) (by omega)) (fun r _ => Int.le_refl _)
    (fun r a _ => by simp only [if_true]; rw [s2_sm (fun c => w r c), h2 r (by omega) (by omega)]; omega) (fun c a _ => by simp only [if_true]; rw [s2_sm (fun r => w r c), h3 c (by omega) (by omega)]; omega) (by simp only [if_true]; rw [s2_0]; exact hm)
  refine ⟨fun i => (f i.toNat : Int), ⟨fun i a b => ?_, fun i k a b c q => ?_⟩, fun i a b => ?_⟩
  · have := (hf.1 i.toNat (by omega) rfl).1
    dsimp only
    exact ⟨by omega, by omega⟩
  · have := hf.2 i.toNat k.toNat (by omega) (by omega) rfl rfl (by dsimp only at q; omega)
    omega
  · have := (hf.1 i.toNat (by omega) rfl).2
    simp at this
    rwa [show max i 0 = i by omega] at this
theorem birk2 {n : Int} {w : Int → Int → Int} {m i0 j0 : Int} (h : EvW n w m) (hi : 0 ≤ i0 ∧ i0 < n) (hj : 0 ≤ j0 ∧ j0 < n) (hp : 0 < w i0 j0) : ∃ f, perm n f ∧ f i0 = j0 ∧ ∀ i, 0 ≤ i → i < n → 0 < w i (f i) := by
  obtain ⟨h1, h2, h3⟩ := h
  obtain ⟨N, eN⟩ : ∃ N : Nat, (N : Int) = n := ⟨n.toNat, by omega⟩
  obtain ⟨a, ea⟩ : ∃ N : Nat, (N : Int) = i0 := ⟨i0.toNat, by omega⟩
  obtain ⟨b, eb⟩ : ∃ N : Nat, (N : Int) = j0 := ⟨j0.toNat, by omega⟩
  subst eN; subst ea; subst eb
  simp only [Int.toNat_natCast] at h2 h3
  have hrow : ∀ r : Nat, r < N → s2 (fun c => w r c) N = m := fun r hr => by rw [s2_sm (fun c => w r c)]; exact h2 r (by omega) (by omega)
  have hcol : ∀ c : Nat, c < N → s2 (fun r => w r c) N = m := fun c hc => by rw [s2_sm (fun r => w r c)]; exact h3 c (by omega) (by omega)
  have hnn : ∀ r c : Nat, r < N → c < N → 0 ≤ w r c := fun r c x y => h1 r c (by omega) (by omega) (by omega) (by omega)
  obtain ⟨f, hf⟩ := hall (n := N) (w := fun r c => w r c) (A := fun r => decide (r ≠ a)) (B := fun c => decide (c ≠ b)) (e := fun r => w r b) (m := m) hnn (fun r x => hnn r b x (by omega))
    (fun r x _ => by
      have e1 : s2 (fun c => if decide (c ≠ b) = true then w r c else 0) N = s2 (fun c => w r c - (if c = b then w r c else 0)) N := s2_cg (fun c _ => by
        by_cases q : c = b
        · simp [q]
        · simp [q])
      rw [e1, s2_sub, s2_one (fun c => w r c) (by omega), hrow r x]
      exact Int.le_refl _)
    (fun c x _ => by
      rw [← hcol c x]
      exact s2_le (fun r y => by split; exact Int.le_refl _; exact hnn r c y x))
    (by
      have e1 : s2 (fun r => if decide (r ≠ a) = true then w r b else 0) N = s2 (fun r => w r b - (if r = a then w r b else 0)) N := s2_cg (fun r _ => by
        by_cases q : r = a
        · simp [q]
        · simp [q])
      rw [e1, s2_sub, s2_one (fun r => w r b) (by omega), hcol b (by omega)]
      omega)
  refine ⟨fun i => if i = a then b else (f i.toNat : Int), ⟨fun i x y => ?_, fun i k x y z q => ?_⟩, if_pos rfl, fun i x y => ?_⟩
  · dsimp only
    split
    · exact ⟨by omega, by omega⟩
    · next q =>
      have := (hf.1 i.toNat (by omega) (by simp; omega)).1
      exact ⟨by omega, by omega⟩
  · dsimp only at q
    have nb : ∀ i : Int, 0 ≤ i → i < N → i ≠ a → (f i.toNat : Int) ≠ b := fun i x y z => by
      have := (hf.1 i.toNat (by omega) (by simp; omega)).2
      simp at this
      have := this.2
      omega
    by_cases q1 : i = a
    · rw [if_pos q1, if_neg (by omega)] at q
      exact nb k (by omega) z (by omega) q.symm
    · by_cases q2 : k = a
      · rw [if_neg q1, if_pos q2] at q
        exact nb i x (by omega) q1 q
      · rw [if_neg q1, if_neg q2] at q
        have := hf.2 i.toNat k.toNat (by omega) (by omega) (by simp; omega) (by simp; omega) (by omega)
        omega
  · dsimp only
    split
    · next q => rw [q]; exact hp
    · next q =>
      have := (hf.1 i.toNat (by omega) (by simp; omega)).2
      simp at this
      have h9 := this.1
      rwa [show max i 0 = i by omega] at h9
/-- every column has one row -/
theorem perm_col {n : Int} {f : Int → Int} (hn : 0 ≤ n) (h : perm n f) (v : Int) {j : Int} (hj : 0 ≤ j ∧ j < n) : sm (fun i => if f i = j then v else 0) n.toNat = v := by
  obtain ⟨N, eN⟩ : ∃ N : Nat, (N : Int) = n := ⟨n.toNat, by omega⟩
  subst eN
  rw [Int.toNat_natCast, ← s2_sm]
  have cnt1 : ∀ c : Nat, c < N → s2 (fun i : Nat => if f i = c then (1 : Int) else 0) N ≤ 1 := by
    intro c hc
    by_cases q : ∃ i : Nat, i < N ∧ f i = c
    · obtain ⟨i, a1, a2⟩ := q
      have : s2 (fun k : Nat => if f k = c then (1 : Int) else 0) N = s2 (fun k => if k = i then (1 : Int) else 0) N := s2_cg (fun k hk => by
        by_cases z : k = i
        · rw [if_pos z, z, if_pos a2]
        · rw [if_neg z, if_neg]
          intro y
          rcases Nat.lt_or_ge k i with w | w
          · exact h.2 k i (by omega) (by omega) (by omega) (by rw [y, a2])
          · exact h.2 i k (by omega) (by omega) (by omega) (by rw [y, a2]))
      rw [this, s2_one (fun _ => 1) a1]
      exact Int.le_refl _
    · have : s2 (fun k : Nat => if f k = c then (1 : Int) else 0) N = s2 (fun _ => 0) N := s2_cg (fun k hk => if_neg (fun y => q ⟨k, hk, y⟩))
      rw [this, s2_0]
      decide
  have tot : s2 (fun c : Nat => s2 (fun i : Nat => if f i = c then (1 : Int) else 0) N) N = s2 (fun _ => 1) N := by
    rw [s2_swap (fun c i : Nat => if f i = c then (1 : Int) else 0) N N]
    refine s2_cg (fun i hi => ?_)
    have hb := h.1 i (by omega) (by omega)
    have : s2 (fun c : Nat => if f i = c then (1 : Int) else 0) N = s2 (fun c => if c = (f i).toNat then (1 : Int) else 0) N := s2_cg (fun c hc => by
      by_cases z : f i = c
      · rw [if_pos z, if_pos (by omega)]
      · rw [if_neg z, if_neg (by omega)])
    rw [this, s2_one (fun _ => 1) (by omega)]
  have one : ∀ c : Nat, c < N → s2 (fun i : Nat => if f i = c then (1 : Int) else 0) N = 1 := by
    intro c hc
    have h1 := cnt1 c hc
    have h2 : s2 (fun c' : Nat => s2 (fun i : Nat => if f i = c' then (1 : Int) else 0) N) N ≤ s2 (fun c' => (1 : Int) - (if c' = c then (1 - s2 (fun i : Nat => if f i = c' then (1 : Int) else 0) N) else 0)) N := s2_le (fun c' hc' => by
      split
      · omega
      · have := cnt1 c' hc'; omega)
    rw [s2_sub, s2_one (fun c' => 1 - s2 (fun i : Nat => if f i = c' then (1 : Int) else 0) N) hc, tot] at h2
    omega
  have e := one j.toNat (by omega)
  have e2 : s2 (fun i : Nat => if f i = j then v else 0) N = s2 (fun i : Nat => (if f i = ((j.toNat : Nat) : Int) then (1 : Int) else 0) * v) N := s2_cg (fun i hi => by
    by_cases z : f i = j
    · rw [if_pos z, if_pos (by omega)]; omega
    · rw [if_neg z, if_neg (by omega)]; omega)
  rw [e2, s2_mul, e]
  omega
end
section
def wo (σ : eS) (s n j : Int) : eS := fun c k => if c = 0 ∧ k = 22 then n else if c = 9 ∧ 0 ≤ k ∧ k < j then σ 3 (64 * s + k) else σ c k
theorem wo_0 (σ : eS) (s n : Int) : up σ 0 22 n = wo σ s n 0 := by
  funext c k
  simp only [up_if, wo]
  by_cases h : c = 0 ∧ k = 22
  · rw [if_pos h, if_pos h]
  · rw [if_neg h, if_neg h, if_neg (by omega)]
theorem wo_s {σ : eS} {s n j : Int} (h : 0 ≤ j) : up (wo σ s n j) 9 j (σ 3 (64 * s + j)) = wo σ s n (j + 1) := by
  funext c k
  simp only [up_if, wo]
  by_cases h1 : c = 9 ∧ k = j
  · rw [if_pos h1, if_neg (by omega), if_pos ⟨h1.1, by omega, by omega⟩, h1.2]
  · rw [if_neg h1]
    by_cases h2 : c = 0 ∧ k = 22
    · rw [if_pos h2, if_pos h2]
    · rw [if_neg h2, if_neg h2]
      by_cases h3 : c = 9 ∧ 0 ≤ k ∧ k < j
      · rw [if_pos h3, if_pos ⟨h3.1, by omega, by omega⟩]
      · rw [if_neg h3, if_neg (by omega)]
theorem s_Mo_worksOn {σ : eS} {s : Int} (hB : iB1 σ) (hs : tabB σ s) : MtV shB M_Mo_worksOn [vr 0, vi s] σ (fun σ' => σ' = wo σ s (σ 1 s) (σ 1 s * σ 1 s)) := by
  refine Mt.of okM_Mo_worksOn (Nat.le_of_ble_eq_true rfl) (fun hk hg => ?_)
  obtain ⟨s1, s2, s3⟩ := id hs
  obtain ⟨g1, g2, -⟩ := hB.1 s s1 s2
  obtain ⟨n, en⟩ : ∃ x, x = σ 1 s := ⟨_, rfl⟩
  rw [← en] at s3 g1 g2 ⊢
  obtain ⟨q1, q2⟩ := sq8 (n := n) ⟨by omega, by omega⟩
  refine ok_aload_n 0 rfl rfl rfl (ok_aload_n 1 rfl rfl rfl (ok_getR 2 rfl rfl fl_X12_7 rfl rfl (ok_iload_n 3 rfl rfl rfl (ok_iald 4 rfl rfl rfl (by first | omega | (simp [up_if]; omega) | (simp [up_if] at *; omega)) (ok_putI 5 rfl rfl fl_X12_234 rfl rfl rfl rfl ?_)))))
  rw [← en, wo_0 σ s n]
  refine ok_iconst 6 rfl rfl (by decide) (ok_ist2 7 rfl rfl rfl ?_)
  refine lpO (fun j : Int => [some (vr 0), some (vi s), some (vi j)]) (fun j => wo σ s n j) (fun j => 0 ≤ j ∧ j ≤ n * n) (fun j => (n * n - j).toNat) ?_ 0 ⟨by omega, by omega⟩
  rintro j ⟨j1, j2⟩ ih
  have e22 : wo σ s n j 0 22 = n := by simp [wo]
  have e3 : ∀ k, wo σ s n j 3 k = σ 3 k := fun k => by simp [wo]
  refine ok_iload_n 8 rfl rfl rfl (ok_aload_n 9 rfl rfl rfl (ok_getI 10 rfl rfl fl_X12_234 rfl rfl (Or.inl rfl) (ok_aload_n 11 rfl rfl rfl (ok_getI 12 rfl rfl fl_X12_234 rfl rfl (Or.inl rfl) (ok_imul 13 rfl rfl (by rw [e22]; omega) ?_)))))
  rw [e22]
  refine ok_icmp_ge 14 48 rfl rfl rfl (fun h22 => ?_) (fun h22 => ?_)
  · refine ok_vret 29 rfl rfl rfl ?_
    exact ⟨rfl, by rw [show j = n * n by omega]⟩
  · refine ok_aload_n 15 rfl rfl rfl (ok_getR 16 rfl rfl fl_X12_39 rfl rfl (ok_iload_n 17 rfl rfl rfl (ok_aload_n 18 rfl rfl rfl (ok_getR 19 rfl rfl fl_X12_16 rfl rfl (ok_bipush 20 rfl rfl (by decide) (by decide) (ok_iload_n 21 rfl rfl rfl (ok_imul 22 rfl rfl (by first | omega | (simp [up_if]; omega) | (simp [up_if] at *; omega)) (ok_iload_n 23 rfl rfl rfl (ok_iadd 24 rfl rfl (by first | omega | (simp [up_if]; omega) | (simp [up_if] at *; omega)) (ok_iald 25 rfl rfl rfl (by first | omega | (simp [up_if]; omega) | (simp [up_if] at *; omega)) (ok_iast 26 rfl rfl rfl (by first | omega | (simp [up_if]; omega) | (simp [up_if] at *; omega)) (ok_inc2 27 rfl rfl rfl (by first | omega | (simp [up_if]; omega) | (simp [up_if] at *; omega)) (ok_goto 28 12 rfl rfl rfl ?_)))))))))))))
    rw [e3, wo_s j1]
    exact ih (j + 1) ⟨by omega, by omega⟩ (by omega)
theorem s_Mo_isLeft {σ : eS} (h : nW σ) : MtI shB M_Mo_isLeft [vr 0] σ (fun σ' z => σ' = σ ∧ ((z = 1 ∧ ∃ k, 0 ≤ k ∧ k < σ 0 22 * σ 0 22 ∧ 0 < σ 9 k) ∨ (z = 0 ∧ ∀ k, 0 ≤ k → k < σ 0 22 * σ 0 22 → σ 9 k ≤ 0))) := by
  refine Mt.of okM_Mo_isLeft (Nat.le_of_ble_eq_true rfl) (fun hk hg => ?_)
  obtain ⟨n, en⟩ : ∃ x, x = σ 0 22 := ⟨_, rfl⟩
  have hn : 1 ≤ n ∧ n ≤ 8 := by rw [en]; exact h
  obtain ⟨q1, q2⟩ := sq8 (n := n) ⟨by omega, by omega⟩
  rw [← en]
  refine ok_iconst 0 rfl rfl (by decide) (ok_ist1 1 rfl rfl rfl ?_)
  refine lpO (fun j : Int => [some (vr 0), some (vi j)]) (fun _ => σ) (fun j => 0 ≤ j ∧ j ≤ n * n ∧ ∀ k, 0 ≤ k → k < j → σ 9 k ≤ 0) (fun j => (n * n - j).toNat) ?_ 0 ⟨by omega, by omega, fun k a b => by omega⟩
  rintro j ⟨j1, j2, j3⟩ ih
  refine ok_iload_n 2 rfl rfl rfl (ok_aload_n 3 rfl rfl rfl (ok_getI 4 rfl rfl fl_X12_234 rfl rfl (Or.inl rfl) (ok_aload_n 5 rfl rfl rfl (ok_getI 6 rfl rfl fl_X12_234 rfl rfl (Or.inl rfl) (ok_imul 7 rfl rfl (by rw [← en]; omega) ?_)))))
  rw [← en]
  refine ok_icmp_ge 8 32 rfl rfl rfl (fun h12 => ?_) (fun h12 => ?_)
  · refine ok_iconst 18 rfl rfl (by decide) (ok_zret 19 rfl rfl rfl (by first | omega | (simp [up_if]; omega) | (simp [up_if] at *; omega)) ?_)
    exact ⟨_, rfl, rfl, Or.inr ⟨rfl, fun k a b => j3 k a (by omega)⟩⟩
  · refine ok_aload_n 9 rfl rfl rfl (ok_getR 10 rfl rfl fl_X12_39 rfl rfl (ok_iload_n 11 rfl rfl rfl (ok_iald 12 rfl rfl rfl (by first | omega | (simp [up_if]; omega) | (simp [up_if] at *; omega)) (ok_if_le 13 26 rfl rfl rfl (fun h21 => ?_) (fun h21 => ?_)))))
    · refine ok_inc1 16 rfl rfl rfl (by first | omega | (simp [up_if]; omega) | (simp [up_if] at *; omega)) (ok_goto 17 2 rfl rfl rfl ?_)
      exact ih (j + 1) ⟨by omega, by omega, lt_ext j3 h21⟩ (by omega)
    · refine ok_iconst 14 rfl rfl (by decide) (ok_zret 15 rfl rfl rfl (by first | omega | (simp [up_if]; omega) | (simp [up_if] at *; omega)) ?_)
      exact ⟨_, rfl, rfl, Or.inl ⟨rfl, j, j1, by omega, h21⟩⟩
/-! what the greatest sums and least cells tell -/
theorem dp_ge {n l sums : Int} {w : Int → Int → Int} {v : Int → Int} (hn : 1 ≤ n ∧ n ≤ 8) (hw : ∀ i j, 0 ≤ i → i < n → 0 ≤ j → j < n → 0 ≤ w i j) (ha : v (p2 n - 1) = (if sums = 0 then 9223372036854775807 else 0)) (hd : ∀ T, 0 ≤ T → T < p2 n - 1 → dpG n l sums w v T) :
    ∀ (m : Nat) (T : Int), 0 ≤ T → T < p2 n → (n - pc T).toNat = m → cpl n (fun i j => l ≤ w i j) m T → 0 ≤ v T ∧ (sums = 0 → 1 ≤ l → 1 ≤ v T) := by
  obtain ⟨z1, z2, z3, z4⟩ := bit2 (n := n) (by omega)
  intro m
  induction m with
  | zero =>
    intro T h1 h2 h3 _
    have : T = p2 n - 1 := by
      by_cases q : T = p2 n - 1
      · exact q
      · have := (bitL (s := T) (n := n) (by omega) (by omega)).1 (by omega); omega
    rw [this, ha]
    split
    · exact ⟨by decide, fun _ _ => by decide⟩
    · exact ⟨by decide, fun q => by omega⟩
  | succ m ih =>
    intro T h1 h2 h3 ⟨j, a1, a2, a3, a4, a5⟩
    have hp := bitL (s := T) (n := n) (by omega) (by omega)
    have hT : T < p2 n - 1 := by
      by_cases q : T = p2 n - 1
      · have := hp.2.1 q; omega
      · omega
    have hlt := hp.1 hT
    have hc := bitC (s := T) (j := j) (by omega) (by omega) a3
    have hs := sB_lt (s := T) (j := j) (n := n) ⟨h1, h2⟩ ⟨a1, a2⟩
    have e : n - ((m + 1 : Nat) : Int) = pc T := by omega
    rw [e] at a4
    have hi := ih (sB T j) hs.1 hs.2 (by omega) a5
    have hg := (hd T h1 hT).1 j a1 a2 ⟨a3, a4, hi.1⟩
    have hwn := hw (pc T) j hp.2.2.1 hlt a1 a2
    unfold cmbG at hg
    split at hg
    · next q =>
      refine ⟨by omega, fun _ hl => ?_⟩
      have := hi.2 q hl
      omega
    · next q => exact ⟨by omega, fun y => absurd y q⟩
theorem dp_le {n l : Int} {w : Int → Int → Int} {v : Int → Int} {x : Int} (hx : 1 ≤ x) (hn : 1 ≤ n ∧ n ≤ 8) (hd : ∀ T, 0 ≤ T → T < p2 n - 1 → dpG n l 0 w v T) :
    ∀ (m : Nat) (T : Int), 0 ≤ T → T < p2 n → (n - pc T).toNat = m → x ≤ v T → cpl n (fun i j => x ≤ w i j) m T := by
  obtain ⟨z1, z2, z3, z4⟩ := bit2 (n := n) (by omega)
  intro m
  induction m with
  | zero => intro T h1 h2 h3 _; trivial
  | succ m ih =>
    intro T h1 h2 h3 h4
    have hp := bitL (s := T) (n := n) (by omega) (by omega)
    have hT : T < p2 n - 1 := by
      by_cases q : T = p2 n - 1
      · have := hp.2.1 q; omega
      · omega
    have hlt := hp.1 hT
    rcases (hd T h1 hT).2 with q | ⟨j, a1, a2, a3, a4⟩
    · have := q.1; omega
    · have hc := bitC (s := T) (j := j) (by omega) (by omega) a3.1
      have hs := sB_lt (s := T) (j := j) (n := n) ⟨h1, h2⟩ ⟨a1, a2⟩
      unfold cmbG at a4
      rw [if_pos rfl] at a4
      have e : n - ((m + 1 : Nat) : Int) = pc T := by omega
      refine ⟨j, a1, a2, a3.1, ?_, ih (sB T j) hs.1 hs.2 (by omega) (by omega)⟩
      dsimp only
      rw [e]
      omega
theorem cpl_mono {n : Int} {op op' : Int → Int → Prop} (h : ∀ i j, 0 ≤ i → i < n → 0 ≤ j → j < n → op i j → op' i j) : ∀ (m : Nat) (T : Int), (m : Int) ≤ n → cpl n op m T → cpl n op' m T := by
  intro m
  induction m with
  | zero => intro T _ _; trivial
  | succ m ih =>
    intro T hm ⟨j, a1, a2, a3, a4, a5⟩
    exact ⟨j, a1, a2, a3, h _ j (by omega) (by omega) a1 a2 a4, ih _ (by omega) a5⟩
/-- a choice of cells that are so much at least -/
def chB (σ : eS) (n l : Int) (ch : Int → Int) : Prop := perm n ch ∧ ∀ i, 0 ≤ i → i < n → l ≤ wk σ i (ch i)
theorem s_Mo_chooseGreatest {σ : eS} {l : Int} (h : nW σ) (hw : wBd σ) (hl : 0 ≤ l) (hc : cpl (σ 0 22) (fun i j => l ≤ wk σ i j) (σ 0 22).toNat 0) : MtL shB M_Mo_chooseGreatest [vr 0, vi l] σ (fun σ' z => fr (fun c _ => c = 10 ∨ c = 11) σ σ' ∧ z = σ' 10 0 ∧ chB σ (σ 0 22) l (fun i => σ' 11 i)) := by
  refine Mt.of okM_Mo_chooseGreatest (Nat.le_of_ble_eq_true rfl) (fun hk hg => ?_)
  obtain ⟨n, en⟩ : ∃ x, x = σ 0 22 := ⟨_, rfl⟩
  have hn : 1 ≤ n ∧ n ≤ 8 := by rw [en]; exact h
  obtain ⟨z1, z2, z3, z4⟩ := bit2 (n := n) (by omega)
  have z4 := z4 hn.1
  rw [← en] at hc ⊢
  have hwb : ∀ i j, 0 ≤ i → i < n → 0 ≤ j → j < n → 0 ≤ wk σ i j ∧ wk σ i j ≤ 799999992 := fun i j a1 a2 a3 a4 => hw i j a1 (by omega) a3 (by omega)
  refine ok_aload_n 0 rfl rfl rfl (ok_iload_n 1 rfl rfl rfl (ok_iconst 2 rfl rfl (by decide) (ok_callVV (M' := M_Mo_laysCan) (as := [_, _]) 3 rfl rfl ml_X12_256 (s_Mo_laysCan h hw hl (Or.inr rfl)) rfl rfl (Nat.le_of_ble_eq_true rfl) ⟨Nat.le_of_ble_eq_true rfl, Nat.le_of_ble_eq_true rfl⟩ rfl (Nat.le_of_ble_eq_true rfl) (fun τ hq => ?_))))
  rw [← en] at hq
  obtain ⟨q1, q2, q3⟩ := hq
  rw [if_neg (by decide)] at q2
  have hv0 : 0 ≤ τ 10 0 := (dp_ge (sums := 1) (v := fun k => τ 10 k) hn (fun i j a b c d => (hwb i j a b c d).1) q2 (fun T a b => (q3 T a b).1) n.toNat 0 (by omega) (by omega) (by simp [pc]) hc).1
  refine ok_iconst 4 rfl rfl (by decide) (ok_ist2 5 rfl rfl rfl (ok_iconst 6 rfl rfl (by decide) (ok_ist3 7 rfl rfl rfl ?_)))
  refine lpO2 (fun (i : Int) (ρ : eS) => [some (vr 0), some (vi l), some (vi (cs (fun i => ρ 11 i) i.toNat)), some (vi i), none]) (fun _ ρ => ρ) (fun i ρ => 0 ≤ i ∧ i ≤ n ∧ fr (fun c _ => c = 11) τ ρ ∧ 0 ≤ cs (fun i => ρ 11 i) i.toNat ∧ cs (fun i => ρ 11 i) i.toNat < p2 n ∧ pc (cs (fun i => ρ 11 i) i.toNat) = i ∧ 0 ≤ τ 10 (cs (fun i => ρ 11 i) i.toNat) ∧ ∀ k : Int, 0 ≤ k → k < i → 0 ≤ ρ 11 k ∧ ρ 11 k < n ∧ l ≤ wk σ k (ρ 11 k) ∧ bt (cs (fun i => ρ 11 i) k.toNat) (ρ 11 k) = false) (fun i _ => (n - i).toNat) ?_ 0 τ ⟨by omega, by omega, fr.rf, Int.le_refl _, by show (0 : Int) < p2 n; omega, by show pc 0 = 0; simp [pc], hv0, fun k a b => by omega⟩
  rintro i ρ ⟨k1, k2, k3, k4, k5, k6, k7, k8⟩ ih
  obtain ⟨S, eS⟩ : ∃ x, x = cs (fun i => ρ 11 i) i.toNat := ⟨_, rfl⟩
  rw [← eS] at k4 k5 k6 k7 ⊢
  have f1 : fr (fun c _ => c = 10 ∨ c = 11) σ ρ := fun c k q => by rw [k3 c k (by omega), q1 c k (by omega)]
  have u2 : ρ 0 22 = n := by rw [f1 0 22 (by omega), en]
  have u3 : nW ρ := h.fr' (by rw [u2, en])
  have u1 : wk ρ = wk σ := by funext a b; unfold wk; rw [f1 0 22 (by omega), f1 9 _ (by omega)]
  have u10 : ∀ k, ρ 10 k = τ 10 k := fun k => k3 10 k (by omega)
  refine ok_iload_n 8 rfl rfl rfl (ok_aload_n 9 rfl rfl rfl (ok_getI 10 rfl rfl fl_X12_234 rfl rfl (Or.inl rfl) (ok_icmp_ge 11 115 rfl rfl rfl (fun h15 => ?_) (fun h15 => ?_))))
  · refine ok_aload_n 73 rfl rfl rfl (ok_getR 74 rfl rfl fl_X12_42 rfl rfl (ok_iconst 75 rfl rfl (by decide) (ok_lald 76 rfl rfl rfl (by first | omega | (simp [up_if]; omega) | (simp [up_if] at *; omega)) (ok_lret 77 rfl rfl rfl ?_))))
    refine ⟨_, rfl, f1, rfl, ⟨fun k a b => ?_, fun a b c d e q => ?_⟩, fun k a b => ?_⟩
    · have := k8 k a (by omega); exact ⟨this.1, this.2.1⟩
    · have x1 := (k8 b (by omega) (by omega)).2.2.2
      have x2 : bt (cs (fun i => ρ 11 i) b.toNat) (ρ 11 b) = true := (bt_cs (fun j x y => (k8 j x (by omega)).1) (k8 b (by omega) (by omega)).1).mpr ⟨a, c, by omega, q⟩
      rw [x1] at x2
      cases x2
    · exact (k8 k a (by omega)).2.2.1
  · refine ok_iconst 12 rfl rfl (by decide) (ok_ist4 13 rfl rfl rfl ?_)
    have hin : i < n := by omega
    have hS : S < p2 n - 1 := by
      by_cases q : S = p2 n - 1
      · have := (bitL (s := S) (n := n) (by omega) (by omega)).2.1 q; omega
      · omega
    have hex : ∃ j, 0 ≤ j ∧ j < n ∧ okG n l (wk σ) (fun k => τ 10 k) S j ∧ τ 10 S = wk σ i j + τ 10 (sB S j) := by
      rcases (q3 S k4 hS).1.2 with q | ⟨j, a1, a2, a3, a4⟩
      · have q5 : τ 10 S = -1 := q.1
        omega
      · refine ⟨j, a1, a2, a3, ?_⟩
        unfold cmbG at a4
        rw [if_neg (by decide), k6] at a4
        exact a4
    refine lpO (fun j : Int => [some (vr 0), some (vi l), some (vi S), some (vi i), some (vi j)]) (fun _ => ρ) (fun j => 0 ≤ j ∧ j < n ∧ ∀ j', 0 ≤ j' → j' < j → ¬ (okG n l (wk σ) (fun k => τ 10 k) S j' ∧ τ 10 S = wk σ i j' + τ 10 (sB S j'))) (fun j => (n - j).toNat) ?_ 0 ⟨by omega, by omega, fun j' a b => by omega⟩
    rintro j ⟨j1, j2, j3⟩ ih2
    have e1 := bitG (s := S) (j := j) (by omega) (by omega)
    have e2 := bitP (s := S) (j := j) (by omega) (by omega)
    obtain ⟨l1, l2⟩ := sB_lt (s := S) (j := j) (n := n) ⟨k4, k5⟩ ⟨j1, j2⟩
    have wb := hwb i j k1 hin j1 j2
    have nxt : ¬ (okG n l (wk σ) (fun k => τ 10 k) S j ∧ τ 10 S = wk σ i j + τ 10 (sB S j)) → Ok shB M_Mo_chooseGreatest 88 [some (vr 0), some (vi l), some (vi S), some (vi i), some (vi j)] [] ρ (fun σ' v => ∃ z, v = some (vl z) ∧ fr (fun c _ => c = 10 ∨ c = 11) σ σ' ∧ z = σ' 10 0 ∧ chB σ n l (fun i => σ' 11 i)) := by
      intro hno
      have hj : j + 1 < n := by
        obtain ⟨j', a1, a2, a3, a4⟩ := hex
        by_cases q : j' < j
        · exact absurd ⟨a3, a4⟩ (j3 j' a1 q)
        · by_cases q' : j' = j
          · rw [q'] at a3 a4; exact absurd ⟨a3, a4⟩ hno
          · omega
      clear hex
      refine ok_inc4 58 rfl rfl rfl (by first | omega | (simp [up_if]; omega) | (simp [up_if] at *; omega)) (ok_goto 59 21 rfl rfl rfl ?_)
      exact ih2 (j + 1) ⟨by omega, hj, lt_ext j3 hno⟩ (by omega)
    clear hex
    refine ok_iload_n 14 rfl rfl rfl (ok_iload 15 rfl rfl rfl (ok_ishr 16 rfl rfl (ok_iconst 17 rfl rfl (by decide) (ok_iand 18 rfl rfl ?_))))
    rw [e1]
    refine ok_iconst 19 rfl rfl (by decide) (ok_icmp_eq 20 88 rfl rfl rfl (fun h28 => ?_) (fun h28 => ?_))
    · exact nxt (fun q => by have q1 := q.1.1; rw [b1'.mp h28] at q1; cases q1)
    · have hb : bt S j = false := by
        cases hq : bt S j with
        | false => rfl
        | true => exact absurd (b1'.mpr hq) h28
      have hcp := bitC (s := S) (j := j) (by omega) (by omega) hb
      refine ok_aload_n 21 rfl rfl rfl (ok_iload_n 22 rfl rfl rfl (ok_iload 23 rfl rfl rfl (ok_callVI (M' := M_Mo_worked) (as := [_, _]) 24 rfl rfl ml_X12_244 (s_Mo_worked u3 (by omega) (by omega)) rfl rfl (Nat.le_of_ble_eq_true rfl) ⟨Nat.le_of_ble_eq_true rfl, Nat.le_of_ble_eq_true rfl⟩ rfl (Nat.le_of_ble_eq_true rfl) (fun σ' z hz => ?_))))
      rw [hz.1, hz.2, u1]; clear hz z σ'
      refine ok_iload_n 25 rfl rfl rfl (ok_icmp_lt 26 88 rfl rfl rfl (fun h39 => ?_) (fun h39 => ?_))
      · exact nxt (fun q => by have := q.1.2.1; rw [k6] at this; omega)
      · refine ok_aload_n 27 rfl rfl rfl (ok_getR 28 rfl rfl fl_X12_42 rfl rfl (ok_iload_n 29 rfl rfl rfl (ok_iconst 30 rfl rfl (by decide) (ok_iload 31 rfl rfl rfl (ok_ishl 32 rfl rfl (ok_ior 33 rfl rfl ?_))))))
        rw [e2]
        refine ok_lald 34 rfl rfl rfl (by omega) ?_
        rw [u10]
        refine ok_lconst (w := 0) 35 rfl rfl rfl (by decide) (ok_lcmp_lt 36 37 88 rfl rfl rfl rfl rfl (fun h54 => ?_) (fun h54 => ?_))
        · exact nxt (fun q => by have q9 : 0 ≤ τ 10 (sB S j) := q.1.2.2; omega)
        · have vb : τ 10 (sB S j) ≤ 6399999936 := by
            by_cases q : sB S j = p2 n - 1
            · rw [q, q2]; decide
            · have := (q3 (sB S j) l1 (by omega)).2.2; omega
          refine ok_aload_n 38 rfl rfl rfl (ok_iload_n 39 rfl rfl rfl (ok_iload 40 rfl rfl rfl (ok_callVI (M' := M_Mo_worked) (as := [_, _]) 41 rfl rfl ml_X12_244 (s_Mo_worked u3 (by omega) (by omega)) rfl rfl (Nat.le_of_ble_eq_true rfl) ⟨Nat.le_of_ble_eq_true rfl, Nat.le_of_ble_eq_true rfl⟩ rfl (Nat.le_of_ble_eq_true rfl) (fun σ' z hz => ?_))))
          rw [hz.1, hz.2, u1]; clear hz z σ'
          refine ok_i2l 42 rfl rfl (ok_aload_n 43 rfl rfl rfl (ok_getR 44 rfl rfl fl_X12_42 rfl rfl (ok_iload_n 45 rfl rfl rfl (ok_iconst 46 rfl rfl (by decide) (ok_iload 47 rfl rfl rfl (ok_ishl 48 rfl rfl (ok_ior 49 rfl rfl ?_)))))))
          rw [e2]
          refine ok_lald 50 rfl rfl rfl (by omega) ?_
          rw [u10]
          refine ok_ladd 51 rfl rfl (by first | omega | (simp [up_if]; omega) | (simp [up_if] at *; omega)) (ok_aload_n 52 rfl rfl rfl (ok_getR 53 rfl rfl fl_X12_42 rfl rfl (ok_iload_n 54 rfl rfl rfl (ok_lald 55 rfl rfl rfl (by omega) ?_))))
          rw [u10]
          refine ok_lcmp_eq 56 57 94 rfl rfl rfl rfl rfl (fun h84 => ?_) (fun h84 => ?_)
          · have hok : l ≤ wk σ i j := by omega
            refine ok_aload_n 60 rfl rfl rfl (ok_getR 61 rfl rfl fl_X12_45 rfl rfl (ok_iload_n 62 rfl rfl rfl (ok_iload 63 rfl rfl rfl (ok_iast 64 rfl rfl rfl (by first | omega | (simp [up_if]; omega) | (simp [up_if] at *; omega)) (ok_iload_n 65 rfl rfl rfl (ok_iconst 66 rfl rfl (by decide) (ok_iload 67 rfl rfl rfl (ok_ishl 68 rfl rfl (ok_ior 69 rfl rfl (ok_ist2 70 rfl rfl rfl (ok_inc3 71 rfl rfl rfl (by first | omega | (simp [up_if]; omega) | (simp [up_if] at *; omega)) (ok_goto 72 10 rfl rfl rfl ?_))))))))))))
            rw [e2]
            have ecs : ∀ k : Int, 0 ≤ k → k ≤ i → cs (fun q => up ρ 11 i j 11 q) k.toNat = cs (fun q => ρ 11 q) k.toNat := fun k a b => cs_cg (fun q a' b' => by rw [up_nk _ _ _ _ (by omega)])
            have ec1 : cs (fun q => up ρ 11 i j 11 q) (i + 1).toNat = sB S j := by
              rw [cs_s _ k1, ecs i k1 (Int.le_refl _), ← eS, up_same]
            have hfin := ih (i + 1) (up ρ 11 i j) ⟨by omega, by omega, fr_up k3 rfl, by rw [ec1]; exact l1, by rw [ec1]; exact l2, by rw [ec1]; omega, by rw [ec1]; omega, fun k a b => ?_⟩ (by omega)
            · rw [ec1] at hfin
              exact ok_fg [some (vr 0), some (vi l), some (vi (sB S j)), some (vi (i + 1)), none] ⟨rfl, rfl, rfl, rfl, trivial⟩ hfin
            · rw [ecs k a (by omega)]
              by_cases q : k = i
              · rw [q, up_same, ← eS]
                exact ⟨j1, j2, hok, hb⟩
              · rw [up_nk _ _ _ _ q]
                exact k8 k a (by omega)
          · exact nxt (fun q => h84 q.2.symm)
end
