abbrev rgM : Nat → Int → Prop := fun c k => (c = 0 ∧ k = 4) ∨ c = 1 ∨ c = 2 ∨ c = 3 ∨ c = 4
def QM (σ : eS) (σ' : eS) (z : Int) : Prop := fr rgM σ σ' ∧ iB1 σ' ∧ (z = 0 ∨ z = 1)
theorem Qtk.M {τ σ' : eS} {s n z : Int} (hB : iB1 τ) (hs : 0 ≤ s ∧ s < 4) (hn : 0 ≤ n ∧ n ≤ 8) (hb : 1 ≤ τ 0 4) (hf : ∀ k, 0 ≤ k → k < n * n → 0 ≤ τ 4 k) (h : Qtk τ s n σ' z) : QM τ σ' z := by
  rcases h with ⟨hz, rfl, -⟩ | ⟨hz, rfl, hft⟩
  · exact ⟨fr.rf, hB, Or.inl hz⟩
  · refine ⟨fun c k q => ?_, ?_, Or.inr hz⟩
    · simp only [rgM] at q
      simp only [tw]
      rw [if_neg (by omega), if_neg (by omega), if_neg (by omega)]
    · obtain ⟨gp, gl⟩ := gF_bd hb (n * n).toNat
      refine tw_B hB hs hn (fun q => ?_) (fun k a b => ?_)
      · rw [if_neg (by omega)]
        exact ⟨(gcd_div hb gp gl).1, hft.1⟩
      · exact ⟨Int.ediv_nonneg (hf k a b) (by omega), hft.2 k a b⟩
theorem QM.tr {σ τ σ' : eS} {z : Int} (f : fr rgM σ τ) (h : QM τ σ' z) : QM σ σ' z := ⟨f.tr h.1, h.2⟩
theorem s_Mo_isPart {σ : eS} {x y : Int} : MtI shB M_Mo_isPart [vi x, vi y] σ (fun σ' z => σ' = σ ∧ ((z = 1 ∧ 0 ≤ x ∧ x ≤ 9999 ∧ 1 ≤ y ∧ y ≤ 9999) ∨ (z = 0 ∧ ¬ (0 ≤ x ∧ x ≤ 9999 ∧ 1 ≤ y ∧ y ≤ 9999)))) := by
  refine Mt.of okM_Mo_isPart (Nat.le_of_ble_eq_true rfl) (fun hk hg => ?_)
  refine ok_iload_n 0 rfl rfl rfl (ok_i2l 1 rfl rfl (ok_lconst (w := 0) 2 rfl rfl rfl (by decide) (ok_ldc2 3 (9999) rfl rfl kc_X12_215 (by decide) (ok_callSI (M' := M_Mo_isIn) (as := [_, _, _]) 4 rfl rfl ml_X12_99 (s_Mo_isIn) ⟨Nat.le_of_ble_eq_true rfl, Nat.le_of_ble_eq_true rfl⟩ rfl (Nat.le_of_ble_eq_true rfl) (fun σ' z1 h1 => ?_)))))
  obtain ⟨hs_, h1⟩ := h1
  rw [hs_]; clear hs_ σ'
  refine ok_if_eq 5 28 rfl rfl rfl (fun h9 => ?_) (fun h9 => ?_)
  · refine ok_iconst 14 rfl rfl (by decide) (ok_zret 15 rfl rfl rfl (by first | omega | (simp [up_if]; omega) | (simp [up_if] at *; omega)) ?_)
    refine ⟨_, rfl, rfl, ?_⟩
    first | (split at h1 <;> split at h2 <;> omega) | (split at h1 <;> omega)
  · refine ok_iload_n 6 rfl rfl rfl (ok_i2l 7 rfl rfl (ok_lconst (w := 1) 8 rfl rfl rfl (by decide) (ok_ldc2 9 (9999) rfl rfl kc_X12_215 (by decide) (ok_callSI (M' := M_Mo_isIn) (as := [_, _, _]) 10 rfl rfl ml_X12_99 (s_Mo_isIn) ⟨Nat.le_of_ble_eq_true rfl, Nat.le_of_ble_eq_true rfl⟩ rfl (Nat.le_of_ble_eq_true rfl) (fun σ' z2 h2 => ?_)))))
    obtain ⟨hs_, h2⟩ := h2
    rw [hs_]; clear hs_ σ'
    refine ok_if_eq 11 28 rfl rfl rfl (fun h21 => ?_) (fun h21 => ?_)
    · refine ok_iconst 14 rfl rfl (by decide) (ok_zret 15 rfl rfl rfl (by first | omega | (simp [up_if]; omega) | (simp [up_if] at *; omega)) ?_)
      refine ⟨_, rfl, rfl, ?_⟩
      first | (split at h1 <;> split at h2 <;> omega) | (split at h1 <;> omega)
    · refine ok_iconst 12 rfl rfl (by decide) (ok_goto 13 29 rfl rfl rfl (ok_zret 15 rfl rfl rfl (by first | omega | (simp [up_if]; omega) | (simp [up_if] at *; omega)) ?_))
      refine ⟨_, rfl, rfl, ?_⟩
      first | (split at h1 <;> split at h2 <;> omega) | (split at h1 <;> omega)
theorem s_Mo_grown {σ : eS} {b c : Int} (hb : 0 ≤ b ∧ b ≤ 99999999999999) (hc : 0 ≤ c ∧ c ≤ 99999999) : MtL shB M_Mo_grown [vl b, vl c] σ (fun σ' z => σ' = σ ∧ ((z = -1 ∧ 1000000000000000 < b * c) ∨ (z = b * c ∧ b * c ≤ 1000000000000000 ∧ 0 ≤ b * c))) := by
  refine Mt.of okM_Mo_grown (Nat.le_of_ble_eq_true rfl) (fun hk hg => ?_)
  obtain ⟨m1, m2⟩ := mul_bd hb hc
  refine ok_lload_n 0 rfl rfl rfl (ok_lconst (w := 0) 1 rfl rfl rfl (by decide) (ok_lcmp_le 2 3 22 rfl rfl rfl rfl rfl (fun h2 => ?_) (fun h2 => ?_)))
  · refine ok_lload_n 12 rfl rfl rfl (ok_lload_n 13 rfl rfl rfl (ok_lmul 14 rfl rfl (by rw [show c = 0 by omega]; omega) (ok_lret 15 rfl rfl rfl ?_)))
    exact ⟨_, rfl, rfl, Or.inr ⟨rfl, by rw [show c = 0 by omega]; omega, by omega⟩⟩
  · refine ok_lload_n 4 rfl rfl rfl (ok_ldc2 5 (1000000000000000) rfl rfl kc_X12_217 (by decide) (ok_lload_n 6 rfl rfl rfl (ok_ldiv 7 rfl rfl (by omega) (by omega) (ok_lcmp_le 8 9 22 rfl rfl rfl rfl rfl (fun h12 => ?_) (fun h12 => ?_)))))
    · have hm : b * c ≤ 1000000000000000 := by
        have := (Int.le_ediv_iff_mul_le (by omega : 0 < c)).mp h12
        omega
      refine ok_lload_n 12 rfl rfl rfl (ok_lload_n 13 rfl rfl rfl (ok_lmul 14 rfl rfl (by first | omega | (simp [up_if]; omega) | (simp [up_if] at *; omega)) (ok_lret 15 rfl rfl rfl ?_)))
      exact ⟨_, rfl, rfl, Or.inr ⟨rfl, hm, by omega⟩⟩
    · refine ok_ldc2 10 (-1) rfl rfl kc_X12_219 (by decide) (ok_goto 11 25 rfl rfl rfl (ok_lret 15 rfl rfl rfl ?_))
      exact ⟨_, rfl, rfl, Or.inl ⟨rfl, Int.not_le.mp (fun q => by
        have := (Int.le_ediv_iff_mul_le (by omega : 0 < c)).mpr q
        omega)⟩⟩
theorem s_Mo_behind {σ : eS} {k r n : Int} (h : 0 ≤ k ∧ k < n ∧ n ≤ 8 ∧ 0 ≤ r ∧ r < n) : MtI shB M_Mo_behind [vi k, vi r, vi n] σ (fun σ' z => σ' = σ ∧ z = if k < r then k else if k = r then n - 1 else k - 1) := by
  refine Mt.of okM_Mo_behind (Nat.le_of_ble_eq_true rfl) (fun hk hg => ?_)
  refine ok_iload_n 0 rfl rfl rfl (ok_iload_n 1 rfl rfl rfl (ok_icmp_ge 2 9 rfl rfl rfl (fun h2 => ?_) (fun h2 => ?_)))
  · refine ok_iload_n 5 rfl rfl rfl (ok_iload_n 6 rfl rfl rfl (ok_icmp_ne 7 20 rfl rfl rfl (fun h11 => ?_) (fun h11 => ?_)))
    · refine ok_iload_n 12 rfl rfl rfl (ok_iconst 13 rfl rfl (by decide) (ok_isub 14 rfl rfl (by first | omega | (simp [up_if]; omega) | (simp [up_if] at *; omega)) (ok_iret 15 rfl rfl rfl ?_)))
      refine ⟨_, rfl, rfl, ?_⟩
      first | rw [if_pos (by omega)] | rw [if_neg (by omega), if_pos (by omega)] | rw [if_neg (by omega), if_neg (by omega)]
    · refine ok_iload_n 8 rfl rfl rfl (ok_iconst 9 rfl rfl (by decide) (ok_isub 10 rfl rfl (by first | omega | (simp [up_if]; omega) | (simp [up_if] at *; omega)) (ok_goto 11 23 rfl rfl rfl (ok_iret 15 rfl rfl rfl ?_))))
      refine ⟨_, rfl, rfl, ?_⟩
      first | rw [if_pos (by omega)] | rw [if_neg (by omega), if_pos (by omega)] | rw [if_neg (by omega), if_neg (by omega)]
  · refine ok_iload_n 3 rfl rfl rfl (ok_goto 4 23 rfl rfl rfl (ok_iret 15 rfl rfl rfl ?_))
    refine ⟨_, rfl, rfl, ?_⟩
    first | rw [if_pos (by omega)] | rw [if_neg (by omega), if_pos (by omega)] | rw [if_neg (by omega), if_neg (by omega)]
theorem iB1_M {σ τ : eS} (h : iB1 σ) (f : fr (fun c k => (c = 0 ∧ k = 4) ∨ c = 4) σ τ) (g : ∀ k : Int, 0 ≤ k → k < 64 → 0 ≤ τ 4 k) : iB1 τ ∧ ∀ t, τ 1 t = σ 1 t ∧ τ 2 t = σ 2 t :=
  ⟨⟨fun t a b => by rw [f 1 t (by omega), f 2 t (by omega)]; exact h.1 t a b, fun k a b => by rw [f 3 k (by omega)]; exact h.2.1 k a b, g⟩, fun t => ⟨f 1 t (by omega), f 2 t (by omega)⟩⟩
theorem s_Mo_times {σ : eS} {s o t : Int} (hB : iB1 σ) : MtI shB M_Mo_times [vr 0, vi s, vi o, vi t] σ (QM σ) := by
  refine Mt.of okM_Mo_times (Nat.le_of_ble_eq_true rfl) (fun hk hg => ?_)
  by_cases hs : tabB σ s
  rotate_left
  · refine ok_aload_n 0 rfl rfl rfl (ok_iload_n 1 rfl rfl rfl (ok_callVI (M' := M_Mo_isTable) (as := [_]) 2 rfl rfl ml_X12_111 (s_Mo_isTable_n hs) rfl rfl (Nat.le_of_ble_eq_true rfl) ⟨Nat.le_of_ble_eq_true rfl, Nat.le_of_ble_eq_true rfl⟩ rfl (Nat.le_of_ble_eq_true rfl) (fun σ' z hz => ?_)))
    rw [hz.1, hz.2]
    clear hz z σ'
    refine ok_if_eq 3 38 rfl rfl rfl (fun h5 => ?_) (fun h5 => ?_)
    · refine ok_iconst 20 rfl rfl (by decide) (ok_zret 21 rfl rfl rfl (by first | omega | (simp [up_if]; omega) | (simp [up_if] at *; omega)) ?_)
      exact ⟨_, rfl, fr.rf, hB, Or.inl rfl⟩
    · omega
  by_cases ho : tabB σ o
  rotate_left
  · refine ok_aload_n 0 rfl rfl rfl (ok_iload_n 1 rfl rfl rfl (ok_callVI (M' := M_Mo_isTable) (as := [_]) 2 rfl rfl ml_X12_111 (s_Mo_isTable_y hs) rfl rfl (Nat.le_of_ble_eq_true rfl) ⟨Nat.le_of_ble_eq_true rfl, Nat.le_of_ble_eq_true rfl⟩ rfl (Nat.le_of_ble_eq_true rfl) (fun σ' z hz => ?_)))
    rw [hz.1, hz.2]
    clear hz z σ'
    refine ok_if_eq 3 38 rfl rfl rfl (fun h5 => ?_) (fun h5 => ?_)
    · omega
    · refine ok_aload_n 4 rfl rfl rfl (ok_iload_n 5 rfl rfl rfl (ok_callVI (M' := M_Mo_isTable) (as := [_]) 6 rfl rfl ml_X12_111 (s_Mo_isTable_n ho) rfl rfl (Nat.le_of_ble_eq_true rfl) ⟨Nat.le_of_ble_eq_true rfl, Nat.le_of_ble_eq_true rfl⟩ rfl (Nat.le_of_ble_eq_true rfl) (fun σ' z hz => ?_)))
      rw [hz.1, hz.2]
      clear hz z σ'
      refine ok_if_eq 7 38 rfl rfl rfl (fun h13 => ?_) (fun h13 => ?_)
      · refine ok_iconst 20 rfl rfl (by decide) (ok_zret 21 rfl rfl rfl (by first | omega | (simp [up_if]; omega) | (simp [up_if] at *; omega)) ?_)
        exact ⟨_, rfl, fr.rf, hB, Or.inl rfl⟩
      · omega
  by_cases ht : 0 ≤ t ∧ t < 4
  rotate_left
  · refine ok_aload_n 0 rfl rfl rfl (ok_iload_n 1 rfl rfl rfl (ok_callVI (M' := M_Mo_isTable) (as := [_]) 2 rfl rfl ml_X12_111 (s_Mo_isTable_y hs) rfl rfl (Nat.le_of_ble_eq_true rfl) ⟨Nat.le_of_ble_eq_true rfl, Nat.le_of_ble_eq_true rfl⟩ rfl (Nat.le_of_ble_eq_true rfl) (fun σ' z hz => ?_)))
    rw [hz.1, hz.2]
    clear hz z σ'
    refine ok_if_eq 3 38 rfl rfl rfl (fun h5 => ?_) (fun h5 => ?_)
    · omega
    · refine ok_aload_n 4 rfl rfl rfl (ok_iload_n 5 rfl rfl rfl (ok_callVI (M' := M_Mo_isTable) (as := [_]) 6 rfl rfl ml_X12_111 (s_Mo_isTable_y ho) rfl rfl (Nat.le_of_ble_eq_true rfl) ⟨Nat.le_of_ble_eq_true rfl, Nat.le_of_ble_eq_true rfl⟩ rfl (Nat.le_of_ble_eq_true rfl) (fun σ' z hz => ?_)))
      rw [hz.1, hz.2]
      clear hz z σ'
      refine ok_if_eq 7 38 rfl rfl rfl (fun h13 => ?_) (fun h13 => ?_)
      · omega
      · refine ok_iload_n 8 rfl rfl rfl (ok_callSI (M' := M_Mo_isSlot) (as := [_]) 9 rfl rfl ml_X12_103 (s_Mo_isSlot_n ht) ⟨Nat.le_of_ble_eq_true rfl, Nat.le_of_ble_eq_true rfl⟩ rfl (Nat.le_of_ble_eq_true rfl) (fun σ' z hz => ?_))
        rw [hz.1, hz.2]
        clear hz z σ'
        refine ok_if_eq 10 38 rfl rfl rfl (fun h20 => ?_) (fun h20 => ?_)
        · refine ok_iconst 20 rfl rfl (by decide) (ok_zret 21 rfl rfl rfl (by first | omega | (simp [up_if]; omega) | (simp [up_if] at *; omega)) ?_)
          exact ⟨_, rfl, fr.rf, hB, Or.inl rfl⟩
        · omega
  obtain ⟨s1, s2, s3⟩ := id hs
  obtain ⟨o1, o2, o3⟩ := id ho
  obtain ⟨n, en⟩ : ∃ x, x = σ 1 s := ⟨_, rfl⟩
  obtain ⟨g1, g2, g3⟩ := hB.1 s s1 s2
  obtain ⟨k1, k2, k3⟩ := hB.1 o o1 o2
  obtain ⟨x1, x2⟩ := sq8 (n := n) ⟨by omega, by omega⟩
  refine ok_aload_n 0 rfl rfl rfl (ok_iload_n 1 rfl rfl rfl (ok_callVI (M' := M_Mo_isTable) (as := [_]) 2 rfl rfl ml_X12_111 (s_Mo_isTable_y hs) rfl rfl (Nat.le_of_ble_eq_true rfl) ⟨Nat.le_of_ble_eq_true rfl, Nat.le_of_ble_eq_true rfl⟩ rfl (Nat.le_of_ble_eq_true rfl) (fun σ' z hz => ?_)))
  rw [hz.1, hz.2]
  clear hz z σ'
  refine ok_if_eq 3 38 rfl rfl rfl (fun h5 => ?_) (fun h5 => ?_)
  · omega
  · refine ok_aload_n 4 rfl rfl rfl (ok_iload_n 5 rfl rfl rfl (ok_callVI (M' := M_Mo_isTable) (as := [_]) 6 rfl rfl ml_X12_111 (s_Mo_isTable_y ho) rfl rfl (Nat.le_of_ble_eq_true rfl) ⟨Nat.le_of_ble_eq_true rfl, Nat.le_of_ble_eq_true rfl⟩ rfl (Nat.le_of_ble_eq_true rfl) (fun σ' z hz => ?_)))
    rw [hz.1, hz.2]
    clear hz z σ'
    refine ok_if_eq 7 38 rfl rfl rfl (fun h13 => ?_) (fun h13 => ?_)
    · omega
    · refine ok_iload_n 8 rfl rfl rfl (ok_callSI (M' := M_Mo_isSlot) (as := [_]) 9 rfl rfl ml_X12_103 (s_Mo_isSlot_y ht) ⟨Nat.le_of_ble_eq_true rfl, Nat.le_of_ble_eq_true rfl⟩ rfl (Nat.le_of_ble_eq_true rfl) (fun σ' z hz => ?_))
      rw [hz.1, hz.2]
      clear hz z σ'
      refine ok_if_eq 10 38 rfl rfl rfl (fun h20 => ?_) (fun h20 => ?_)
      · omega
      · refine ok_aload_n 11 rfl rfl rfl (ok_getR 12 rfl rfl fl_X12_7 rfl rfl (ok_iload_n 13 rfl rfl rfl (ok_iald 14 rfl rfl rfl (by first | omega | (simp [up_if]; omega) | (simp [up_if] at *; omega)) (ok_aload_n 15 rfl rfl rfl (ok_getR 16 rfl rfl fl_X12_7 rfl rfl (ok_iload_n 17 rfl rfl rfl (ok_iald 18 rfl rfl rfl (by first | omega | (simp [up_if]; omega) | (simp [up_if] at *; omega)) (ok_icmp_eq 19 40 rfl rfl rfl (fun h35 => ?_) (fun h35 => ?_)))))))))
        · refine ok_aload_n 22 rfl rfl rfl (ok_getR 23 rfl rfl fl_X12_7 rfl rfl (ok_iload_n 24 rfl rfl rfl (ok_iald 25 rfl rfl rfl (by first | omega | (simp [up_if]; omega) | (simp [up_if] at *; omega)) (ok_ist4 26 rfl rfl rfl (ok_iconst 27 rfl rfl (by decide) (ok_ist5 28 rfl rfl rfl ?_))))))
          rw [← en]
          refine lpO2 (fun (i : Int) (_ : eS) => [some (vr 0), some (vi s), some (vi o), some (vi t), some (vi n), some (vi i), none, none, none, none]) (fun _ τ => τ) (fun i τ => 0 ≤ i ∧ i ≤ n ∧ fr (fun c k => (c = 0 ∧ k = 4) ∨ c = 4) σ τ ∧ ∀ k, 0 ≤ k → k < 64 → 0 ≤ τ 4 k) (fun i _ => (n - i).toNat) ?_ 0 σ ⟨by omega, by omega, fr.rf, hB.2.2⟩
          rintro i τ ⟨i1, i2, i3, i4⟩ ih
          refine ok_iload 29 rfl rfl rfl (ok_iload 30 rfl rfl rfl (ok_icmp_ge 31 140 rfl rfl rfl (fun h55 => ?_) (fun h55 => ?_)))
          · obtain ⟨b1, b2⟩ := iB1_M hB i3 i4
            have bs := (b2 s)
            have bo := (b2 o)
            obtain ⟨m1, m2⟩ := mul_bd (a := τ 2 s) (b := τ 2 o) (A := 999999) (B := 999999) ⟨by omega, by omega⟩ ⟨by omega, by omega⟩
            have m3 := Int.mul_pos (by omega : 0 < τ 2 s) (by omega : 0 < τ 2 o)
            have hin : i = n := by omega
            refine ok_aload_n 75 rfl rfl rfl (ok_aload_n 76 rfl rfl rfl (ok_getR 77 rfl rfl fl_X12_13 rfl rfl (ok_iload_n 78 rfl rfl rfl (ok_iald 79 rfl rfl rfl (by first | omega | (simp [up_if]; omega) | (simp [up_if] at *; omega)) (ok_i2l 80 rfl rfl (ok_aload_n 81 rfl rfl rfl (ok_getR 82 rfl rfl fl_X12_13 rfl rfl (ok_iload_n 83 rfl rfl rfl (ok_iald 84 rfl rfl rfl (by first | omega | (simp [up_if]; omega) | (simp [up_if] at *; omega)) (ok_i2l 85 rfl rfl (ok_lmul 86 rfl rfl (by first | omega | (simp [up_if]; omega) | (simp [up_if] at *; omega)) (ok_putL 87 rfl rfl fl_X12_85 rfl rfl rfl rfl (ok_aload_n 88 rfl rfl rfl (ok_iload_n 89 rfl rfl rfl (ok_iload 90 rfl rfl rfl (ok_callVI (M' := M_Mo_takes) (as := [_, _]) 91 rfl rfl ml_X12_179 (s_Mo_takes ht ⟨by omega, by omega⟩ (by rw [up_same]; omega) (fun k a b => by rw [up_ne _ _ _ _ (by decide)]; exact i4 k a (by omega))) rfl rfl (Nat.le_of_ble_eq_true rfl) ⟨Nat.le_of_ble_eq_true rfl, Nat.le_of_ble_eq_true rfl⟩ rfl (Nat.le_of_ble_eq_true rfl) (fun σ' z hz => ?_)))))))))))))))))
            have hq := Qtk.M (b1.fr (fun c k q => by rw [up_ne _ _ _ _ (by omega)])) ht ⟨by omega, by omega⟩ (by rw [up_same]; omega) (fun k a b => by rw [up_ne _ _ _ _ (by decide)]; exact i4 k a (by omega)) hz
            refine ok_zret 92 rfl rfl rfl (by have := hq.2.2; omega) ?_
            exact ⟨_, rfl, hq.tr (fr_up (i3.mono (fun c k q => by simp only [rgM]; omega)) (by simp [rgM]))⟩
          · refine ok_iconst 32 rfl rfl (by decide) (ok_ist6 33 rfl rfl rfl ?_)
            refine lpO2 (fun (j : Int) (_ : eS) => [some (vr 0), some (vi s), some (vi o), some (vi t), some (vi n), some (vi i), some (vi j), none, none, none]) (fun _ τ => τ) (fun j τ => 0 ≤ j ∧ j ≤ n ∧ fr (fun c k => (c = 0 ∧ k = 4) ∨ c = 4) σ τ ∧ ∀ k, 0 ≤ k → k < 64 → 0 ≤ τ 4 k) (fun j _ => (n - j).toNat) ?_ 0 τ ⟨by omega, by omega, i3, i4⟩
            clear i3 i4 τ
            rintro j τ ⟨j1, j2, i3, i4⟩ ih2
            obtain ⟨b1, b2⟩ := iB1_M hB i3 i4
            have bs := (b2 s).1
            have bo := (b2 o).1
            refine ok_iload 34 rfl rfl rfl (ok_iload 35 rfl rfl rfl (ok_icmp_ge 36 134 rfl rfl rfl (fun h65 => ?_) (fun h65 => ?_)))
            · refine ok_inc5 73 rfl rfl rfl (by first | omega | (simp [up_if]; omega) | (simp [up_if] at *; omega)) (ok_goto 74 51 rfl rfl rfl ?_)
              exact ok_fg [some (vr 0), some (vi s), some (vi o), some (vi t), some (vi n), some (vi (i + 1)), none, none, none, none] ⟨rfl, rfl, rfl, rfl, rfl, rfl, trivial⟩ (ih (i + 1) τ ⟨by omega, by omega, i3, i4⟩ (by omega))
            · obtain ⟨y1, y2, y3, y4⟩ := ix8 (n := n) (i := i) (j := j) ⟨by omega, by omega⟩ ⟨by omega, by omega⟩ ⟨by omega, by omega⟩
              refine ok_lconst (w := 0) 37 rfl rfl rfl (by decide) (ok_lst7 38 rfl rfl rfl (ok_iconst 39 rfl rfl (by decide) (ok_ist9 40 rfl rfl rfl ?_)))
              refine lpO2 (fun (v k : Int) => [some (vr 0), some (vi s), some (vi o), some (vi t), some (vi n), some (vi i), some (vi j), some (vl v), none, some (vi k)]) (fun _ _ => τ) (fun v k => 0 ≤ k ∧ k ≤ n ∧ 0 ≤ v ∧ v ≤ 9999999800000001 * k) (fun _ k => (n - k).toNat) ?_ 0 0 ⟨by omega, by omega, by omega, by omega⟩
              rintro v k ⟨v1, v2, v3, v4⟩ ih3
              refine ok_iload 41 rfl rfl rfl (ok_iload 42 rfl rfl rfl (ok_icmp_ge 43 113 rfl rfl rfl (fun h78 => ?_) (fun h78 => ?_)))
              · refine ok_aload_n 62 rfl rfl rfl (ok_getR 63 rfl rfl fl_X12_19 rfl rfl (ok_iload 64 rfl rfl rfl (ok_iload 65 rfl rfl rfl (ok_imul 66 rfl rfl (by first | omega | (simp [up_if]; omega) | (simp [up_if] at *; omega)) (ok_iload 67 rfl rfl rfl (ok_iadd 68 rfl rfl (by first | omega | (simp [up_if]; omega) | (simp [up_if] at *; omega)) (ok_lload 69 rfl rfl rfl (ok_last 70 rfl rfl rfl (by first | omega | (simp [up_if]; omega) | (simp [up_if] at *; omega)) (ok_inc6 71 rfl rfl rfl (by first | omega | (simp [up_if]; omega) | (simp [up_if] at *; omega)) (ok_goto 72 61 rfl rfl rfl ?_))))))))))
                exact ok_fg [some (vr 0), some (vi s), some (vi o), some (vi t), some (vi n), some (vi i), some (vi (j + 1)), none, none, none] ⟨rfl, rfl, rfl, rfl, rfl, rfl, rfl, trivial⟩ (ih2 (j + 1) _ ⟨by omega, by omega, fr_up i3 (by simp), fun k a b => by
                  rw [up_if]
                  split
                  · exact v3
                  · exact i4 k a (by omega)⟩ (by omega))
              · refine ok_lload 44 rfl rfl rfl (ok_aload_n 45 rfl rfl rfl (ok_iload_n 46 rfl rfl rfl (ok_iload 47 rfl rfl rfl (ok_iload 48 rfl rfl rfl (ok_callVI (M' := M_Mo_at) (as := [_, _, _]) 49 rfl rfl ml_X12_107 (s_Mo_at b1 ⟨s1, s2⟩ ⟨by omega, by omega⟩ ⟨by omega, by omega⟩) rfl rfl (Nat.le_of_ble_eq_true rfl) ⟨Nat.le_of_ble_eq_true rfl, Nat.le_of_ble_eq_true rfl⟩ rfl (Nat.le_of_ble_eq_true rfl) (fun σ' z hz => ?_))))))
                rw [hz.1, hz.2]
                clear hz z σ'
                refine ok_i2l 50 rfl rfl (ok_aload_n 51 rfl rfl rfl (ok_iload_n 52 rfl rfl rfl (ok_iload 53 rfl rfl rfl (ok_iload 54 rfl rfl rfl (ok_callVI (M' := M_Mo_at) (as := [_, _, _]) 55 rfl rfl ml_X12_107 (s_Mo_at b1 ⟨o1, o2⟩ ⟨by omega, by omega⟩ ⟨by omega, by omega⟩) rfl rfl (Nat.le_of_ble_eq_true rfl) ⟨Nat.le_of_ble_eq_true rfl, Nat.le_of_ble_eq_true rfl⟩ rfl (Nat.le_of_ble_eq_true rfl) (fun σ' z hz => ?_))))))
                rw [hz.1, hz.2]; clear hz z σ'
                have p1 := cB_bd b1 ⟨s1, s2⟩ (i := i) (j := k) ⟨by omega, by omega⟩ ⟨by omega, by omega⟩
                have p2 := cB_bd b1 ⟨o1, o2⟩ (i := k) (j := j) ⟨by omega, by omega⟩ ⟨by omega, by omega⟩
                have p3 := mul_bd p1 p2
                refine ok_i2l 56 rfl rfl (ok_lmul 57 rfl rfl (by first | omega | (simp [up_if]; omega) | (simp [up_if] at *; omega)) (ok_ladd 58 rfl rfl (by first | omega | (simp [up_if]; omega) | (simp [up_if] at *; omega)) (ok_lst7 59 rfl rfl rfl (ok_inc9 60 rfl rfl rfl (by first | omega | (simp [up_if]; omega) | (simp [up_if] at *; omega)) (ok_goto 61 74 rfl rfl rfl ?_)))))
                exact ih3 _ (k + 1) ⟨by omega, by omega, by omega, by omega⟩ (by omega)
        · refine ok_iconst 20 rfl rfl (by decide) (ok_zret 21 rfl rfl rfl (by first | omega | (simp [up_if]; omega) | (simp [up_if] at *; omega)) ?_)
          exact ⟨_, rfl, fr.rf, hB, Or.inl rfl⟩
