theorem bit_x : ∀ s : Fin 256, ∀ j : Fin 8, bt (s.val : Int) (j.val : Int) = true → 0 ≤ ixor (s.val : Int) (ishl 1 (j.val : Int)) ∧ ixor (s.val : Int) (ishl 1 (j.val : Int)) < (s.val : Int) := by decide +kernel
theorem bitX {s j : Int} (h1 : 0 ≤ s ∧ s < 256) (h2 : 0 ≤ j ∧ j < 8) (h : bt s j = true) : 0 ≤ ixor s (ishl 1 j) ∧ ixor s (ishl 1 j) < s := fin2 (P := fun s j => bt s j = true → 0 ≤ ixor s (ishl 1 j) ∧ ixor s (ishl 1 j) < s) bit_x h1.1 h1.2 h2.1 h2.2 h
theorem s_Mo_joined {σ : eS} {s T l : Int} (hB : iB1 σ) (ht : tabB σ s) (hT : 0 ≤ T ∧ T < 256) : MtI shB M_Mo_joined [vr 0, vi s, vi T, vi l] σ (fun σ' z => σ' = σ ∧ 0 ≤ z ∧ z < 256) := by
  refine Mt.of okM_Mo_joined (Nat.le_of_ble_eq_true rfl) (fun hk hg => ?_)
  obtain ⟨u1, u2, u3⟩ := ht
  have tn := hB.1 s u1 u2
  obtain ⟨z1, z2, z3, -⟩ := bit2 (n := σ 1 s) ⟨by omega, by omega⟩
  refine ok_iconst 0 rfl rfl (by decide) (ok_ist4 1 rfl rfl rfl (ok_iconst 2 rfl rfl (by decide) (ok_ist5 3 rfl rfl rfl ?_)))
  refine lpO2 (fun v i : Int => [some (vr 0), some (vi s), some (vi T), some (vi l), some (vi v), some (vi i), none]) (fun _ _ => σ) (fun v i => 0 ≤ i ∧ i ≤ σ 1 s ∧ 0 ≤ v ∧ v < p2 (σ 1 s)) (fun _ i => (σ 1 s - i).toNat) ?_ 0 0 ⟨by omega, by omega, by omega, by omega⟩
  rintro v i ⟨i1, i2, v1, v2⟩ ih
  refine ok_iload 4 rfl rfl rfl (ok_aload_n 5 rfl rfl rfl (ok_getR 6 rfl rfl fl_X12_7 rfl rfl (ok_iload_n 7 rfl rfl rfl (ok_iald 8 rfl rfl rfl (by first | omega | (simp [up_if]; omega) | (simp [up_if] at *; omega)) (ok_icmp_ge 9 75 rfl rfl rfl (fun h14 => ?_) (fun h14 => ?_))))))
  · refine ok_iload 42 rfl rfl rfl (ok_iret 43 rfl rfl rfl ?_)
    exact ⟨_, rfl, rfl, v1, by omega⟩
  · refine ok_iconst 10 rfl rfl (by decide) (ok_ist6 11 rfl rfl rfl ?_)
    refine lpO2 (fun v j : Int => [some (vr 0), some (vi s), some (vi T), some (vi l), some (vi v), some (vi i), some (vi j)]) (fun _ _ => σ) (fun v j => 0 ≤ j ∧ j ≤ σ 1 s ∧ 0 ≤ v ∧ v < p2 (σ 1 s)) (fun _ j => (σ 1 s - j).toNat) ?_ v 0 ⟨by omega, by omega, by omega, by omega⟩
    clear v1 v2 v
    rintro v j ⟨j1, j2, v1, v2⟩ ih2
    refine ok_iload 12 rfl rfl rfl (ok_aload_n 13 rfl rfl rfl (ok_getR 14 rfl rfl fl_X12_7 rfl rfl (ok_iload_n 15 rfl rfl rfl (ok_iald 16 rfl rfl rfl (by first | omega | (simp [up_if]; omega) | (simp [up_if] at *; omega)) (ok_icmp_ge 17 69 rfl rfl rfl (fun h28 => ?_) (fun h28 => ?_))))))
    · refine ok_inc5 40 rfl rfl rfl (by first | omega | (simp [up_if]; omega) | (simp [up_if] at *; omega)) (ok_goto 41 6 rfl rfl rfl ?_)
      exact ok_fg [some (vr 0), some (vi s), some (vi T), some (vi l), some (vi _), some (vi (i + 1)), none] ⟨rfl, rfl, rfl, rfl, rfl, rfl, trivial⟩ (ih _ (i + 1) ⟨by omega, by omega, by omega, by omega⟩ (by omega))
    · have e2 := bitP (s := v) (j := j) (by omega) (by omega)
      obtain ⟨l1, l2⟩ := sB_lt (s := v) (j := j) (n := σ 1 s) ⟨v1, v2⟩ ⟨j1, by omega⟩
      refine ok_iload_n 18 rfl rfl rfl (ok_iload 19 rfl rfl rfl (ok_ishr 20 rfl rfl (ok_iconst 21 rfl rfl (by decide) (ok_iand 22 rfl rfl (ok_iconst 23 rfl rfl (by decide) (ok_icmp_ne 24 63 rfl rfl rfl (fun h38 => ?_) (fun h38 => ?_)))))))
      · refine ok_inc6 38 rfl rfl rfl (by first | omega | (simp [up_if]; omega) | (simp [up_if] at *; omega)) (ok_goto 39 20 rfl rfl rfl ?_)
        exact ih2 _ (j + 1) ⟨by omega, by omega, by omega, by omega⟩ (by omega)
      · refine ok_aload_n 25 rfl rfl rfl (ok_iload_n 26 rfl rfl rfl (ok_iload 27 rfl rfl rfl (ok_iload 28 rfl rfl rfl (ok_callVI (M' := M_Mo_at) (as := [_, _, _]) 29 rfl rfl ml_X12_107 (s_Mo_at hB ⟨u1, u2⟩ ⟨by omega, by omega⟩ ⟨by omega, by omega⟩) rfl rfl (Nat.le_of_ble_eq_true rfl) ⟨Nat.le_of_ble_eq_true rfl, Nat.le_of_ble_eq_true rfl⟩ rfl (Nat.le_of_ble_eq_true rfl) (fun σ' z hz => ?_)))))
        rw [hz.1, hz.2]
        clear hz z σ'
        refine ok_iload_n 30 rfl rfl rfl (ok_icmp_lt 31 63 rfl rfl rfl (fun h51 => ?_) (fun h51 => ?_))
        · refine ok_inc6 38 rfl rfl rfl (by first | omega | (simp [up_if]; omega) | (simp [up_if] at *; omega)) (ok_goto 39 20 rfl rfl rfl ?_)
          exact ih2 _ (j + 1) ⟨by omega, by omega, by omega, by omega⟩ (by omega)
        · refine ok_iload 32 rfl rfl rfl (ok_iconst 33 rfl rfl (by decide) (ok_iload 34 rfl rfl rfl (ok_ishl 35 rfl rfl (ok_ior 36 rfl rfl ?_))))
          rw [e2]
          refine ok_ist4 37 rfl rfl rfl (ok_inc6 38 rfl rfl rfl (by first | omega | (simp [up_if]; omega) | (simp [up_if] at *; omega)) (ok_goto 39 20 rfl rfl rfl ?_))
          exact ih2 _ (j + 1) ⟨by omega, by omega, by omega, by omega⟩ (by omega)
theorem s_Mo_lack {σ : eS} {s l w : Int} (hB : iB1 σ) : MtI shB M_Mo_lack [vr 0, vi s, vi l, vi w] σ (fun σ' _ => σ' = σ) := by
  refine Mt.of okM_Mo_lack (Nat.le_of_ble_eq_true rfl) (fun hk hg => ?_)
  refine ok_aload_n 0 rfl rfl rfl (ok_iload_n 1 rfl rfl rfl (ok_callVI (M' := M_Mo_isTable) (as := [_]) 2 rfl rfl ml_X12_111 (s_Mo_isTable_r) rfl rfl (Nat.le_of_ble_eq_true rfl) ⟨Nat.le_of_ble_eq_true rfl, Nat.le_of_ble_eq_true rfl⟩ rfl (Nat.le_of_ble_eq_true rfl) (fun σ' z1 a1 => ?_)))
  obtain ⟨hs_, a1⟩ := a1
  rw [hs_]; clear hs_ σ'
  refine ok_if_eq 3 27 rfl rfl rfl (fun h5 => ?_) (fun h5 => ?_)
  · refine ok_iconst 13 rfl rfl (by decide) (ok_iret 14 rfl rfl rfl ?_)
    exact ⟨_, rfl, rfl⟩
  · refine ok_iload_n 4 rfl rfl rfl (ok_callSI (M' := M_Mo_isLeast) (as := [_]) 5 rfl rfl ml_X12_343 (s_Mo_isLeast) ⟨Nat.le_of_ble_eq_true rfl, Nat.le_of_ble_eq_true rfl⟩ rfl (Nat.le_of_ble_eq_true rfl) (fun σ' z2 a2 => ?_))
    obtain ⟨hs_, a2⟩ := a2
    rw [hs_]; clear hs_ σ'
    refine ok_if_eq 6 27 rfl rfl rfl (fun h12 => ?_) (fun h12 => ?_)
    · refine ok_iconst 13 rfl rfl (by decide) (ok_iret 14 rfl rfl rfl ?_)
      exact ⟨_, rfl, rfl⟩
    · refine ok_iload_n 7 rfl rfl rfl (ok_i2l 8 rfl rfl (ok_lconst (w := 0) 9 rfl rfl rfl (by decide) (ok_ldc2 10 (2) rfl rfl kc_X12_306 (by decide) (ok_callSI (M' := M_Mo_isIn) (as := [_, _, _]) 11 rfl rfl ml_X12_99 (s_Mo_isIn_r) ⟨Nat.le_of_ble_eq_true rfl, Nat.le_of_ble_eq_true rfl⟩ rfl (Nat.le_of_ble_eq_true rfl) (fun σ' z3 a3 => ?_)))))
      obtain ⟨hs_, a3⟩ := a3
      rw [hs_]; clear hs_ σ'
      refine ok_if_ne 12 29 rfl rfl rfl (fun h24 => ?_) (fun h24 => ?_)
      · refine ok_iconst 15 rfl rfl (by decide) (ok_ist4 16 rfl rfl rfl (ok_iconst 17 rfl rfl (by decide) (ok_ist5 18 rfl rfl rfl (ok_iconst 19 rfl rfl (by decide) (ok_ist6 20 rfl rfl rfl ?_)))))
        have ht := yes1 a1 h5
        obtain ⟨u1, u2, u3⟩ := id ht
        have tn := hB.1 s u1 u2
        obtain ⟨z1, z2, z3, -⟩ := bit2 (n := σ 1 s) ⟨by omega, by omega⟩
        refine lpO3 (fun T b k : Int => [some (vr 0), some (vi s), some (vi l), some (vi w), some (vi T), some (vi b), some (vi k), none]) (fun _ _ _ => σ) (fun T b k => 1 ≤ k ∧ k ≤ p2 (σ 1 s) ∧ 0 ≤ T ∧ T < 256) (fun _ _ k => (256 - k).toNat) ?_ 0 0 1 ⟨by omega, by omega, by omega, by omega⟩
        rintro T b k ⟨k1, k2, t1, t2⟩ ih
        refine ok_iload 21 rfl rfl rfl (ok_iconst 22 rfl rfl (by decide) (ok_aload_n 23 rfl rfl rfl (ok_getR 24 rfl rfl fl_X12_7 rfl rfl (ok_iload_n 25 rfl rfl rfl (ok_iald 26 rfl rfl rfl (by first | omega | (simp [up_if]; omega) | (simp [up_if] at *; omega)) (ok_ishl 27 rfl rfl ?_))))))
        rw [z1]
        refine ok_icmp_ge 28 94 rfl rfl rfl (fun h48 => ?_) (fun h48 => ?_)
        · refine ok_iload_n 49 rfl rfl rfl (ok_if_ne 50 103 rfl rfl rfl (fun h95 => ?_) (fun h95 => ?_))
          · refine ok_iload_n 53 rfl rfl rfl (ok_iconst 54 rfl rfl (by decide) (ok_icmp_ne 55 113 rfl rfl rfl (fun h105 => ?_) (fun h105 => ?_)))
            · refine ok_aload_n 58 rfl rfl rfl (ok_iload_n 59 rfl rfl rfl (ok_iload 60 rfl rfl rfl (ok_iload_n 61 rfl rfl rfl (ok_callVI (M' := M_Mo_joined) (as := [_, _, _]) 62 rfl rfl ml_X12_346 (s_Mo_joined hB ht ⟨by omega, by omega⟩) rfl rfl (Nat.le_of_ble_eq_true rfl) ⟨Nat.le_of_ble_eq_true rfl, Nat.le_of_ble_eq_true rfl⟩ rfl (Nat.le_of_ble_eq_true rfl) (fun σ' y hy => ?_)))))
              obtain ⟨hs_, hy⟩ := hy
              rw [hs_]; clear hs_ σ'
              refine ok_iret 63 rfl rfl rfl ?_
              exact ⟨_, rfl, rfl⟩
            · refine ok_iload 56 rfl rfl rfl (ok_goto 57 121 rfl rfl rfl (ok_iret 63 rfl rfl rfl ?_))
              exact ⟨_, rfl, rfl⟩
          · refine ok_iload 51 rfl rfl rfl (ok_goto 52 121 rfl rfl rfl (ok_iret 63 rfl rfl rfl ?_))
            exact ⟨_, rfl, rfl⟩
        · have b1 := (bitL (s := k) (n := 8) (by omega) (by omega)).2.2
          refine ok_iload 29 rfl rfl rfl (ok_callSI (M' := M_Mo_bits) (as := [_]) 30 rfl rfl ml_X12_241 (s_Mo_bits ⟨by omega, by omega⟩) ⟨Nat.le_of_ble_eq_true rfl, Nat.le_of_ble_eq_true rfl⟩ rfl (Nat.le_of_ble_eq_true rfl) (fun σ' z hz => ?_))
          rw [hz.1, hz.2]
          clear hz z σ'
          refine ok_aload_n 31 rfl rfl rfl (ok_iload_n 32 rfl rfl rfl (ok_iload 33 rfl rfl rfl (ok_iload_n 34 rfl rfl rfl (ok_callVI (M' := M_Mo_joined) (as := [_, _, _]) 35 rfl rfl ml_X12_346 (s_Mo_joined hB ht ⟨by omega, by omega⟩) rfl rfl (Nat.le_of_ble_eq_true rfl) ⟨Nat.le_of_ble_eq_true rfl, Nat.le_of_ble_eq_true rfl⟩ rfl (Nat.le_of_ble_eq_true rfl) (fun σ' y hy => ?_)))))
          obtain ⟨hs_, hy⟩ := hy
          rw [hs_]; clear hs_ σ'
          have b2 := (bitL (s := y) (n := 8) (by omega) (by omega)).2.2
          refine ok_callSI (M' := M_Mo_bits) (as := [_]) 36 rfl rfl ml_X12_241 (s_Mo_bits ⟨by omega, by omega⟩) ⟨Nat.le_of_ble_eq_true rfl, Nat.le_of_ble_eq_true rfl⟩ rfl (Nat.le_of_ble_eq_true rfl) (fun σ' z hz => ?_)
          rw [hz.1, hz.2]
          clear hz z σ'
          refine ok_isub 37 rfl rfl (by first | omega | (simp [up_if]; omega) | (simp [up_if] at *; omega)) (ok_ist7 38 rfl rfl rfl (ok_iload 39 rfl rfl rfl (ok_iload 40 rfl rfl rfl (ok_icmp_gt 41 80 rfl rfl rfl (fun h74 => ?_) (fun h74 => ?_)))))
          · refine ok_iload 43 rfl rfl rfl (ok_ist4 44 rfl rfl rfl (ok_iload 45 rfl rfl rfl (ok_ist5 46 rfl rfl rfl (ok_inc6 47 rfl rfl rfl (by first | omega | (simp [up_if]; omega) | (simp [up_if] at *; omega)) (ok_goto 48 38 rfl rfl rfl ?_)))))
            exact ok_fg [some (vr 0), some (vi s), some (vi l), some (vi w), some (vi _), some (vi _), some (vi (k + 1)), none] ⟨rfl, rfl, rfl, rfl, rfl, rfl, rfl, trivial⟩ (ih _ _ (k + 1) ⟨by omega, by omega, by omega, by omega⟩ (by omega))
          · refine ok_goto 42 88 rfl rfl rfl (ok_inc6 47 rfl rfl rfl (by first | omega | (simp [up_if]; omega) | (simp [up_if] at *; omega)) (ok_goto 48 38 rfl rfl rfl ?_))
            exact ok_fg [some (vr 0), some (vi s), some (vi l), some (vi w), some (vi _), some (vi _), some (vi (k + 1)), none] ⟨rfl, rfl, rfl, rfl, rfl, rfl, rfl, trivial⟩ (ih _ _ (k + 1) ⟨by omega, by omega, by omega, by omega⟩ (by omega))
      · refine ok_iconst 13 rfl rfl (by decide) (ok_iret 14 rfl rfl rfl ?_)
        exact ⟨_, rfl, rfl⟩
theorem Qch.fr1 {σ σ' : eS} {n z : Int} {op : Int → Int → Prop} (h : Qch σ n op σ' z) : fr rgS σ σ' := by
  rcases h with q | q
  · exact q.2.2.mono (fun c k y => by simp only [rgS]; omega)
  · exact q.2.2.1.mono (fun c k y => by simp only [rgS]; omega)
theorem s_Mo_paired {σ : eS} {s l r : Int} (hB : iB1 σ) : MtI shB M_Mo_paired [vr 0, vi s, vi l, vi r] σ (fun σ' _ => fr rgS σ σ') := by
  refine Mt.of okM_Mo_paired (Nat.le_of_ble_eq_true rfl) (fun hk hg => ?_)
  refine ok_aload_n 0 rfl rfl rfl (ok_iload_n 1 rfl rfl rfl (ok_callVI (M' := M_Mo_isTable) (as := [_]) 2 rfl rfl ml_X12_111 (s_Mo_isTable_r) rfl rfl (Nat.le_of_ble_eq_true rfl) ⟨Nat.le_of_ble_eq_true rfl, Nat.le_of_ble_eq_true rfl⟩ rfl (Nat.le_of_ble_eq_true rfl) (fun σ' z1 a1 => ?_)))
  obtain ⟨hs_, a1⟩ := a1
  rw [hs_]; clear hs_ σ'
  refine ok_if_eq 3 33 rfl rfl rfl (fun h5 => ?_) (fun h5 => ?_)
  · refine ok_iconst 19 rfl rfl (by decide) (ok_iret 20 rfl rfl rfl ?_)
    exact ⟨_, rfl, fr.rf⟩
  · refine ok_iload_n 4 rfl rfl rfl (ok_callSI (M' := M_Mo_isLeast) (as := [_]) 5 rfl rfl ml_X12_343 (s_Mo_isLeast) ⟨Nat.le_of_ble_eq_true rfl, Nat.le_of_ble_eq_true rfl⟩ rfl (Nat.le_of_ble_eq_true rfl) (fun σ' z2 a2 => ?_))
    obtain ⟨hs_, a2⟩ := a2
    rw [hs_]; clear hs_ σ'
    refine ok_if_eq 6 33 rfl rfl rfl (fun h12 => ?_) (fun h12 => ?_)
    · refine ok_iconst 19 rfl rfl (by decide) (ok_iret 20 rfl rfl rfl ?_)
      exact ⟨_, rfl, fr.rf⟩
    · obtain ⟨u1, u2, u3⟩ := yes1 a1 h5
      have tn := hB.1 s u1 u2
      refine ok_iload_n 7 rfl rfl rfl (ok_i2l 8 rfl rfl (ok_lconst (w := 0) 9 rfl rfl rfl (by decide) (ok_aload_n 10 rfl rfl rfl (ok_getR 11 rfl rfl fl_X12_7 rfl rfl (ok_iload_n 12 rfl rfl rfl (ok_iald 13 rfl rfl rfl (by first | omega | (simp [up_if]; omega) | (simp [up_if] at *; omega)) (ok_iconst 14 rfl rfl (by decide) (ok_isub 15 rfl rfl (by first | omega | (simp [up_if]; omega) | (simp [up_if] at *; omega)) (ok_i2l 16 rfl rfl (ok_callSI (M' := M_Mo_isIn) (as := [_, _, _]) 17 rfl rfl ml_X12_99 (s_Mo_isIn_r) ⟨Nat.le_of_ble_eq_true rfl, Nat.le_of_ble_eq_true rfl⟩ rfl (Nat.le_of_ble_eq_true rfl) (fun σ' z3 a3 => ?_)))))))))))
      obtain ⟨hs_, a3⟩ := a3
      rw [hs_]; clear hs_ σ'
      refine ok_if_ne 18 35 rfl rfl rfl (fun h30 => ?_) (fun h30 => ?_)
      · have f := wo_fr σ s (σ 1 s) (σ 1 s * σ 1 s)
        have hr := yes1 a3 h30
        have hnW : nW (wo σ s (σ 1 s) (σ 1 s * σ 1 s)) := by unfold nW; rw [show wo σ s (σ 1 s) (σ 1 s * σ 1 s) 0 22 = σ 1 s by simp [wo]]; omega
        refine ok_aload_n 21 rfl rfl rfl (ok_iload_n 22 rfl rfl rfl (ok_callVV (M' := M_Mo_worksOn) (as := [_]) 23 rfl rfl ml_X12_294 (s_Mo_worksOn hB ⟨u1, u2, u3⟩) rfl rfl (Nat.le_of_ble_eq_true rfl) ⟨Nat.le_of_ble_eq_true rfl, Nat.le_of_ble_eq_true rfl⟩ rfl (Nat.le_of_ble_eq_true rfl) (fun σ' hz => ?_)))
        rw [hz]
        clear hz σ'
        refine ok_aload_n 24 rfl rfl rfl (ok_iload_n 25 rfl rfl rfl (ok_iconst 26 rfl rfl (by decide) (ok_iconst 27 rfl rfl (by decide) (ok_callVI (M' := M_Mo_isChosen) (as := [_, _, _]) 28 rfl rfl ml_X12_260 (s_Mo_isChosen hnW) rfl rfl (Nat.le_of_ble_eq_true rfl) ⟨Nat.le_of_ble_eq_true rfl, Nat.le_of_ble_eq_true rfl⟩ rfl (Nat.le_of_ble_eq_true rfl) (fun σ' z hz => ?_)))))
        have g := f.tr hz.fr1
        clear hz
        refine ok_if_eq 29 59 rfl rfl rfl (fun h47 => ?_) (fun h47 => ?_)
        · refine ok_iconst 35 rfl rfl (by decide) (ok_iret 36 rfl rfl rfl ?_)
          exact ⟨_, rfl, g⟩
        · refine ok_aload_n 30 rfl rfl rfl (ok_getR 31 rfl rfl fl_X12_45 rfl rfl (ok_iload_n 32 rfl rfl rfl (ok_iald 33 rfl rfl rfl (by first | omega | (simp [up_if]; omega) | (simp [up_if] at *; omega)) (ok_goto 34 60 rfl rfl rfl (ok_iret 36 rfl rfl rfl ?_)))))
          exact ⟨_, rfl, g⟩
      · refine ok_iconst 19 rfl rfl (by decide) (ok_iret 20 rfl rfl rfl ?_)
        exact ⟨_, rfl, fr.rf⟩
