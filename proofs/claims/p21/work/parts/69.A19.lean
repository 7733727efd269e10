/-! counting bits; joins as longs -/
def bc1 (a : Int) : Int := wr (a - iand (iushr a 1) 1431655765)
def bc2 (a : Int) : Int := wr (iand a 858993459 + iand (iushr a 2) 858993459)
def bc3 (a : Int) : Int := iand (wr (a + iushr a 4)) 252645135
def bc4 (a : Int) : Int := wr (a + iushr a 8)
def bc5 (a : Int) : Int := wr (a + iushr a 16)
def bcI (a : Int) : Int := iand (bc5 (bc4 (bc3 (bc2 (bc1 a))))) 63
theorem bc_pc : ∀ s : Fin 256, bcI (s.val : Int) = pc (s.val : Int) := by decide +kernel
theorem bcP {s : Int} (h : 0 ≤ s ∧ s < 256) : bcI s = pc s := fin1 (P := fun s => bcI s = pc s) bc_pc h.1 h.2
theorem s_Ji_bitCount {σ : eS} {a : Int} : MtI shA M_Ji_bitCount [vi a] σ (fun σ' z => σ' = σ ∧ z = bcI a) := by
  refine Mt.of okM_Ji_bitCount (Nat.le_of_ble_eq_true rfl) (fun hk hg => ?_)
  refine ok_iload_n 0 rfl rfl rfl (ok_iload_n 1 rfl rfl rfl (ok_iconst 2 rfl rfl (by decide) (ok_iushr 3 rfl rfl (ok_ldcw 4 (1431655765) rfl rfl kc_J6_265 (by decide) (ok_iand 5 rfl rfl (ok_isubW 6 rfl rfl (ok_ist0 7 rfl rfl (ok_iload_n 8 rfl rfl rfl (ok_ldcw 9 (858993459) rfl rfl kc_J6_266 (by decide) (ok_iand 10 rfl rfl (ok_iload_n 11 rfl rfl rfl (ok_iconst 12 rfl rfl (by decide) (ok_iushr 13 rfl rfl (ok_ldcw 14 (858993459) rfl rfl kc_J6_266 (by decide) (ok_iand 15 rfl rfl (ok_iaddW 16 rfl rfl (ok_ist0 17 rfl rfl (ok_iload_n 18 rfl rfl rfl (ok_iload_n 19 rfl rfl rfl (ok_iconst 20 rfl rfl (by decide) (ok_iushr 21 rfl rfl (ok_iaddW 22 rfl rfl (ok_ldcw 23 (252645135) rfl rfl kc_J6_267 (by decide) (ok_iand 24 rfl rfl (ok_ist0 25 rfl rfl (ok_iload_n 26 rfl rfl rfl (ok_iload_n 27 rfl rfl rfl (ok_bipush 28 rfl rfl (by decide) (by decide) (ok_iushr 29 rfl rfl (ok_iaddW 30 rfl rfl (ok_ist0 31 rfl rfl (ok_iload_n 32 rfl rfl rfl (ok_iload_n 33 rfl rfl rfl (ok_bipush 34 rfl rfl (by decide) (by decide) (ok_iushr 35 rfl rfl (ok_iaddW 36 rfl rfl (ok_ist0 37 rfl rfl (ok_iload_n 38 rfl rfl rfl (ok_bipush 39 rfl rfl (by decide) (by decide) (ok_iand 40 rfl rfl (ok_iret 41 rfl rfl rfl ?_)))))))))))))))))))))))))))))))))))))))))
  exact ⟨_, rfl, rfl, rfl⟩
theorem s_Jl_bitCount {σ : eS} {a : Int} : MtI shA M_Jl_bitCount [vl a] σ (fun σ' _ => σ' = σ ∧ True) := by
  refine Mt.of okM_Jl_bitCount (Nat.le_of_ble_eq_true rfl) (fun hk hg => ?_)
  refine ok_lload_n 0 rfl rfl rfl (ok_lload_n 1 rfl rfl rfl (ok_iconst 2 rfl rfl (by decide) (ok_lushr 3 rfl rfl (ok_ldc2 4 (6148914691236517205) rfl rfl kc_J13_314 (by decide) (ok_land 5 rfl rfl (ok_lsubW 6 rfl rfl (ok_lst0 7 rfl rfl (ok_lload_n 8 rfl rfl rfl (ok_ldc2 9 (3689348814741910323) rfl rfl kc_J13_316 (by decide) (ok_land 10 rfl rfl (ok_lload_n 11 rfl rfl rfl (ok_iconst 12 rfl rfl (by decide) (ok_lushr 13 rfl rfl (ok_ldc2 14 (3689348814741910323) rfl rfl kc_J13_316 (by decide) (ok_land 15 rfl rfl (ok_laddW 16 rfl rfl (ok_lst0 17 rfl rfl (ok_lload_n 18 rfl rfl rfl (ok_lload_n 19 rfl rfl rfl (ok_iconst 20 rfl rfl (by decide) (ok_lushr 21 rfl rfl (ok_laddW 22 rfl rfl (ok_ldc2 23 (1085102592571150095) rfl rfl kc_J13_318 (by decide) (ok_land 24 rfl rfl (ok_lst0 25 rfl rfl (ok_lload_n 26 rfl rfl rfl (ok_lload_n 27 rfl rfl rfl (ok_bipush 28 rfl rfl (by decide) (by decide) (ok_lushr 29 rfl rfl (ok_laddW 30 rfl rfl (ok_lst0 31 rfl rfl (ok_lload_n 32 rfl rfl rfl (ok_lload_n 33 rfl rfl rfl (ok_bipush 34 rfl rfl (by decide) (by decide) (ok_lushr 35 rfl rfl (ok_laddW 36 rfl rfl (ok_lst0 37 rfl rfl (ok_lload_n 38 rfl rfl rfl (ok_lload_n 39 rfl rfl rfl (ok_bipush 40 rfl rfl (by decide) (by decide) (ok_lushr 41 rfl rfl (ok_laddW 42 rfl rfl (ok_lst0 43 rfl rfl (ok_lload_n 44 rfl rfl rfl (ok_l2iW 45 rfl rfl (ok_bipush 46 rfl rfl (by decide) (by decide) (ok_iand 47 rfl rfl (ok_iret 48 rfl rfl rfl ?_))))))))))))))))))))))))))))))))))))))))))))))))
  exact ⟨_, rfl, rfl, trivial⟩
def rowJ (J r : Int) : Int := wr (land (lushr J (wr (r * 8))) 255)
theorem s_Jo_rowOf {σ : eS} {J r : Int} : MtI shA M_Jo_rowOf [vl J, vi r] σ (fun σ' z => σ' = σ ∧ z = rowJ J r) := by
  refine Mt.of okM_Jo_rowOf (Nat.le_of_ble_eq_true rfl) (fun hk hg => ?_)
  refine ok_lload_n 0 rfl rfl rfl (ok_iload_n 1 rfl rfl rfl (ok_bipush 2 rfl rfl (by decide) (by decide) (ok_imulW 3 rfl rfl (ok_lushr 4 rfl rfl (ok_ldc2 5 (255) rfl rfl kc_X1_11 (by decide) (ok_land 6 rfl rfl (ok_l2iW 7 rfl rfl (ok_iret 8 rfl rfl rfl ?_))))))))
  exact ⟨_, rfl, rfl, rfl⟩
theorem s_Jo_of {σ : eS} {c : Nat} {n m : Int} (hs : nth shA c = some (1, 64, [])) (hn : n ≤ 8) : MtL shA M_Jo_of [vr c, vi n, vi m] σ (fun σ' _ => σ' = σ ∧ True) := by
  refine Mt.of okM_Jo_of (Nat.le_of_ble_eq_true rfl) (fun hk hg => ?_)
  refine ok_lconst (w := 0) 0 rfl rfl rfl (by decide) (ok_lst3 1 rfl rfl rfl (ok_iconst 2 rfl rfl (by decide) (ok_ist5 3 rfl rfl rfl ?_)))
  refine lpO2 (fun v i : Int => [some (vr c), some (vi n), some (vi m), some (vl v), none, some (vi i), none, none]) (fun _ _ => σ) (fun _ i => 0 ≤ i ∧ i ≤ 8) (fun _ i => (8 - i).toNat) ?_ 0 0 ⟨by omega, by omega⟩
  rintro v i ⟨i1, i2⟩ ih
  refine ok_iload 4 rfl rfl rfl (ok_iload_n 5 rfl rfl rfl (ok_icmp_ge 6 57 rfl rfl rfl (fun h8 => ?_) (fun h8 => ?_)))
  · refine ok_lload_n 33 rfl rfl rfl (ok_lret 34 rfl rfl rfl ?_)
    exact ⟨_, rfl, rfl, trivial⟩
  · refine ok_iconst 7 rfl rfl (by decide) (ok_ist6 8 rfl rfl rfl ?_)
    refine lpO2 (fun v j : Int => [some (vr c), some (vi n), some (vi m), some (vl v), none, some (vi i), some (vi j), none]) (fun _ _ => σ) (fun _ j => 0 ≤ j ∧ j ≤ 8) (fun _ j => (8 - j).toNat) ?_ v 0 ⟨by omega, by omega⟩
    clear v
    rintro v j ⟨j1, j2⟩ ih2
    refine ok_iload 9 rfl rfl rfl (ok_iload_n 10 rfl rfl rfl (ok_icmp_ge 11 51 rfl rfl rfl (fun h17 => ?_) (fun h17 => ?_)))
    · refine ok_inc5 31 rfl rfl rfl (by first | omega | (simp [up_if]; omega) | (simp [up_if] at *; omega)) (ok_goto 32 5 rfl rfl rfl ?_)
      exact ok_fg [some (vr c), some (vi n), some (vi m), some (vl _), none, some (vi (i + 1)), none, none] ⟨rfl, rfl, rfl, rfl, rfl, trivial⟩ (ih _ (i + 1) ⟨by omega, by omega⟩ (by omega))
    · refine ok_iload 12 rfl rfl rfl (ok_bipush 13 rfl rfl (by decide) (by decide) (ok_imul 14 rfl rfl (by first | omega | (simp [up_if]; omega) | (simp [up_if] at *; omega)) (ok_iload 15 rfl rfl rfl (ok_iadd 16 rfl rfl (by first | omega | (simp [up_if]; omega) | (simp [up_if] at *; omega)) (ok_ist7 17 rfl rfl rfl (ok_aload_n 18 rfl rfl rfl (ok_iload 19 rfl rfl rfl (ok_iald 20 rfl rfl hs (by first | omega | (simp [up_if]; omega) | (simp [up_if] at *; omega)) (ok_iload_n 21 rfl rfl rfl (ok_icmp_lt 22 45 rfl rfl rfl (fun h35 => ?_) (fun h35 => ?_)))))))))))
      · refine ok_inc6 29 rfl rfl rfl (by first | omega | (simp [up_if]; omega) | (simp [up_if] at *; omega)) (ok_goto 30 14 rfl rfl rfl ?_)
        exact ok_fg [some (vr c), some (vi n), some (vi m), some (vl _), none, some (vi i), some (vi (j + 1)), none] ⟨rfl, rfl, rfl, rfl, rfl, rfl, trivial⟩ (ih2 _ (j + 1) ⟨by omega, by omega⟩ (by omega))
      · refine ok_lload_n 23 rfl rfl rfl (ok_lconst (w := 1) 24 rfl rfl rfl (by decide) (ok_iload 25 rfl rfl rfl (ok_lshl 26 rfl rfl (ok_lor 27 rfl rfl (ok_lst3 28 rfl rfl rfl (ok_inc6 29 rfl rfl rfl (by first | omega | (simp [up_if]; omega) | (simp [up_if] at *; omega)) (ok_goto 30 14 rfl rfl rfl ?_)))))))
        exact ok_fg [some (vr c), some (vi n), some (vi m), some (vl _), none, some (vi i), some (vi (j + 1)), none] ⟨rfl, rfl, rfl, rfl, rfl, rfl, trivial⟩ (ih2 _ (j + 1) ⟨by omega, by omega⟩ (by omega))
theorem s_Jo_columnsOf {σ : eS} {J s n : Int} (hn : n ≤ 8) : MtI shA M_Jo_columnsOf [vl J, vi s, vi n] σ (fun σ' _ => σ' = σ ∧ True) := by
  refine Mt.of okM_Jo_columnsOf (Nat.le_of_ble_eq_true rfl) (fun hk hg => ?_)
  refine ok_iconst 0 rfl rfl (by decide) (ok_ist4 1 rfl rfl rfl (ok_iconst 2 rfl rfl (by decide) (ok_ist5 3 rfl rfl rfl ?_)))
  refine lpO2 (fun v j : Int => [some (vl J), none, some (vi s), some (vi n), some (vi v), some (vi j)]) (fun _ _ => σ) (fun _ j => 0 ≤ j ∧ j ≤ 8) (fun _ j => (8 - j).toNat) ?_ 0 0 ⟨by omega, by omega⟩
  rintro v j ⟨j1, j2⟩ ih
  refine ok_iload 4 rfl rfl rfl (ok_iload_n 5 rfl rfl rfl (ok_icmp_ge 6 38 rfl rfl rfl (fun h9 => ?_) (fun h9 => ?_)))
  · refine ok_iload 21 rfl rfl rfl (ok_iret 22 rfl rfl rfl ?_)
    exact ⟨_, rfl, rfl, trivial⟩
  · refine ok_iload_n 7 rfl rfl rfl (ok_iload 8 rfl rfl rfl (ok_ishr 9 rfl rfl (ok_iconst 10 rfl rfl (by decide) (ok_iand 11 rfl rfl (ok_if_eq 12 32 rfl rfl rfl (fun h18 => ?_) (fun h18 => ?_))))))
    · refine ok_inc5 19 rfl rfl rfl (by first | omega | (simp [up_if]; omega) | (simp [up_if] at *; omega)) (ok_goto 20 6 rfl rfl rfl ?_)
      exact ih _ (j + 1) ⟨by omega, by omega⟩ (by omega)
    · refine ok_iload 13 rfl rfl rfl (ok_lload_n 14 rfl rfl rfl (ok_iload 15 rfl rfl rfl (ok_callSI (M' := M_Jo_rowOf) (as := [_, _]) 16 rfl rfl ml_X1_17 (s_Jo_rowOf) ⟨Nat.le_of_ble_eq_true rfl, Nat.le_of_ble_eq_true rfl⟩ rfl (Nat.le_of_ble_eq_true rfl) (fun σ' z hz => ?_))))
      rw [hz.1, hz.2]
      clear hz z σ'
      refine ok_ior 17 rfl rfl (ok_ist4 18 rfl rfl rfl (ok_inc5 19 rfl rfl rfl (by first | omega | (simp [up_if]; omega) | (simp [up_if] at *; omega)) (ok_goto 20 6 rfl rfl rfl ?_)))
      exact ih _ (j + 1) ⟨by omega, by omega⟩ (by omega)
theorem s_Jo_rowsOf {σ : eS} {J s n : Int} (hn : n ≤ 8) : MtI shA M_Jo_rowsOf [vl J, vi s, vi n] σ (fun σ' _ => σ' = σ ∧ True) := by
  refine Mt.of okM_Jo_rowsOf (Nat.le_of_ble_eq_true rfl) (fun hk hg => ?_)
  refine ok_iconst 0 rfl rfl (by decide) (ok_ist4 1 rfl rfl rfl (ok_iconst 2 rfl rfl (by decide) (ok_ist5 3 rfl rfl rfl ?_)))
  refine lpO2 (fun v j : Int => [some (vl J), none, some (vi s), some (vi n), some (vi v), some (vi j)]) (fun _ _ => σ) (fun _ j => 0 ≤ j ∧ j ≤ 8) (fun _ j => (8 - j).toNat) ?_ 0 0 ⟨by omega, by omega⟩
  rintro v j ⟨j1, j2⟩ ih
  refine ok_iload 4 rfl rfl rfl (ok_iload_n 5 rfl rfl rfl (ok_icmp_ge 6 38 rfl rfl rfl (fun h9 => ?_) (fun h9 => ?_)))
  · refine ok_iload 21 rfl rfl rfl (ok_iret 22 rfl rfl rfl ?_)
    exact ⟨_, rfl, rfl, trivial⟩
  · refine ok_lload_n 7 rfl rfl rfl (ok_iload 8 rfl rfl rfl (ok_callSI (M' := M_Jo_rowOf) (as := [_, _]) 9 rfl rfl ml_X1_17 (s_Jo_rowOf) ⟨Nat.le_of_ble_eq_true rfl, Nat.le_of_ble_eq_true rfl⟩ rfl (Nat.le_of_ble_eq_true rfl) (fun σ' z hz => ?_)))
    rw [hz.1, hz.2]
    clear hz z σ'
    refine ok_iload_n 10 rfl rfl rfl (ok_iand 11 rfl rfl (ok_if_eq 12 32 rfl rfl rfl (fun h20 => ?_) (fun h20 => ?_)))
    · refine ok_inc5 19 rfl rfl rfl (by first | omega | (simp [up_if]; omega) | (simp [up_if] at *; omega)) (ok_goto 20 6 rfl rfl rfl ?_)
      exact ih _ (j + 1) ⟨by omega, by omega⟩ (by omega)
    · refine ok_iload 13 rfl rfl rfl (ok_iconst 14 rfl rfl (by decide) (ok_iload 15 rfl rfl rfl (ok_ishl 16 rfl rfl (ok_ior 17 rfl rfl (ok_ist4 18 rfl rfl rfl (ok_inc5 19 rfl rfl rfl (by first | omega | (simp [up_if]; omega) | (simp [up_if] at *; omega)) (ok_goto 20 6 rfl rfl rfl ?_)))))))
      exact ih _ (j + 1) ⟨by omega, by omega⟩ (by omega)
theorem s_Jo_groupOf {σ : eS} {J r n : Int} (hn : n ≤ 8) : MtI shA M_Jo_groupOf [vl J, vi r, vi n] σ (fun σ' _ => σ' = σ ∧ True) := by
  refine Mt.of okM_Jo_groupOf (Nat.le_of_ble_eq_true rfl) (fun hk hg => ?_)
  refine ok_iconst 0 rfl rfl (by decide) (ok_iload_n 1 rfl rfl rfl (ok_ishl 2 rfl rfl (ok_ist4 3 rfl rfl rfl (ok_iconst 4 rfl rfl (by decide) (ok_ist5 5 rfl rfl rfl ?_)))))
  refine lpO2 (fun v j : Int => [some (vl J), none, some (vi r), some (vi n), some (vi v), some (vi j)]) (fun _ _ => σ) (fun _ j => 0 ≤ j ∧ j ≤ 8) (fun _ j => (8 - j).toNat) ?_ (ishl 1 r) 0 ⟨by omega, by omega⟩
  rintro v j ⟨j1, j2⟩ ih
  refine ok_iload 6 rfl rfl rfl (ok_iload_n 7 rfl rfl rfl (ok_icmp_ge 8 37 rfl rfl rfl (fun h11 => ?_) (fun h11 => ?_)))
  · refine ok_iload 21 rfl rfl rfl (ok_iret 22 rfl rfl rfl ?_)
    exact ⟨_, rfl, rfl, trivial⟩
  · refine ok_iload 9 rfl rfl rfl (ok_lload_n 10 rfl rfl rfl (ok_lload_n 11 rfl rfl rfl (ok_iload 12 rfl rfl rfl (ok_iload_n 13 rfl rfl rfl (ok_callSI (M' := M_Jo_columnsOf) (as := [_, _, _]) 14 rfl rfl ml_X1_25 (s_Jo_columnsOf hn) ⟨Nat.le_of_ble_eq_true rfl, Nat.le_of_ble_eq_true rfl⟩ rfl (Nat.le_of_ble_eq_true rfl) (fun σ' z1 x1 => ?_))))))
    obtain ⟨hs_, x1⟩ := x1
    rw [hs_]; clear hs_ σ'
    refine ok_iload_n 15 rfl rfl rfl (ok_callSI (M' := M_Jo_rowsOf) (as := [_, _, _]) 16 rfl rfl ml_X1_34 (s_Jo_rowsOf hn) ⟨Nat.le_of_ble_eq_true rfl, Nat.le_of_ble_eq_true rfl⟩ rfl (Nat.le_of_ble_eq_true rfl) (fun σ' z2 x2 => ?_))
    obtain ⟨hs_, x2⟩ := x2
    rw [hs_]; clear hs_ σ'
    refine ok_ior 17 rfl rfl (ok_ist4 18 rfl rfl rfl (ok_inc5 19 rfl rfl rfl (by first | omega | (simp [up_if]; omega) | (simp [up_if] at *; omega)) (ok_goto 20 8 rfl rfl rfl ?_)))
    exact ih _ (j + 1) ⟨by omega, by omega⟩ (by omega)
theorem s_Jo_countGroups {σ : eS} {J n : Int} (hn : n ≤ 8) : MtI shA M_Jo_countGroups [vl J, vi n] σ (fun σ' _ => σ' = σ ∧ True) := by
  refine Mt.of okM_Jo_countGroups (Nat.le_of_ble_eq_true rfl) (fun hk hg => ?_)
  refine ok_iconst 0 rfl rfl (by decide) (ok_ist3 1 rfl rfl rfl (ok_iconst 2 rfl rfl (by decide) (ok_ist4 3 rfl rfl rfl (ok_iconst 4 rfl rfl (by decide) (ok_ist5 5 rfl rfl rfl ?_)))))
  refine lpO3 (fun g v j : Int => [some (vl J), none, some (vi n), some (vi g), some (vi v), some (vi j)]) (fun _ _ _ => σ) (fun g _ j => 0 ≤ j ∧ j ≤ 8 ∧ 0 ≤ g ∧ g ≤ j) (fun _ _ j => (8 - j).toNat) ?_ 0 0 0 ⟨by omega, by omega, by omega, by omega⟩
  rintro g v j ⟨j1, j2, g1, g2⟩ ih
  refine ok_iload 6 rfl rfl rfl (ok_iload_n 7 rfl rfl rfl (ok_icmp_ge 8 45 rfl rfl rfl (fun h11 => ?_) (fun h11 => ?_)))
  · refine ok_iload_n 25 rfl rfl rfl (ok_lload_n 26 rfl rfl rfl (ok_iload 27 rfl rfl rfl (ok_iload_n 28 rfl rfl rfl (ok_callSI (M' := M_Jo_columnsOf) (as := [_, _, _]) 29 rfl rfl ml_X1_25 (s_Jo_columnsOf hn) ⟨Nat.le_of_ble_eq_true rfl, Nat.le_of_ble_eq_true rfl⟩ rfl (Nat.le_of_ble_eq_true rfl) (fun σ' z2 x2 => ?_)))))
    obtain ⟨hs_, x2⟩ := x2
    rw [hs_]; clear hs_ σ'
    refine ok_callSI (M' := M_Ji_bitCount) (as := [_]) 30 rfl rfl ml_X1_28 (s_Ji_bitCount) ⟨Nat.le_of_ble_eq_true rfl, Nat.le_of_ble_eq_true rfl⟩ rfl (Nat.le_of_ble_eq_true rfl) (fun σ' z hz => ?_)
    rw [hz.1, hz.2]
    clear hz z σ'
    refine ok_isubW 31 rfl rfl (ok_ist5 32 rfl rfl rfl (ok_iload_n 33 rfl rfl rfl (ok_iload 34 rfl rfl rfl (ok_iaddW 35 rfl rfl (ok_iret 36 rfl rfl rfl ?_)))))
    exact ⟨_, rfl, rfl, trivial⟩
  · refine ok_iload 9 rfl rfl rfl (ok_iload 10 rfl rfl rfl (ok_ishr 11 rfl rfl (ok_iconst 12 rfl rfl (by decide) (ok_iand 13 rfl rfl (ok_if_ne 14 39 rfl rfl rfl (fun h21 => ?_) (fun h21 => ?_))))))
    · refine ok_inc5 23 rfl rfl rfl (by first | omega | (simp [up_if]; omega) | (simp [up_if] at *; omega)) (ok_goto 24 8 rfl rfl rfl ?_)
      exact ih _ _ (j + 1) ⟨by omega, by omega, by omega, by omega⟩ (by omega)
    · refine ok_iload 15 rfl rfl rfl (ok_lload_n 16 rfl rfl rfl (ok_iload 17 rfl rfl rfl (ok_iload_n 18 rfl rfl rfl (ok_callSI (M' := M_Jo_groupOf) (as := [_, _, _]) 19 rfl rfl ml_X1_21 (s_Jo_groupOf hn) ⟨Nat.le_of_ble_eq_true rfl, Nat.le_of_ble_eq_true rfl⟩ rfl (Nat.le_of_ble_eq_true rfl) (fun σ' z1 x1 => ?_)))))
      obtain ⟨hs_, x1⟩ := x1
      rw [hs_]; clear hs_ σ'
      refine ok_ior 20 rfl rfl (ok_ist4 21 rfl rfl rfl (ok_inc3 22 rfl rfl rfl (by first | omega | (simp [up_if]; omega) | (simp [up_if] at *; omega)) (ok_inc5 23 rfl rfl rfl (by first | omega | (simp [up_if]; omega) | (simp [up_if] at *; omega)) (ok_goto 24 8 rfl rfl rfl ?_))))
      exact ih _ _ (j + 1) ⟨by omega, by omega, by omega, by omega⟩ (by omega)
theorem s_Jo_through {σ : eS} {J r c : Int} : MtL shA M_Jo_through [vl J, vi r, vi c] σ (fun σ' _ => σ' = σ ∧ True) := by
  refine Mt.of okM_Jo_through (Nat.le_of_ble_eq_true rfl) (fun hk hg => ?_)
  refine ok_ldc2 0 (255) rfl rfl kc_X1_11 (by decide) (ok_iload_n 1 rfl rfl rfl (ok_bipush 2 rfl rfl (by decide) (by decide) (ok_imulW 3 rfl rfl (ok_lshl 4 rfl rfl (ok_ldc2 5 (72340172838076673) rfl rfl kc_X1_13 (by decide) (ok_iload_n 6 rfl rfl rfl (ok_lshl 7 rfl rfl (ok_lor 8 rfl rfl (ok_lst4 9 rfl rfl rfl (ok_lload_n 10 rfl rfl rfl (ok_lload 11 rfl rfl rfl (ok_ldc2 12 (-1) rfl rfl kc_X1_15 (by decide) (ok_lxor 13 rfl rfl (ok_land 14 rfl rfl (ok_lconst (w := 1) 15 rfl rfl rfl (by decide) (ok_iload_n 16 rfl rfl rfl (ok_bipush 17 rfl rfl (by decide) (by decide) (ok_imulW 18 rfl rfl (ok_iload_n 19 rfl rfl rfl (ok_iaddW 20 rfl rfl (ok_lshl 21 rfl rfl (ok_lor 22 rfl rfl (ok_lret 23 rfl rfl rfl ?_)))))))))))))))))))))))
  exact ⟨_, rfl, rfl, trivial⟩
theorem s_Ta_greatestCell {σ : eS} {t : Nat} (ht : tA t) (hT : iT σ t) : MtI shA M_Ta_greatestCell [vr t] σ (fun σ' _ => σ' = σ ∧ True) := by
  refine Mt.of okM_Ta_greatestCell (Nat.le_of_ble_eq_true rfl) (fun hk hg => ?_)
  have hn := hT.1
  have hn2 := hT.2.1
  refine ok_iconst 0 rfl rfl (by decide) (ok_ist1 1 rfl rfl rfl (ok_iconst 2 rfl rfl (by decide) (ok_ist2 3 rfl rfl rfl ?_)))
  refine lpO2 (fun v i : Int => [some (vr t), some (vi v), some (vi i), none]) (fun _ _ => σ) (fun _ i => 0 ≤ i ∧ i ≤ 8) (fun _ i => (8 - i).toNat) ?_ 0 0 ⟨by omega, by omega⟩
  rintro v i ⟨i1, i2⟩ ih
  refine ok_iload_n 4 rfl rfl rfl (ok_aload_n 5 rfl rfl rfl (ok_getI 6 rfl rfl fl_X9_15 (sT ht) rfl (Or.inl rfl) (ok_icmp_ge 7 50 rfl rfl rfl (fun h9 => ?_) (fun h9 => ?_))))
  · refine ok_iload_n 29 rfl rfl rfl (ok_iret 30 rfl rfl rfl ?_)
    exact ⟨_, rfl, rfl, trivial⟩
  · refine ok_iconst 8 rfl rfl (by decide) (ok_ist3 9 rfl rfl rfl ?_)
    refine lpO2 (fun v j : Int => [some (vr t), some (vi v), some (vi i), some (vi j)]) (fun _ _ => σ) (fun _ j => 0 ≤ j ∧ j ≤ 8) (fun _ j => (8 - j).toNat) ?_ v 0 ⟨by omega, by omega⟩
    clear v
    rintro v j ⟨j1, j2⟩ ih2
    refine ok_iload_n 10 rfl rfl rfl (ok_aload_n 11 rfl rfl rfl (ok_getI 12 rfl rfl fl_X9_15 (sT ht) rfl (Or.inl rfl) (ok_icmp_ge 13 44 rfl rfl rfl (fun h19 => ?_) (fun h19 => ?_))))
    · refine ok_inc2 27 rfl rfl rfl (by first | omega | (simp [up_if]; omega) | (simp [up_if] at *; omega)) (ok_goto 28 4 rfl rfl rfl ?_)
      exact ok_fg [some (vr t), some (vi _), some (vi (i + 1)), none] ⟨rfl, rfl, rfl, trivial⟩ (ih _ (i + 1) ⟨by omega, by omega⟩ (by omega))
    · refine ok_iload_n 14 rfl rfl rfl (ok_aload_n 15 rfl rfl rfl (ok_getR 16 rfl rfl fl_X9_9 (sT ht) rfl (ok_iload_n 17 rfl rfl rfl (ok_bipush 18 rfl rfl (by decide) (by decide) (ok_imul 19 rfl rfl (by first | omega | (simp [up_if]; omega) | (simp [up_if] at *; omega)) (ok_iload_n 20 rfl rfl rfl (ok_iadd 21 rfl rfl (by first | omega | (simp [up_if]; omega) | (simp [up_if] at *; omega)) (ok_iald 22 rfl rfl (sC ht) (by first | omega | (simp [up_if]; omega) | (simp [up_if] at *; omega)) (ok_mmax 23 rfl rfl ml_X9_42 ⟨Nat.le_of_ble_eq_true rfl, Nat.le_of_ble_eq_true rfl⟩ (ok_ist1 24 rfl rfl rfl (ok_inc3 25 rfl rfl rfl (by first | omega | (simp [up_if]; omega) | (simp [up_if] at *; omega)) (ok_goto 26 14 rfl rfl rfl ?_))))))))))))
      exact ih2 _ (j + 1) ⟨by omega, by omega⟩ (by omega)
theorem s_Ta_joinedBy {σ : eS} {t : Nat} {m : Int} (ht : tA t) (hT : iT σ t) : MtL shA M_Ta_joinedBy [vr t, vi m] σ (fun σ' _ => σ' = σ ∧ True) := by
  refine Mt.of okM_Ta_joinedBy (Nat.le_of_ble_eq_true rfl) (fun hk hg => ?_)
  refine ok_aload_n 0 rfl rfl rfl (ok_getR 1 rfl rfl fl_X9_9 (sT ht) rfl (ok_aload_n 2 rfl rfl rfl (ok_getI 3 rfl rfl fl_X9_15 (sT ht) rfl (Or.inl rfl) (ok_iload_n 4 rfl rfl rfl (ok_callSL (M' := M_Jo_of) (as := [_, _, _]) 5 rfl rfl ml_X9_56 (s_Jo_of (sC ht) hT.2.1) ⟨Nat.le_of_ble_eq_true rfl, Nat.le_of_ble_eq_true rfl⟩ rfl (Nat.le_of_ble_eq_true rfl) (fun σ' z hz => ?_))))))
  obtain ⟨hs_, hz⟩ := hz
  rw [hs_]; clear hs_ σ'
  refine ok_lret 6 rfl rfl rfl ?_
  exact ⟨_, rfl, rfl, trivial⟩
theorem s_Ta_countAbove0 {σ : eS} {t : Nat} (ht : tA t) (hT : iT σ t) : MtI shA M_Ta_countAbove0 [vr t] σ (fun σ' _ => σ' = σ ∧ True) := by
  refine Mt.of okM_Ta_countAbove0 (Nat.le_of_ble_eq_true rfl) (fun hk hg => ?_)
  refine ok_aload_n 0 rfl rfl rfl (ok_iconst 1 rfl rfl (by decide) (ok_callVL (M' := M_Ta_joinedBy) (as := [_]) 2 rfl rfl ml_X9_65 (s_Ta_joinedBy ht hT) (sT ht) rfl (Nat.le_of_ble_eq_true rfl) ⟨Nat.le_of_ble_eq_true rfl, Nat.le_of_ble_eq_true rfl⟩ rfl (Nat.le_of_ble_eq_true rfl) (fun σ' z hz => ?_)))
  obtain ⟨hs_, hz⟩ := hz
  rw [hs_]; clear hs_ σ'
  refine ok_callSI (M' := M_Jl_bitCount) (as := [_]) 3 rfl rfl ml_X9_69 (s_Jl_bitCount) ⟨Nat.le_of_ble_eq_true rfl, Nat.le_of_ble_eq_true rfl⟩ rfl (Nat.le_of_ble_eq_true rfl) (fun σ' z2 hz2 => ?_)
  obtain ⟨hs_, hz2⟩ := hz2
  rw [hs_]; clear hs_ σ'
  refine ok_iret 4 rfl rfl rfl ?_
  exact ⟨_, rfl, rfl, trivial⟩
