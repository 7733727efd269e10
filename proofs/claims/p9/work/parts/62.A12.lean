theorem s_Tp_closeRow {σ : eS} (h : RA σ) (hat : σ 10 6 < σ 10 3) : MtV shA M_Tp_closeRow [vr 10] σ (fun σ' => QJ σ σ') := by
  refine Mt.of okM_Tp_closeRow (Nat.le_of_ble_eq_true rfl) (fun hk hg => ?_)
  obtain ⟨h0, h1, h2, h3, h4, h5, h6, h7, h8, h9⟩ := id h
  obtain ⟨p1, p2, p3, p4⟩ := id h0
  refine ok_aload_n 0 rfl rfl rfl (ok_getI 1 rfl rfl fl_X10_34 rfl rfl (Or.inl rfl) (ok_bipush 2 rfl rfl (by decide) (by decide) (ok_icmp_ne 3 21 rfl rfl rfl (fun h6 => ?_) (fun h6 => ?_))))
  · refine ok_aload_n 10 rfl rfl rfl (ok_getI 11 rfl rfl fl_X10_34 rfl rfl (Or.inl rfl) (ok_if_le 12 51 rfl rfl rfl (fun h25 => ?_) (fun h25 => ?_)))
    · have W : ∀ τ : eS, fr (fun c k => c = 10 ∧ k = 9) σ τ → (σ 10 7 = 0 → τ 10 9 = σ 10 8) → (σ 10 7 ≠ 0 → τ 10 9 = σ 10 9 ∧ σ 10 8 = σ 10 9) → QJ σ (up (up (up τ 10 7 (σ 10 7 + 1)) 10 8 0) 10 6 (σ 10 6 + 1)) := fun τ f e0 e1 => by
        have x : ∀ k, k ≠ 9 → τ 10 k = σ 10 k := fun k q => f 10 k (by omega)
        obtain ⟨ω, eω⟩ : ∃ ω, ω = up (up (up τ 10 7 (σ 10 7 + 1)) 10 8 0) 10 6 (σ 10 6 + 1) := ⟨_, rfl⟩
        have y3 : ω 10 3 = σ 10 3 := by rw [eω]; simp [up_if]; exact x 3 (by decide)
        have y6 : ω 10 6 = σ 10 6 + 1 := by rw [eω]; simp [up_if]
        have y7 : ω 10 7 = σ 10 7 + 1 := by rw [eω]; simp [up_if]
        have y8 : ω 10 8 = 0 := by rw [eω]; simp [up_if]
        have y9 : ω 10 9 = τ 10 9 := by rw [eω]; simp [up_if]
        have eu : ∀ k, uA σ k → uA ω k := fun k hk => by
          unfold uA
          rw [eω, up_ne _ _ _ _ (by decide), up_ne _ _ _ _ (by decide), up_ne _ _ _ _ (by decide), up_ne _ _ _ _ (by decide), up_ne _ _ _ _ (by decide), up_ne _ _ _ _ (by decide), f 12 k (by omega), f 13 k (by omega)]
          exact hk
        rw [← eω]
        have w9 : τ 10 9 = σ 10 8 := by
          by_cases q : σ 10 7 = 0
          · exact e0 q
          · have := e1 q; omega
        refine ⟨?_, ⟨by omega, by omega, by omega, by omega⟩, by omega, by omega, by omega, by omega, by omega, by omega, fun i j a b c d => ?_, fun j a b c => by omega, fun _ => by omega⟩
        · rw [eω]
          exact fr_up (fr_up (fr_up (f.mono (fun c k q => by simp only [rgJ]; omega)) (by simp [rgJ])) (by simp [rgJ])) (by simp [rgJ])
        · rcases (show i = σ 10 7 ∨ i < σ 10 7 by omega) with q | q
          · rw [q]; exact eu _ (h8 j (by omega) c (by omega))
          · have := e1 (by omega)
            exact eu _ (h7 i j a q c (by omega))
      refine ok_aload_n 24 rfl rfl rfl (ok_getI 25 rfl rfl fl_X10_34 rfl rfl (Or.inl rfl) (ok_if_ne 26 66 rfl rfl rfl (fun h55 => ?_) (fun h55 => ?_)))
      · refine ok_aload_n 31 rfl rfl rfl (ok_dup 32 rfl rfl rfl (ok_getI 33 rfl rfl fl_X10_34 rfl rfl (Or.inl rfl) (ok_iconst 34 rfl rfl (by decide) (ok_iadd 35 rfl rfl (by first | omega | (simp [up_if]; omega) | (simp [up_if] at *; omega)) (ok_putI 36 rfl rfl fl_X10_34 rfl rfl rfl rfl (ok_aload_n 37 rfl rfl rfl (ok_iconst 38 rfl rfl (by decide) (ok_putI 39 rfl rfl fl_X10_37 rfl rfl rfl rfl (ok_aload_n 40 rfl rfl rfl (ok_dup 41 rfl rfl rfl (ok_getI 42 rfl rfl fl_X10_31 rfl rfl (Or.inl rfl) (ok_iconst 43 rfl rfl (by decide) (ok_iadd 44 rfl rfl (by first | omega | (simp [up_if]; omega) | (simp [up_if] at *; omega)) (ok_putI 45 rfl rfl fl_X10_31 rfl rfl rfl rfl (ok_vret 46 rfl rfl rfl ?_)))))))))))))))
        refine ⟨rfl, ?_⟩
        have k1 : (10 : Nat) = 10 := rfl
        rw [up_nk _ _ _ _ (show (6 : Int) ≠ 8 by decide), up_nk _ _ _ _ (show (6 : Int) ≠ 7 by decide)]
        first
          | exact W σ fr.rf (fun q => by omega) (fun q => ⟨rfl, by have := h9 (by omega); omega⟩)
          | (rw [up_nk _ _ _ _ (show (6 : Int) ≠ 9 by decide), up_nk _ _ _ _ (show (7 : Int) ≠ 9 by decide)]; exact W (up σ 10 9 (σ 10 8)) (fr_up fr.rf ⟨rfl, rfl⟩) (fun _ => up_same _ _ _ _) (fun q => absurd (by omega) q))
      · refine ok_aload_n 27 rfl rfl rfl (ok_aload_n 28 rfl rfl rfl (ok_getI 29 rfl rfl fl_X10_37 rfl rfl (Or.inl rfl) (ok_putI 30 rfl rfl fl_X10_40 rfl rfl rfl rfl (ok_aload_n 31 rfl rfl rfl (ok_dup 32 rfl rfl rfl (ok_getI 33 rfl rfl fl_X10_34 rfl rfl (Or.inl rfl) (ok_iconst 34 rfl rfl (by decide) (ok_iadd 35 rfl rfl (by first | omega | (simp [up_if]; omega) | (simp [up_if] at *; omega)) (ok_putI 36 rfl rfl fl_X10_34 rfl rfl rfl rfl (ok_aload_n 37 rfl rfl rfl (ok_iconst 38 rfl rfl (by decide) (ok_putI 39 rfl rfl fl_X10_37 rfl rfl rfl rfl (ok_aload_n 40 rfl rfl rfl (ok_dup 41 rfl rfl rfl (ok_getI 42 rfl rfl fl_X10_31 rfl rfl (Or.inl rfl) (ok_iconst 43 rfl rfl (by decide) (ok_iadd 44 rfl rfl (by first | omega | (simp [up_if]; omega) | (simp [up_if] at *; omega)) (ok_putI 45 rfl rfl fl_X10_31 rfl rfl rfl rfl (ok_vret 46 rfl rfl rfl ?_)))))))))))))))))))
        refine ⟨rfl, ?_⟩
        have k1 : (10 : Nat) = 10 := rfl
        rw [up_nk _ _ _ _ (show (6 : Int) ≠ 8 by decide), up_nk _ _ _ _ (show (6 : Int) ≠ 7 by decide)]
        first
          | exact W σ fr.rf (fun q => by omega) (fun q => ⟨rfl, by have := h9 (by omega); omega⟩)
          | (rw [up_nk _ _ _ _ (show (6 : Int) ≠ 9 by decide), up_nk _ _ _ _ (show (7 : Int) ≠ 9 by decide)]; exact W (up σ 10 9 (σ 10 8)) (fr_up fr.rf ⟨rfl, rfl⟩) (fun _ => up_same _ _ _ _) (fun q => absurd (by omega) q))
    · refine ok_aload_n 13 rfl rfl rfl (ok_getI 14 rfl rfl fl_X10_37 rfl rfl (Or.inl rfl) (ok_aload_n 15 rfl rfl rfl (ok_getI 16 rfl rfl fl_X10_40 rfl rfl (Or.inl rfl) (ok_icmp_eq 17 51 rfl rfl rfl (fun h36 => ?_) (fun h36 => ?_)))))
      · have W : ∀ τ : eS, fr (fun c k => c = 10 ∧ k = 9) σ τ → (σ 10 7 = 0 → τ 10 9 = σ 10 8) → (σ 10 7 ≠ 0 → τ 10 9 = σ 10 9 ∧ σ 10 8 = σ 10 9) → QJ σ (up (up (up τ 10 7 (σ 10 7 + 1)) 10 8 0) 10 6 (σ 10 6 + 1)) := fun τ f e0 e1 => by
          have x : ∀ k, k ≠ 9 → τ 10 k = σ 10 k := fun k q => f 10 k (by omega)
          obtain ⟨ω, eω⟩ : ∃ ω, ω = up (up (up τ 10 7 (σ 10 7 + 1)) 10 8 0) 10 6 (σ 10 6 + 1) := ⟨_, rfl⟩
          have y3 : ω 10 3 = σ 10 3 := by rw [eω]; simp [up_if]; exact x 3 (by decide)
          have y6 : ω 10 6 = σ 10 6 + 1 := by rw [eω]; simp [up_if]
          have y7 : ω 10 7 = σ 10 7 + 1 := by rw [eω]; simp [up_if]
          have y8 : ω 10 8 = 0 := by rw [eω]; simp [up_if]
          have y9 : ω 10 9 = τ 10 9 := by rw [eω]; simp [up_if]
          have eu : ∀ k, uA σ k → uA ω k := fun k hk => by
            unfold uA
            rw [eω, up_ne _ _ _ _ (by decide), up_ne _ _ _ _ (by decide), up_ne _ _ _ _ (by decide), up_ne _ _ _ _ (by decide), up_ne _ _ _ _ (by decide), up_ne _ _ _ _ (by decide), f 12 k (by omega), f 13 k (by omega)]
            exact hk
          rw [← eω]
          have w9 : τ 10 9 = σ 10 8 := by
            by_cases q : σ 10 7 = 0
            · exact e0 q
            · have := e1 q; omega
          refine ⟨?_, ⟨by omega, by omega, by omega, by omega⟩, by omega, by omega, by omega, by omega, by omega, by omega, fun i j a b c d => ?_, fun j a b c => by omega, fun _ => by omega⟩
          · rw [eω]
            exact fr_up (fr_up (fr_up (f.mono (fun c k q => by simp only [rgJ]; omega)) (by simp [rgJ])) (by simp [rgJ])) (by simp [rgJ])
          · rcases (show i = σ 10 7 ∨ i < σ 10 7 by omega) with q | q
            · rw [q]; exact eu _ (h8 j (by omega) c (by omega))
            · have := e1 (by omega)
              exact eu _ (h7 i j a q c (by omega))
        refine ok_aload_n 24 rfl rfl rfl (ok_getI 25 rfl rfl fl_X10_34 rfl rfl (Or.inl rfl) (ok_if_ne 26 66 rfl rfl rfl (fun h55 => ?_) (fun h55 => ?_)))
        · refine ok_aload_n 31 rfl rfl rfl (ok_dup 32 rfl rfl rfl (ok_getI 33 rfl rfl fl_X10_34 rfl rfl (Or.inl rfl) (ok_iconst 34 rfl rfl (by decide) (ok_iadd 35 rfl rfl (by first | omega | (simp [up_if]; omega) | (simp [up_if] at *; omega)) (ok_putI 36 rfl rfl fl_X10_34 rfl rfl rfl rfl (ok_aload_n 37 rfl rfl rfl (ok_iconst 38 rfl rfl (by decide) (ok_putI 39 rfl rfl fl_X10_37 rfl rfl rfl rfl (ok_aload_n 40 rfl rfl rfl (ok_dup 41 rfl rfl rfl (ok_getI 42 rfl rfl fl_X10_31 rfl rfl (Or.inl rfl) (ok_iconst 43 rfl rfl (by decide) (ok_iadd 44 rfl rfl (by first | omega | (simp [up_if]; omega) | (simp [up_if] at *; omega)) (ok_putI 45 rfl rfl fl_X10_31 rfl rfl rfl rfl (ok_vret 46 rfl rfl rfl ?_)))))))))))))))
          refine ⟨rfl, ?_⟩
          have k1 : (10 : Nat) = 10 := rfl
          rw [up_nk _ _ _ _ (show (6 : Int) ≠ 8 by decide), up_nk _ _ _ _ (show (6 : Int) ≠ 7 by decide)]
          first
            | exact W σ fr.rf (fun q => by omega) (fun q => ⟨rfl, by have := h9 (by omega); omega⟩)
            | (rw [up_nk _ _ _ _ (show (6 : Int) ≠ 9 by decide), up_nk _ _ _ _ (show (7 : Int) ≠ 9 by decide)]; exact W (up σ 10 9 (σ 10 8)) (fr_up fr.rf ⟨rfl, rfl⟩) (fun _ => up_same _ _ _ _) (fun q => absurd (by omega) q))
        · refine ok_aload_n 27 rfl rfl rfl (ok_aload_n 28 rfl rfl rfl (ok_getI 29 rfl rfl fl_X10_37 rfl rfl (Or.inl rfl) (ok_putI 30 rfl rfl fl_X10_40 rfl rfl rfl rfl (ok_aload_n 31 rfl rfl rfl (ok_dup 32 rfl rfl rfl (ok_getI 33 rfl rfl fl_X10_34 rfl rfl (Or.inl rfl) (ok_iconst 34 rfl rfl (by decide) (ok_iadd 35 rfl rfl (by first | omega | (simp [up_if]; omega) | (simp [up_if] at *; omega)) (ok_putI 36 rfl rfl fl_X10_34 rfl rfl rfl rfl (ok_aload_n 37 rfl rfl rfl (ok_iconst 38 rfl rfl (by decide) (ok_putI 39 rfl rfl fl_X10_37 rfl rfl rfl rfl (ok_aload_n 40 rfl rfl rfl (ok_dup 41 rfl rfl rfl (ok_getI 42 rfl rfl fl_X10_31 rfl rfl (Or.inl rfl) (ok_iconst 43 rfl rfl (by decide) (ok_iadd 44 rfl rfl (by first | omega | (simp [up_if]; omega) | (simp [up_if] at *; omega)) (ok_putI 45 rfl rfl fl_X10_31 rfl rfl rfl rfl (ok_vret 46 rfl rfl rfl ?_)))))))))))))))))))
          refine ⟨rfl, ?_⟩
          have k1 : (10 : Nat) = 10 := rfl
          rw [up_nk _ _ _ _ (show (6 : Int) ≠ 8 by decide), up_nk _ _ _ _ (show (6 : Int) ≠ 7 by decide)]
          first
            | exact W σ fr.rf (fun q => by omega) (fun q => ⟨rfl, by have := h9 (by omega); omega⟩)
            | (rw [up_nk _ _ _ _ (show (6 : Int) ≠ 9 by decide), up_nk _ _ _ _ (show (7 : Int) ≠ 9 by decide)]; exact W (up σ 10 9 (σ 10 8)) (fr_up fr.rf ⟨rfl, rfl⟩) (fun _ => up_same _ _ _ _) (fun q => absurd (by omega) q))
      · refine ok_aload_n 18 rfl rfl rfl (ok_iconst 19 rfl rfl (by decide) (ok_aload_n 20 rfl rfl rfl (ok_getI 21 rfl rfl fl_X10_31 rfl rfl (Or.inl rfl) (ok_callVV (M' := M_Tp_fail) (as := [_, _]) 22 rfl rfl ml_X10_75 (s_Tp_fail) rfl rfl (Nat.le_of_ble_eq_true rfl) ⟨Nat.le_of_ble_eq_true rfl, Nat.le_of_ble_eq_true rfl⟩ rfl (Nat.le_of_ble_eq_true rfl) (fun σ' hz => ?_)))))
        rw [hz]
        clear hz σ'
        refine ok_goto 23 91 rfl rfl rfl (ok_vret 46 rfl rfl rfl ?_)
        exact ⟨rfl, QJ_D h (QD_f h0 _ _)⟩
  · refine ok_aload_n 4 rfl rfl rfl (ok_iconst 5 rfl rfl (by decide) (ok_aload_n 6 rfl rfl rfl (ok_getI 7 rfl rfl fl_X10_31 rfl rfl (Or.inl rfl) (ok_callVV (M' := M_Tp_fail) (as := [_, _]) 8 rfl rfl ml_X10_75 (s_Tp_fail) rfl rfl (Nat.le_of_ble_eq_true rfl) ⟨Nat.le_of_ble_eq_true rfl, Nat.le_of_ble_eq_true rfl⟩ rfl (Nat.le_of_ble_eq_true rfl) (fun σ' hz => ?_)))))
    rw [hz]
    clear hz σ'
    refine ok_goto 9 91 rfl rfl rfl (ok_vret 46 rfl rfl rfl ?_)
    exact ⟨rfl, QJ_D h (QD_f h0 _ _)⟩
